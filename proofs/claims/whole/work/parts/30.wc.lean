set_option maxHeartbeats 4000000 in
set_option maxRecDepth 100000 in
theorem kX10_in {l : Launch} {D : va_G} {dA : Nat → ClassId} {lo : Nat} {n : Nat} {M : mm_M} {x0 : Int32} {x1 : Int32} {x2 : Int32} (o : Int32 × mm_M) (h : pX10_in n M x0 x1 x2 = some o) : mm_Met l D dA lo yX10_in cX10_in 3 (some .boolean) 0 0 0 0 [.int x0, .int x1, .int x2] M (some (.int o.1)) o.2 := by
  unfold pX10_in at h
  refine mm_enter (by decide) (Nat.le_of_ble_eq_true rfl) (fun p e s m args below meth c ls X hr hlk hnm I hl => ?_)
  have X : mm_C D dA lo cX10_in RX10 3 p s m args c := X
  have hl : lv_has ls 3 [(0, .int x0), (1, .int x1), (2, .int x2)] := hl
  refine lv_iload_n X.1 X.2.1 dX10_in_0 rfl (lv_at hl 0 rfl) ?_
  refine lv_iload_n X.1 X.2.1 dX10_in_1 rfl (lv_at hl 1 rfl) ?_
  refine mm_klt (tgt := 14) X dX10_in_2 (by decide) h (fun h => ?_) (fun h => ?_)
  · refine lv_iconst (v := 0) X.1 X.2.1 dX10_in_14 (by decide) ?_
    exact mm_xz0 X I hr hlk dX10_in_15 h
  · refine lv_iload_n X.1 X.2.1 dX10_in_5 rfl (lv_at hl 0 rfl) ?_
    refine lv_iload_n X.1 X.2.1 dX10_in_6 rfl (lv_at hl 2 rfl) ?_
    refine mm_kgt (tgt := 14) X dX10_in_7 (by decide) h (fun h => ?_) (fun h => ?_)
    · refine lv_iconst (v := 0) X.1 X.2.1 dX10_in_14 (by decide) ?_
      exact mm_xz0 X I hr hlk dX10_in_15 h
    · refine lv_iconst (v := 1) X.1 X.2.1 dX10_in_10 (by decide) ?_
      refine lv_goto (tgt := 15) X.1 X.2.1 dX10_in_11 (by decide) ?_
      exact mm_xz1 X I hr hlk dX10_in_15 h
set_option maxHeartbeats 4000000 in
set_option maxRecDepth 100000 in
theorem kX10_thrown {l : Launch} {D : va_G} {dA : Nat → ClassId} {lo : Nat} {n : Nat} {M : mm_M} {a0 : Nat} (o : Int32 × mm_M) (h : pX10_thrown n M a0 = some o) : (∃ fs, M.2 a0 = some (mm_ob 10 fs)) ∧ mm_Met l D dA lo yX10_thrown cX10_thrown 1 (some .int) 0 0 0 0 [.ref a0] M (some (.int o.1)) o.2 := by
  unfold pX10_thrown at h
  obtain ⟨hob, h⟩ := mm_v_some h
  refine ⟨hob, mm_enter (by decide) (Nat.le_of_ble_eq_true rfl) (fun p e s m args below meth c ls X hr hlk hnm I hl => ?_)⟩
  have X : mm_C D dA lo cX10_thrown RX10 1 p s m args c := X
  have hl : lv_has ls 1 [(0, .ref a0)] := hl
  refine lv_aload_n X.1 X.2.1 dX10_thrown_0 rfl (lv_at hl 0 rfl) ?_
  refine mm_rgi X I fl_X10_58 dX10_thrown_1 h (fun v1 h => ?_)
  exact mm_xi X I hr hlk dX10_thrown_4 h
set_option maxHeartbeats 4000000 in
set_option maxRecDepth 100000 in
theorem wpX10_byteOf_b45 {p : Program} {l : Launch} {e : Env} {s : State} {m : MethodId} {args : Array Value} {below : List Frame} {meth : Method} {c : Code} {D : va_G} {dA : Nat → ClassId} {lo : Nat} (X : mm_C D dA lo cX10_byteOf RX10 7 p s m args c) (hr : meth.sig.returnType = (some .int)) (hlk : meth.locks = false) (n : Nat) {o : Int32 × mm_M}  : ∀ (M : mm_M) (x5 : Int32) (s0 : Int32) (H : Heap) (locs : List Loc) (ls : Array Slot), mm_I D dA lo s M H locs → lv_has ls 7 [(5, .int x5)] → pX10_byteOf_b45 n M x5 s0 = some o → W p l e (mm_rm 0 0 0 0) s m args below meth c H locs 0 0 (MQ below (mm_Q D dA lo (some (.int o.1)) o.2) args s 0 0 (mm_fr lo)) (F0 m 45 ls [.int s0]) := by
  intro M x5 s0 H locs ls I hl h
  unfold pX10_byteOf_b45 at h
  refine lv_istore (lv' := [(6, .int s0), (5, .int x5)]) X.1 X.2.1 dX10_byteOf_45 hl (by decide) rfl (fun ls hl => ?_)
  refine lv_iload X.1 X.2.1 dX10_byteOf_47 (lv_at hl 0 rfl) ?_
  refine lv_bipush (v := 24) X.1 X.2.1 dX10_byteOf_49 (by decide) ?_
  refine lv_bipush (v := 8) X.1 X.2.1 dX10_byteOf_51 (by decide) ?_
  refine lv_iload X.1 X.2.1 dX10_byteOf_53 (lv_at hl 1 rfl) ?_
  refine lv_iconst (v := 4) X.1 X.2.1 dX10_byteOf_55 (by decide) ?_
  refine mm_rrem X dX10_byteOf_56 h (fun h => ?_)
  refine lv_imul X.1 X.2.1 dX10_byteOf_57 ?_
  refine lv_isub X.1 X.2.1 dX10_byteOf_58 ?_
  refine lv_ishr X.1 X.2.1 dX10_byteOf_59 ?_
  refine lv_sipush (v := 255) X.1 X.2.1 dX10_byteOf_60 (by decide) ?_
  refine lv_iand X.1 X.2.1 dX10_byteOf_63 ?_
  exact mm_xi X I hr hlk dX10_byteOf_64 h
set_option maxHeartbeats 4000000 in
set_option maxRecDepth 100000 in
theorem kX10_byteOf {l : Launch} {D : va_G} {dA : Nat → ClassId} {lo : Nat} {n : Nat} {M : mm_M} {x0 : Int32} {x1 : Int32} {x2 : Int32} {x3 : Int32} {x4 : Int32} {x5 : Int32} (o : Int32 × mm_M) (h : pX10_byteOf n M x0 x1 x2 x3 x4 x5 = some o) : mm_Met l D dA lo yX10_byteOf cX10_byteOf 7 (some .int) 0 0 0 0 [.int x0, .int x1, .int x2, .int x3, .int x4, .int x5] M (some (.int o.1)) o.2 := by
  unfold pX10_byteOf at h
  refine mm_enter (by decide) (Nat.le_of_ble_eq_true rfl) (fun p e s m args below meth c ls X hr hlk hnm I hl => ?_)
  have X : mm_C D dA lo cX10_byteOf RX10 7 p s m args c := X
  have hl : lv_has ls 7 [(0, .int x0), (1, .int x1), (2, .int x2), (3, .int x3), (4, .int x4), (5, .int x5)] := hl
  refine lv_iload X.1 X.2.1 dX10_byteOf_0 (lv_at hl 5 rfl) ?_
  refine lv_iconst (v := 4) X.1 X.2.1 dX10_byteOf_2 (by decide) ?_
  refine mm_kge (tgt := 10) X dX10_byteOf_3 (by decide) h (fun h => ?_) (fun h => ?_)
  · refine lv_iload X.1 X.2.1 dX10_byteOf_10 (lv_at hl 5 rfl) ?_
    refine lv_bipush (v := 8) X.1 X.2.1 dX10_byteOf_12 (by decide) ?_
    refine mm_kge (tgt := 21) X dX10_byteOf_14 (by decide) h (fun h => ?_) (fun h => ?_)
    · refine lv_iload X.1 X.2.1 dX10_byteOf_21 (lv_at hl 5 rfl) ?_
      refine lv_bipush (v := 12) X.1 X.2.1 dX10_byteOf_23 (by decide) ?_
      refine mm_kge (tgt := 32) X dX10_byteOf_25 (by decide) h (fun h => ?_) (fun h => ?_)
      · refine lv_iload X.1 X.2.1 dX10_byteOf_32 (lv_at hl 5 rfl) ?_
        refine lv_bipush (v := 16) X.1 X.2.1 dX10_byteOf_34 (by decide) ?_
        refine mm_kge (tgt := 43) X dX10_byteOf_36 (by decide) h (fun h => ?_) (fun h => ?_)
        · refine lv_iload X.1 X.2.1 dX10_byteOf_43 (lv_at hl 4 rfl) ?_
          exact wpX10_byteOf_b45 X hr hlk n  M _ _ _ _ _ I (lv_sub hl [5] rfl) h
        · refine lv_iload_n X.1 X.2.1 dX10_byteOf_39 rfl (lv_at hl 3 rfl) ?_
          refine lv_goto (tgt := 45) X.1 X.2.1 dX10_byteOf_40 (by decide) ?_
          exact wpX10_byteOf_b45 X hr hlk n  M _ _ _ _ _ I (lv_sub hl [5] rfl) h
      · refine lv_iload_n X.1 X.2.1 dX10_byteOf_28 rfl (lv_at hl 2 rfl) ?_
        refine lv_goto (tgt := 45) X.1 X.2.1 dX10_byteOf_29 (by decide) ?_
        exact wpX10_byteOf_b45 X hr hlk n  M _ _ _ _ _ I (lv_sub hl [5] rfl) h
    · refine lv_iload_n X.1 X.2.1 dX10_byteOf_17 rfl (lv_at hl 1 rfl) ?_
      refine lv_goto (tgt := 45) X.1 X.2.1 dX10_byteOf_18 (by decide) ?_
      exact wpX10_byteOf_b45 X hr hlk n  M _ _ _ _ _ I (lv_sub hl [5] rfl) h
  · refine lv_iload_n X.1 X.2.1 dX10_byteOf_6 rfl (lv_at hl 0 rfl) ?_
    refine lv_goto (tgt := 45) X.1 X.2.1 dX10_byteOf_7 (by decide) ?_
    exact wpX10_byteOf_b45 X hr hlk n  M _ _ _ _ _ I (lv_sub hl [5] rfl) h
set_option maxHeartbeats 4000000 in
set_option maxRecDepth 100000 in
theorem wpX10_feed_l62 {p : Program} {l : Launch} {e : Env} {s : State} {m : MethodId} {args : Array Value} {below : List Frame} {meth : Method} {c : Code} {D : va_G} {dA : Nat → ClassId} {lo : Nat} (X : mm_C D dA lo cX10_feed RX10 9 p s m args c) (hr : meth.sig.returnType = (some .int)) (hlk : meth.locks = false) (n : Nat) {o : Int32 × mm_M} (k : Nat) : ∀ (M : mm_M) (a0 : Nat) (x1 : Int32) (x2 : Int32) (x3 : Int32) (x4 : Int32) (x5 : Int32) (x7 : Int32) (H : Heap) (locs : List Loc) (ls : Array Slot), mm_I D dA lo s M H locs → lv_has ls 9 [(0, .ref a0), (1, .int x1), (2, .int x2), (3, .int x3), (4, .int x4), (5, .int x5), (7, .int x7)] → pX10_feed_l62 n k M a0 x1 x2 x3 x4 x5 x7 = some o → W p l e (mm_rm 1 26 0 0) s m args below meth c H locs 0 0 (MQ below (mm_Q D dA lo (some (.int o.1)) o.2) args s 0 0 (mm_fr lo)) (F0 m 62 ls []) := by
  induction k with
  | zero =>
    intro M a0 x1 x2 x3 x4 x5 x7 H locs ls I hl h
    have h : (none : Option (Int32 × mm_M)) = some o := h
    cases h
  | succ k ih =>
    intro M a0 x1 x2 x3 x4 x5 x7 H locs ls I hl h
    have h : pX10_feed_l62b n (pX10_feed_l62 n k) M a0 x1 x2 x3 x4 x5 x7 = some o := h
    unfold pX10_feed_l62b at h
    refine lv_iload X.1 X.2.1 dX10_feed_62 (lv_at hl 6 rfl) ?_
    refine lv_bipush (v := 20) X.1 X.2.1 dX10_feed_64 (by decide) ?_
    refine mm_kge (tgt := 115) X dX10_feed_66 (by decide) h (fun h => ?_) (fun h => ?_)
    · refine lv_aload_n X.1 X.2.1 dX10_feed_115 rfl (lv_at hl 0 rfl) ?_
      refine mm_rgi X I fl_X10_66 dX10_feed_116 h (fun v1 h => ?_)
      exact mm_xi X I hr hlk dX10_feed_119 h
    · refine lv_iload_n X.1 X.2.1 dX10_feed_69 rfl (lv_at hl 1 rfl) ?_
      refine lv_iload_n X.1 X.2.1 dX10_feed_70 rfl (lv_at hl 2 rfl) ?_
      refine lv_iload_n X.1 X.2.1 dX10_feed_71 rfl (lv_at hl 3 rfl) ?_
      refine lv_iload X.1 X.2.1 dX10_feed_72 (lv_at hl 4 rfl) ?_
      refine lv_iload X.1 X.2.1 dX10_feed_74 (lv_at hl 5 rfl) ?_
      refine lv_iload X.1 X.2.1 dX10_feed_76 (lv_at hl 6 rfl) ?_
      refine mm_cSi X I hl (As := [.int x1, .int x2, .int x3, .int x4, .int x5, .int x7]) md_X10_byteOf mv_X10_byteOf ml_X10_62 (kX10_byteOf (n := n)) (by decide) ⟨Nat.le_refl 0, Nat.le_refl 0⟩ rfl rfl (Nat.le_of_ble_eq_true rfl) dX10_feed_78 h (fun v2 M H locs I h => ?_)
      refine lv_istore (lv' := [(8, .int v2), (0, .ref a0), (1, .int x1), (2, .int x2), (3, .int x3), (4, .int x4), (5, .int x5), (7, .int x7)]) X.1 X.2.1 dX10_feed_81 hl (by decide) rfl (fun ls hl => ?_)
      refine lv_iload X.1 X.2.1 dX10_feed_83 (lv_at hl 0 rfl) ?_
      refine mm_jeq (tgt := 109) X dX10_feed_85 (by decide) h (fun h => ?_) (fun h => ?_)
      · refine lv_iinc (v := (x7 + 1)) (lv' := [(7, .int (x7 + 1)), (8, .int v2), (0, .ref a0), (1, .int x1), (2, .int x2), (3, .int x3), (4, .int x4), (5, .int x5)]) X.1 X.2.1 dX10_feed_109 hl (k := 7) rfl rfl (by decide) rfl (fun ls hl => ?_)
        refine lv_goto (tgt := 62) X.1 X.2.1 dX10_feed_112 (by decide) ?_
        exact ih M _ _ _ _ _ _ _ _ _ _ I (lv_sub hl [2, 3, 4, 5, 6, 7, 0] rfl) h
      · refine lv_aload_n X.1 X.2.1 dX10_feed_88 rfl (lv_at hl 1 rfl) ?_
        refine mm_rgr X I fl_X10_9 dX10_feed_89 h (fun v3 h => ?_)
        refine lv_aload_n X.1 X.2.1 dX10_feed_92 rfl (lv_at hl 1 rfl) ?_
        refine mm_rgi X I fl_X10_66 dX10_feed_93 h (fun v4 h => ?_)
        refine lv_iload X.1 X.2.1 dX10_feed_96 (lv_at hl 0 rfl) ?_
        refine mm_ris X I dX10_feed_98 h (fun M H locs I h => ?_)
        refine lv_aload_n X.1 X.2.1 dX10_feed_99 rfl (lv_at hl 1 rfl) ?_
        refine lv_dup X.1 X.2.1 dX10_feed_100 rfl ?_
        refine mm_rgi X I fl_X10_66 dX10_feed_101 h (fun v5 h => ?_)
        refine lv_iconst (v := 1) X.1 X.2.1 dX10_feed_104 (by decide) ?_
        refine lv_iadd X.1 X.2.1 dX10_feed_105 ?_
        refine mm_rpi X I fl_X10_66 dX10_feed_106 h (fun M H locs I h => ?_)
        refine lv_iinc (v := (x7 + 1)) (lv' := [(7, .int (x7 + 1)), (8, .int v2), (0, .ref a0), (1, .int x1), (2, .int x2), (3, .int x3), (4, .int x4), (5, .int x5)]) X.1 X.2.1 dX10_feed_109 hl (k := 7) rfl rfl (by decide) rfl (fun ls hl => ?_)
        refine lv_goto (tgt := 62) X.1 X.2.1 dX10_feed_112 (by decide) ?_
        exact ih M _ _ _ _ _ _ _ _ _ _ I (lv_sub hl [2, 3, 4, 5, 6, 7, 0] rfl) h
set_option maxHeartbeats 4000000 in
set_option maxRecDepth 100000 in
theorem wpX10_feed_b44 {p : Program} {l : Launch} {e : Env} {s : State} {m : MethodId} {args : Array Value} {below : List Frame} {meth : Method} {c : Code} {D : va_G} {dA : Nat → ClassId} {lo : Nat} (X : mm_C D dA lo cX10_feed RX10 9 p s m args c) (hr : meth.sig.returnType = (some .int)) (hlk : meth.locks = false) (n : Nat) {o : Int32 × mm_M}  : ∀ (M : mm_M) (a0 : Nat) (x1 : Int32) (x2 : Int32) (x3 : Int32) (x4 : Int32) (x5 : Int32) (x6 : Int32) (H : Heap) (locs : List Loc) (ls : Array Slot), mm_I D dA lo s M H locs → lv_has ls 9 [(0, .ref a0), (1, .int x1), (2, .int x2), (3, .int x3), (4, .int x4), (5, .int x5), (6, .int x6)] → pX10_feed_b44 n M a0 x1 x2 x3 x4 x5 x6 = some o → W p l e (mm_rm 1 26 0 0) s m args below meth c H locs 0 0 (MQ below (mm_Q D dA lo (some (.int o.1)) o.2) args s 0 0 (mm_fr lo)) (F0 m 44 ls []) := by
  intro M a0 x1 x2 x3 x4 x5 x6 H locs ls I hl h
  unfold pX10_feed_b44 at h
  refine lv_aload_n X.1 X.2.1 dX10_feed_44 rfl (lv_at hl 0 rfl) ?_
  refine mm_rgi X I fl_X10_66 dX10_feed_45 h (fun v1 h => ?_)
  refine lv_iload X.1 X.2.1 dX10_feed_48 (lv_at hl 6 rfl) ?_
  refine lv_iadd X.1 X.2.1 dX10_feed_50 ?_
  refine lv_sipush (v := 240) X.1 X.2.1 dX10_feed_51 (by decide) ?_
  refine mm_kle (tgt := 59) X dX10_feed_54 (by decide) h (fun h => ?_) (fun h => ?_)
  · refine lv_iconst (v := 0) X.1 X.2.1 dX10_feed_59 (by decide) ?_
    refine lv_istore (lv' := [(7, .int 0), (0, .ref a0), (1, .int x1), (2, .int x2), (3, .int x3), (4, .int x4), (5, .int x5), (6, .int x6)]) X.1 X.2.1 dX10_feed_60 hl (by decide) rfl (fun ls hl => ?_)
    exact wpX10_feed_l62 X hr hlk n  n M _ _ _ _ _ _ _ _ _ _ I (lv_sub hl [1, 2, 3, 4, 5, 6, 0] rfl) h
  · refine lv_iconst (v := (-1)) X.1 X.2.1 dX10_feed_57 (by decide) ?_
    exact mm_xi X I hr hlk dX10_feed_58 h
set_option maxHeartbeats 4000000 in
set_option maxRecDepth 100000 in
theorem wpX10_feed_l6 {p : Program} {l : Launch} {e : Env} {s : State} {m : MethodId} {args : Array Value} {below : List Frame} {meth : Method} {c : Code} {D : va_G} {dA : Nat → ClassId} {lo : Nat} (X : mm_C D dA lo cX10_feed RX10 9 p s m args c) (hr : meth.sig.returnType = (some .int)) (hlk : meth.locks = false) (n : Nat) {o : Int32 × mm_M} (k : Nat) : ∀ (M : mm_M) (a0 : Nat) (x1 : Int32) (x2 : Int32) (x3 : Int32) (x4 : Int32) (x5 : Int32) (x6 : Int32) (x7 : Int32) (H : Heap) (locs : List Loc) (ls : Array Slot), mm_I D dA lo s M H locs → lv_has ls 9 [(0, .ref a0), (1, .int x1), (2, .int x2), (3, .int x3), (4, .int x4), (5, .int x5), (6, .int x6), (7, .int x7)] → pX10_feed_l6 n k M a0 x1 x2 x3 x4 x5 x6 x7 = some o → W p l e (mm_rm 1 26 0 0) s m args below meth c H locs 0 0 (MQ below (mm_Q D dA lo (some (.int o.1)) o.2) args s 0 0 (mm_fr lo)) (F0 m 6 ls []) := by
  induction k with
  | zero =>
    intro M a0 x1 x2 x3 x4 x5 x6 x7 H locs ls I hl h
    have h : (none : Option (Int32 × mm_M)) = some o := h
    cases h
  | succ k ih =>
    intro M a0 x1 x2 x3 x4 x5 x6 x7 H locs ls I hl h
    have h : pX10_feed_l6b n (pX10_feed_l6 n k) M a0 x1 x2 x3 x4 x5 x6 x7 = some o := h
    unfold pX10_feed_l6b at h
    refine lv_iload X.1 X.2.1 dX10_feed_6 (lv_at hl 7 rfl) ?_
    refine lv_bipush (v := 20) X.1 X.2.1 dX10_feed_8 (by decide) ?_
    refine mm_kge (tgt := 44) X dX10_feed_10 (by decide) h (fun h => ?_) (fun h => ?_)
    · exact wpX10_feed_b44 X hr hlk n  M _ _ _ _ _ _ _ _ _ _ I (lv_sub hl [0, 1, 2, 3, 4, 5, 6] rfl) h
    · refine lv_iload X.1 X.2.1 dX10_feed_13 (lv_at hl 6 rfl) ?_
      refine lv_iload_n X.1 X.2.1 dX10_feed_15 rfl (lv_at hl 1 rfl) ?_
      refine lv_iload_n X.1 X.2.1 dX10_feed_16 rfl (lv_at hl 2 rfl) ?_
      refine lv_iload_n X.1 X.2.1 dX10_feed_17 rfl (lv_at hl 3 rfl) ?_
      refine lv_iload X.1 X.2.1 dX10_feed_18 (lv_at hl 4 rfl) ?_
      refine lv_iload X.1 X.2.1 dX10_feed_20 (lv_at hl 5 rfl) ?_
      refine lv_iload X.1 X.2.1 dX10_feed_22 (lv_at hl 7 rfl) ?_
      refine mm_cSi X I hl (As := [.int x1, .int x2, .int x3, .int x4, .int x5, .int x7]) md_X10_byteOf mv_X10_byteOf ml_X10_62 (kX10_byteOf (n := n)) (by decide) ⟨Nat.le_refl 0, Nat.le_refl 0⟩ rfl rfl (Nat.le_of_ble_eq_true rfl) dX10_feed_24 h (fun v1 M H locs I h => ?_)
      refine mm_jeq (tgt := 34) X dX10_feed_27 (by decide) h (fun h => ?_) (fun h => ?_)
      · refine lv_iconst (v := 0) X.1 X.2.1 dX10_feed_34 (by decide) ?_
        refine lv_iadd X.1 X.2.1 dX10_feed_35 ?_
        refine lv_istore (lv' := [(6, .int (x6 + 0)), (0, .ref a0), (1, .int x1), (2, .int x2), (3, .int x3), (4, .int x4), (5, .int x5), (7, .int x7)]) X.1 X.2.1 dX10_feed_36 hl (by decide) rfl (fun ls hl => ?_)
        refine lv_iinc (v := (x7 + 1)) (lv' := [(7, .int (x7 + 1)), (6, .int (x6 + 0)), (0, .ref a0), (1, .int x1), (2, .int x2), (3, .int x3), (4, .int x4), (5, .int x5)]) X.1 X.2.1 dX10_feed_38 hl (k := 7) rfl rfl (by decide) rfl (fun ls hl => ?_)
        refine lv_goto (tgt := 6) X.1 X.2.1 dX10_feed_41 (by decide) ?_
        exact ih M _ _ _ _ _ _ _ _ _ _ _ I (lv_sub hl [2, 3, 4, 5, 6, 7, 1, 0] rfl) h
      · refine lv_iconst (v := 1) X.1 X.2.1 dX10_feed_30 (by decide) ?_
        refine lv_goto (tgt := 35) X.1 X.2.1 dX10_feed_31 (by decide) ?_
        refine lv_iadd X.1 X.2.1 dX10_feed_35 ?_
        refine lv_istore (lv' := [(6, .int (x6 + 1)), (0, .ref a0), (1, .int x1), (2, .int x2), (3, .int x3), (4, .int x4), (5, .int x5), (7, .int x7)]) X.1 X.2.1 dX10_feed_36 hl (by decide) rfl (fun ls hl => ?_)
        refine lv_iinc (v := (x7 + 1)) (lv' := [(7, .int (x7 + 1)), (6, .int (x6 + 1)), (0, .ref a0), (1, .int x1), (2, .int x2), (3, .int x3), (4, .int x4), (5, .int x5)]) X.1 X.2.1 dX10_feed_38 hl (k := 7) rfl rfl (by decide) rfl (fun ls hl => ?_)
        refine lv_goto (tgt := 6) X.1 X.2.1 dX10_feed_41 (by decide) ?_
        exact ih M _ _ _ _ _ _ _ _ _ _ _ I (lv_sub hl [2, 3, 4, 5, 6, 7, 1, 0] rfl) h
set_option maxHeartbeats 4000000 in
set_option maxRecDepth 100000 in
theorem kX10_feed {l : Launch} {D : va_G} {dA : Nat → ClassId} {lo : Nat} {n : Nat} {M : mm_M} {a0 : Nat} {x1 : Int32} {x2 : Int32} {x3 : Int32} {x4 : Int32} {x5 : Int32} (o : Int32 × mm_M) (h : pX10_feed n M a0 x1 x2 x3 x4 x5 = some o) : (∃ fs, M.2 a0 = some (mm_ob 10 fs)) ∧ mm_Met l D dA lo yX10_feed cX10_feed 9 (some .int) 1 26 0 0 [.ref a0, .int x1, .int x2, .int x3, .int x4, .int x5] M (some (.int o.1)) o.2 := by
  unfold pX10_feed at h
  obtain ⟨hob, h⟩ := mm_v_some h
  refine ⟨hob, mm_enter (by decide) (Nat.le_of_ble_eq_true rfl) (fun p e s m args below meth c ls X hr hlk hnm I hl => ?_)⟩
  have X : mm_C D dA lo cX10_feed RX10 9 p s m args c := X
  have hl : lv_has ls 9 [(0, .ref a0), (1, .int x1), (2, .int x2), (3, .int x3), (4, .int x4), (5, .int x5)] := hl
  refine lv_iconst (v := 0) X.1 X.2.1 dX10_feed_0 (by decide) ?_
  refine lv_istore (lv' := [(6, .int 0), (0, .ref a0), (1, .int x1), (2, .int x2), (3, .int x3), (4, .int x4), (5, .int x5)]) X.1 X.2.1 dX10_feed_1 hl (by decide) rfl (fun ls hl => ?_)
  refine lv_iconst (v := 0) X.1 X.2.1 dX10_feed_3 (by decide) ?_
  refine lv_istore (lv' := [(7, .int 0), (6, .int 0), (0, .ref a0), (1, .int x1), (2, .int x2), (3, .int x3), (4, .int x4), (5, .int x5)]) X.1 X.2.1 dX10_feed_4 hl (by decide) rfl (fun ls hl => ?_)
  exact wpX10_feed_l6 X hr hlk n  n M _ _ _ _ _ _ _ _ _ _ _ I (lv_sub hl [2, 3, 4, 5, 6, 7, 1, 0] rfl) h
set_option maxHeartbeats 4000000 in
set_option maxRecDepth 100000 in
theorem kX10_end {l : Launch} {D : va_G} {dA : Nat → ClassId} {lo : Nat} {n : Nat} {M : mm_M} {a0 : Nat} {x1 : Int32} (o : Int32 × mm_M) (h : pX10_end n M a0 x1 = some o) : (∃ fs, M.2 a0 = some (mm_ob 10 fs)) ∧ mm_Met l D dA lo yX10_end cX10_end 2 (some .boolean) 1 22 0 0 [.ref a0, .int x1] M (some (.int o.1)) o.2 := by
  unfold pX10_end at h
  obtain ⟨hob, h⟩ := mm_v_some h
  refine ⟨hob, mm_enter (by decide) (Nat.le_of_ble_eq_true rfl) (fun p e s m args below meth c ls X hr hlk hnm I hl => ?_)⟩
  have X : mm_C D dA lo cX10_end RX10 2 p s m args c := X
  have hl : lv_has ls 2 [(0, .ref a0), (1, .int x1)] := hl
  refine lv_iload_n X.1 X.2.1 dX10_end_0 rfl (lv_at hl 1 rfl) ?_
  refine lv_iconst (v := 0) X.1 X.2.1 dX10_end_1 (by decide) ?_
  refine lv_aload_n X.1 X.2.1 dX10_end_2 rfl (lv_at hl 0 rfl) ?_
  refine mm_rgi X I fl_X10_66 dX10_end_3 h (fun v1 h => ?_)
  refine mm_cSi X I hl (As := [.int x1, .int 0, .int v1]) md_X10_in mv_X10_in ml_X10_69 (kX10_in (n := n)) (by decide) ⟨Nat.le_refl 0, Nat.le_refl 0⟩ rfl rfl (Nat.le_of_ble_eq_true rfl) dX10_end_6 h (fun v2 M H locs I h => ?_)
  refine mm_jne (tgt := 14) X dX10_end_9 (by decide) h (fun h => ?_) (fun h => ?_)
  · refine lv_aload_n X.1 X.2.1 dX10_end_14 rfl (lv_at hl 0 rfl) ?_
    refine lv_iload_n X.1 X.2.1 dX10_end_15 rfl (lv_at hl 1 rfl) ?_
    refine mm_rpi X I fl_X10_66 dX10_end_16 h (fun M H locs I h => ?_)
    refine lv_iconst (v := 1) X.1 X.2.1 dX10_end_19 (by decide) ?_
    exact mm_xz1 X I hr hlk dX10_end_20 h
  · refine lv_iconst (v := 0) X.1 X.2.1 dX10_end_12 (by decide) ?_
    exact mm_xz0 X I hr hlk dX10_end_13 h
set_option maxHeartbeats 4000000 in
set_option maxRecDepth 100000 in
theorem wpX10_ahead_b38 {p : Program} {l : Launch} {e : Env} {s : State} {m : MethodId} {args : Array Value} {below : List Frame} {meth : Method} {c : Code} {D : va_G} {dA : Nat → ClassId} {lo : Nat} (X : mm_C D dA lo cX10_ahead RX10 1 p s m args c) (hr : meth.sig.returnType = (some .int)) (hlk : meth.locks = false) (n : Nat) {o : Int32 × mm_M}  : ∀ (M : mm_M) (a0 : Nat) (H : Heap) (locs : List Loc) (ls : Array Slot), mm_I D dA lo s M H locs → lv_has ls 1 [(0, .ref a0)] → pX10_ahead_b38 n M a0 = some o → W p l e (mm_rm 0 0 0 0) s m args below meth c H locs 0 0 (MQ below (mm_Q D dA lo (some (.int o.1)) o.2) args s 0 0 (mm_fr lo)) (F0 m 38 ls []) := by
  intro M a0 H locs ls I hl h
  unfold pX10_ahead_b38 at h
  refine lv_aload_n X.1 X.2.1 dX10_ahead_38 rfl (lv_at hl 0 rfl) ?_
  refine mm_rgi X I fl_X10_73 dX10_ahead_39 h (fun v1 h => ?_)
  refine lv_aload_n X.1 X.2.1 dX10_ahead_42 rfl (lv_at hl 0 rfl) ?_
  refine mm_rgi X I fl_X10_66 dX10_ahead_43 h (fun v2 h => ?_)
  refine mm_kge (tgt := 61) X dX10_ahead_46 (by decide) h (fun h => ?_) (fun h => ?_)
  · refine lv_iconst (v := (-1)) X.1 X.2.1 dX10_ahead_61 (by decide) ?_
    exact mm_xi X I hr hlk dX10_ahead_62 h
  · refine lv_aload_n X.1 X.2.1 dX10_ahead_49 rfl (lv_at hl 0 rfl) ?_
    refine mm_rgr X I fl_X10_9 dX10_ahead_50 h (fun v3 h => ?_)
    refine lv_aload_n X.1 X.2.1 dX10_ahead_53 rfl (lv_at hl 0 rfl) ?_
    refine mm_rgi X I fl_X10_73 dX10_ahead_54 h (fun v4 h => ?_)
    refine mm_ria X I dX10_ahead_57 h (fun v5 h => ?_)
    refine lv_goto (tgt := 62) X.1 X.2.1 dX10_ahead_58 (by decide) ?_
    exact mm_xi X I hr hlk dX10_ahead_62 h
set_option maxHeartbeats 4000000 in
set_option maxRecDepth 100000 in
theorem wpX10_ahead_l0 {p : Program} {l : Launch} {e : Env} {s : State} {m : MethodId} {args : Array Value} {below : List Frame} {meth : Method} {c : Code} {D : va_G} {dA : Nat → ClassId} {lo : Nat} (X : mm_C D dA lo cX10_ahead RX10 1 p s m args c) (hr : meth.sig.returnType = (some .int)) (hlk : meth.locks = false) (n : Nat) {o : Int32 × mm_M} (k : Nat) : ∀ (M : mm_M) (a0 : Nat) (H : Heap) (locs : List Loc) (ls : Array Slot), mm_I D dA lo s M H locs → lv_has ls 1 [(0, .ref a0)] → pX10_ahead_l0 n k M a0 = some o → W p l e (mm_rm 0 0 0 0) s m args below meth c H locs 0 0 (MQ below (mm_Q D dA lo (some (.int o.1)) o.2) args s 0 0 (mm_fr lo)) (F0 m 0 ls []) := by
  induction k with
  | zero =>
    intro M a0 H locs ls I hl h
    have h : (none : Option (Int32 × mm_M)) = some o := h
    cases h
  | succ k ih =>
    intro M a0 H locs ls I hl h
    have h : pX10_ahead_l0b n (pX10_ahead_l0 n k) M a0 = some o := h
    unfold pX10_ahead_l0b at h
    refine lv_aload_n X.1 X.2.1 dX10_ahead_0 rfl (lv_at hl 0 rfl) ?_
    refine mm_rgi X I fl_X10_73 dX10_ahead_1 h (fun v1 h => ?_)
    refine lv_aload_n X.1 X.2.1 dX10_ahead_4 rfl (lv_at hl 0 rfl) ?_
    refine mm_rgi X I fl_X10_66 dX10_ahead_5 h (fun v2 h => ?_)
    refine mm_kge (tgt := 38) X dX10_ahead_8 (by decide) h (fun h => ?_) (fun h => ?_)
    · exact wpX10_ahead_b38 X hr hlk n  M _ _ _ _ I (lv_sub hl [0] rfl) h
    · refine lv_aload_n X.1 X.2.1 dX10_ahead_11 rfl (lv_at hl 0 rfl) ?_
      refine mm_rgr X I fl_X10_9 dX10_ahead_12 h (fun v3 h => ?_)
      refine lv_aload_n X.1 X.2.1 dX10_ahead_15 rfl (lv_at hl 0 rfl) ?_
      refine mm_rgi X I fl_X10_73 dX10_ahead_16 h (fun v4 h => ?_)
      refine mm_ria X I dX10_ahead_19 h (fun v5 h => ?_)
      refine lv_bipush (v := 32) X.1 X.2.1 dX10_ahead_20 (by decide) ?_
      refine mm_kne (tgt := 38) X dX10_ahead_22 (by decide) h (fun h => ?_) (fun h => ?_)
      · exact wpX10_ahead_b38 X hr hlk n  M _ _ _ _ I (lv_sub hl [0] rfl) h
      · refine lv_aload_n X.1 X.2.1 dX10_ahead_25 rfl (lv_at hl 0 rfl) ?_
        refine lv_dup X.1 X.2.1 dX10_ahead_26 rfl ?_
        refine mm_rgi X I fl_X10_73 dX10_ahead_27 h (fun v6 h => ?_)
        refine lv_iconst (v := 1) X.1 X.2.1 dX10_ahead_30 (by decide) ?_
        refine lv_iadd X.1 X.2.1 dX10_ahead_31 ?_
        refine mm_rpi X I fl_X10_73 dX10_ahead_32 h (fun M H locs I h => ?_)
        refine lv_goto (tgt := 0) X.1 X.2.1 dX10_ahead_35 (by decide) ?_
        exact ih M _ _ _ _ I (lv_sub hl [0] rfl) h
set_option maxHeartbeats 4000000 in
set_option maxRecDepth 100000 in
theorem kX10_ahead {l : Launch} {D : va_G} {dA : Nat → ClassId} {lo : Nat} {n : Nat} {M : mm_M} {a0 : Nat} (o : Int32 × mm_M) (h : pX10_ahead n M a0 = some o) : (∃ fs, M.2 a0 = some (mm_ob 10 fs)) ∧ mm_Met l D dA lo yX10_ahead cX10_ahead 1 (some .int) 0 0 0 0 [.ref a0] M (some (.int o.1)) o.2 := by
  unfold pX10_ahead at h
  obtain ⟨hob, h⟩ := mm_v_some h
  refine ⟨hob, mm_enter (by decide) (Nat.le_of_ble_eq_true rfl) (fun p e s m args below meth c ls X hr hlk hnm I hl => ?_)⟩
  have X : mm_C D dA lo cX10_ahead RX10 1 p s m args c := X
  have hl : lv_has ls 1 [(0, .ref a0)] := hl
  exact wpX10_ahead_l0 X hr hlk n  n M _ _ _ _ I (lv_sub hl [0] rfl) h
set_option maxHeartbeats 4000000 in
set_option maxRecDepth 100000 in
theorem kX10_bad {l : Launch} {D : va_G} {dA : Nat → ClassId} {lo : Nat} {n : Nat} {M : mm_M} {a0 : Nat} (o : mm_M) (h : pX10_bad n M a0 = some o) : (∃ fs, M.2 a0 = some (mm_ob 10 fs)) ∧ mm_Met l D dA lo yX10_bad cX10_bad 1 none 0 0 0 0 [.ref a0] M none o := by
  unfold pX10_bad at h
  obtain ⟨hob, h⟩ := mm_v_some h
  refine ⟨hob, mm_enter (by decide) (Nat.le_of_ble_eq_true rfl) (fun p e s m args below meth c ls X hr hlk hnm I hl => ?_)⟩
  have X : mm_C D dA lo cX10_bad RX10 1 p s m args c := X
  have hl : lv_has ls 1 [(0, .ref a0)] := hl
  refine lv_aload_n X.1 X.2.1 dX10_bad_0 rfl (lv_at hl 0 rfl) ?_
  refine lv_aload_n X.1 X.2.1 dX10_bad_1 rfl (lv_at hl 0 rfl) ?_
  refine mm_rgi X I fl_X10_76 dX10_bad_2 h (fun v1 h => ?_)
  refine lv_iconst (v := (-1)) X.1 X.2.1 dX10_bad_5 (by decide) ?_
  refine mm_kne (tgt := 16) X dX10_bad_6 (by decide) h (fun h => ?_) (fun h => ?_)
  · refine lv_aload_n X.1 X.2.1 dX10_bad_16 rfl (lv_at hl 0 rfl) ?_
    refine mm_rgi X I fl_X10_76 dX10_bad_17 h (fun v2 h => ?_)
    refine mm_rpi X I fl_X10_76 dX10_bad_20 h (fun M H locs I h => ?_)
    exact mm_xv X I hr hlk dX10_bad_23 h
  · refine lv_aload_n X.1 X.2.1 dX10_bad_9 rfl (lv_at hl 0 rfl) ?_
    refine mm_rgi X I fl_X10_73 dX10_bad_10 h (fun v3 h => ?_)
    refine lv_goto (tgt := 20) X.1 X.2.1 dX10_bad_13 (by decide) ?_
    refine mm_rpi X I fl_X10_76 dX10_bad_20 h (fun M H locs I h => ?_)
    exact mm_xv X I hr hlk dX10_bad_23 h
set_option maxHeartbeats 4000000 in
set_option maxRecDepth 100000 in
theorem kX10_signOf {l : Launch} {D : va_G} {dA : Nat → ClassId} {lo : Nat} {n : Nat} {M : mm_M} {x0 : Int32} (o : Int32 × mm_M) (h : pX10_signOf n M x0 = some o) : mm_Met l D dA lo yX10_signOf cX10_signOf 1 (some .int) 0 0 0 0 [.int x0] M (some (.int o.1)) o.2 := by
  unfold pX10_signOf at h
  refine mm_enter (by decide) (Nat.le_of_ble_eq_true rfl) (fun p e s m args below meth c ls X hr hlk hnm I hl => ?_)
  have X : mm_C D dA lo cX10_signOf RX10 1 p s m args c := X
  have hl : lv_has ls 1 [(0, .int x0)] := hl
  refine lv_iload_n X.1 X.2.1 dX10_signOf_0 rfl (lv_at hl 0 rfl) ?_
  refine lv_bipush (v := 95) X.1 X.2.1 dX10_signOf_1 (by decide) ?_
  refine mm_kne (tgt := 10) X dX10_signOf_3 (by decide) h (fun h => ?_) (fun h => ?_)
  · refine lv_iload_n X.1 X.2.1 dX10_signOf_10 rfl (lv_at hl 0 rfl) ?_
    refine lv_bipush (v := 97) X.1 X.2.1 dX10_signOf_11 (by decide) ?_
    refine mm_klt (tgt := 31) X dX10_signOf_13 (by decide) h (fun h => ?_) (fun h => ?_)
    · refine lv_iconst (v := (-1)) X.1 X.2.1 dX10_signOf_31 (by decide) ?_
      exact mm_xi X I hr hlk dX10_signOf_32 h
    · refine lv_iload_n X.1 X.2.1 dX10_signOf_16 rfl (lv_at hl 0 rfl) ?_
      refine lv_bipush (v := 122) X.1 X.2.1 dX10_signOf_17 (by decide) ?_
      refine mm_kgt (tgt := 31) X dX10_signOf_19 (by decide) h (fun h => ?_) (fun h => ?_)
      · refine lv_iconst (v := (-1)) X.1 X.2.1 dX10_signOf_31 (by decide) ?_
        exact mm_xi X I hr hlk dX10_signOf_32 h
      · refine lv_iload_n X.1 X.2.1 dX10_signOf_22 rfl (lv_at hl 0 rfl) ?_
        refine lv_bipush (v := 97) X.1 X.2.1 dX10_signOf_23 (by decide) ?_
        refine lv_isub X.1 X.2.1 dX10_signOf_25 ?_
        refine lv_iconst (v := 1) X.1 X.2.1 dX10_signOf_26 (by decide) ?_
        refine lv_iadd X.1 X.2.1 dX10_signOf_27 ?_
        refine lv_goto (tgt := 32) X.1 X.2.1 dX10_signOf_28 (by decide) ?_
        exact mm_xi X I hr hlk dX10_signOf_32 h
  · refine lv_iconst (v := 0) X.1 X.2.1 dX10_signOf_6 (by decide) ?_
    refine lv_goto (tgt := 32) X.1 X.2.1 dX10_signOf_7 (by decide) ?_
    exact mm_xi X I hr hlk dX10_signOf_32 h
set_option maxHeartbeats 4000000 in
set_option maxRecDepth 100000 in
theorem kX10_byteBy {l : Launch} {D : va_G} {dA : Nat → ClassId} {lo : Nat} {n : Nat} {M : mm_M} {x0 : Int32} (o : Int32 × mm_M) (h : pX10_byteBy n M x0 = some o) : mm_Met l D dA lo yX10_byteBy cX10_byteBy 1 (some .int) 0 0 0 0 [.int x0] M (some (.int o.1)) o.2 := by
  unfold pX10_byteBy at h
  refine mm_enter (by decide) (Nat.le_of_ble_eq_true rfl) (fun p e s m args below meth c ls X hr hlk hnm I hl => ?_)
  have X : mm_C D dA lo cX10_byteBy RX10 1 p s m args c := X
  have hl : lv_has ls 1 [(0, .int x0)] := hl
  refine lv_iload_n X.1 X.2.1 dX10_byteBy_0 rfl (lv_at hl 0 rfl) ?_
  refine mm_jne (tgt := 9) X dX10_byteBy_1 (by decide) h (fun h => ?_) (fun h => ?_)
  · refine lv_bipush (v := 97) X.1 X.2.1 dX10_byteBy_9 (by decide) ?_
    refine lv_iload_n X.1 X.2.1 dX10_byteBy_11 rfl (lv_at hl 0 rfl) ?_
    refine lv_iadd X.1 X.2.1 dX10_byteBy_12 ?_
    refine lv_iconst (v := 1) X.1 X.2.1 dX10_byteBy_13 (by decide) ?_
    refine lv_isub X.1 X.2.1 dX10_byteBy_14 ?_
    exact mm_xi X I hr hlk dX10_byteBy_15 h
  · refine lv_bipush (v := 95) X.1 X.2.1 dX10_byteBy_4 (by decide) ?_
    refine lv_goto (tgt := 15) X.1 X.2.1 dX10_byteBy_6 (by decide) ?_
    exact mm_xi X I hr hlk dX10_byteBy_15 h
set_option maxHeartbeats 4000000 in
set_option maxRecDepth 100000 in
theorem wpX10_readSigns_l22 {p : Program} {l : Launch} {e : Env} {s : State} {m : MethodId} {args : Array Value} {below : List Frame} {meth : Method} {c : Code} {D : va_G} {dA : Nat → ClassId} {lo : Nat} (X : mm_C D dA lo cX10_readSigns RX10 6 p s m args c) (hr : meth.sig.returnType = (some .int)) (hlk : meth.locks = false) (n : Nat) {o : Int32 × mm_M} (k : Nat) : ∀ (M : mm_M) (a0 : Nat) (a1 : Nat) (x2 : Int32) (x3 : Int32) (x4 : Int32) (x5 : Int32) (H : Heap) (locs : List Loc) (ls : Array Slot), mm_I D dA lo s M H locs → lv_has ls 6 [(0, .ref a0), (1, .ref a1), (2, .int x2), (3, .int x3), (4, .int x4), (5, .int x5)] → pX10_readSigns_l22 n k M a0 a1 x2 x3 x4 x5 = some o → W p l e (mm_rm 1 20 0 0) s m args below meth c H locs 0 0 (MQ below (mm_Q D dA lo (some (.int o.1)) o.2) args s 0 0 (mm_fr lo)) (F0 m 22 ls []) := by
  induction k with
  | zero =>
    intro M a0 a1 x2 x3 x4 x5 H locs ls I hl h
    have h : (none : Option (Int32 × mm_M)) = some o := h
    cases h
  | succ k ih =>
    intro M a0 a1 x2 x3 x4 x5 H locs ls I hl h
    have h : pX10_readSigns_l22b n (pX10_readSigns_l22 n k) M a0 a1 x2 x3 x4 x5 = some o := h
    unfold pX10_readSigns_l22b at h
    refine lv_aload_n X.1 X.2.1 dX10_readSigns_22 rfl (lv_at hl 0 rfl) ?_
    refine mm_rgi X I fl_X10_76 dX10_readSigns_23 h (fun v1 h => ?_)
    refine lv_iconst (v := (-1)) X.1 X.2.1 dX10_readSigns_26 (by decide) ?_
    refine mm_kne (tgt := 82) X dX10_readSigns_27 (by decide) h (fun h => ?_) (fun h => ?_)
    · refine lv_iload X.1 X.2.1 dX10_readSigns_82 (lv_at hl 4 rfl) ?_
      exact mm_xi X I hr hlk dX10_readSigns_84 h
    · refine lv_iload X.1 X.2.1 dX10_readSigns_30 (lv_at hl 5 rfl) ?_
      refine lv_iconst (v := (-1)) X.1 X.2.1 dX10_readSigns_32 (by decide) ?_
      refine mm_keq (tgt := 82) X dX10_readSigns_33 (by decide) h (fun h => ?_) (fun h => ?_)
      · refine lv_iload X.1 X.2.1 dX10_readSigns_82 (lv_at hl 4 rfl) ?_
        exact mm_xi X I hr hlk dX10_readSigns_84 h
      · refine lv_iload X.1 X.2.1 dX10_readSigns_36 (lv_at hl 4 rfl) ?_
        refine lv_iload_n X.1 X.2.1 dX10_readSigns_38 rfl (lv_at hl 3 rfl) ?_
        refine mm_kne (tgt := 49) X dX10_readSigns_39 (by decide) h (fun h => ?_) (fun h => ?_)
        · refine lv_aload_n X.1 X.2.1 dX10_readSigns_49 rfl (lv_at hl 1 rfl) ?_
          refine lv_iload_n X.1 X.2.1 dX10_readSigns_50 rfl (lv_at hl 2 rfl) ?_
          refine lv_iload X.1 X.2.1 dX10_readSigns_51 (lv_at hl 4 rfl) ?_
          refine lv_iadd X.1 X.2.1 dX10_readSigns_53 ?_
          refine lv_iload X.1 X.2.1 dX10_readSigns_54 (lv_at hl 5 rfl) ?_
          refine mm_ris X I dX10_readSigns_56 h (fun M H locs I h => ?_)
          refine lv_iinc (v := (x4 + 1)) (lv' := [(4, .int (x4 + 1)), (0, .ref a0), (1, .ref a1), (2, .int x2), (3, .int x3), (5, .int x5)]) X.1 X.2.1 dX10_readSigns_57 hl (k := 4) rfl rfl (by decide) rfl (fun ls hl => ?_)
          refine lv_aload_n X.1 X.2.1 dX10_readSigns_60 rfl (lv_at hl 1 rfl) ?_
          refine lv_dup X.1 X.2.1 dX10_readSigns_61 rfl ?_
          refine mm_rgi X I fl_X10_73 dX10_readSigns_62 h (fun v2 h => ?_)
          refine lv_iconst (v := 1) X.1 X.2.1 dX10_readSigns_65 (by decide) ?_
          refine lv_iadd X.1 X.2.1 dX10_readSigns_66 ?_
          refine mm_rpi X I fl_X10_73 dX10_readSigns_67 h (fun M H locs I h => ?_)
          refine lv_aload_n X.1 X.2.1 dX10_readSigns_70 rfl (lv_at hl 1 rfl) ?_
          refine mm_cVi X I hl (As := []) (ci := 10) md_X10_ahead mv_X10_ahead ml_X10_79 rfl (kX10_ahead (n := n)) (by decide) ⟨Nat.le_refl 0, Nat.le_refl 0⟩ rfl rfl (Nat.le_of_ble_eq_true rfl) dX10_readSigns_71 h (fun v3 M H locs I h => ?_)
          refine mm_cSi X I hl (As := [.int v3]) md_X10_signOf mv_X10_signOf ml_X10_83 (kX10_signOf (n := n)) (by decide) ⟨Nat.le_refl 0, Nat.le_refl 0⟩ rfl rfl (Nat.le_of_ble_eq_true rfl) dX10_readSigns_74 h (fun v4 M H locs I h => ?_)
          refine lv_istore (lv' := [(5, .int v4), (4, .int (x4 + 1)), (0, .ref a0), (1, .ref a1), (2, .int x2), (3, .int x3)]) X.1 X.2.1 dX10_readSigns_77 hl (by decide) rfl (fun ls hl => ?_)
          refine lv_goto (tgt := 22) X.1 X.2.1 dX10_readSigns_79 (by decide) ?_
          exact ih M _ _ _ _ _ _ _ _ _ I (lv_sub hl [2, 3, 4, 5, 1, 0] rfl) h
        · refine lv_aload_n X.1 X.2.1 dX10_readSigns_42 rfl (lv_at hl 0 rfl) ?_
          refine mm_cVv X I hl (As := []) (ci := 10) md_X10_bad mv_X10_bad ml_X10_87 rfl (kX10_bad (n := n)) (by decide) ⟨Nat.le_refl 0, Nat.le_refl 0⟩ rfl rfl (Nat.le_of_ble_eq_true rfl) dX10_readSigns_43 h (fun M H locs I h => ?_)
          refine lv_goto (tgt := 22) X.1 X.2.1 dX10_readSigns_46 (by decide) ?_
          exact ih M _ _ _ _ _ _ _ _ _ I (lv_sub hl [0, 1, 2, 3, 4, 5] rfl) h
set_option maxHeartbeats 4000000 in
set_option maxRecDepth 100000 in
theorem kX10_readSigns {l : Launch} {D : va_G} {dA : Nat → ClassId} {lo : Nat} {n : Nat} {M : mm_M} {a0 : Nat} {a1 : Nat} {x2 : Int32} {x3 : Int32} (o : Int32 × mm_M) (h : pX10_readSigns n M a0 a1 x2 x3 = some o) : (∃ fs, M.2 a0 = some (mm_ob 10 fs)) ∧ mm_Met l D dA lo yX10_readSigns cX10_readSigns 6 (some .int) 1 20 0 0 [.ref a0, .ref a1, .int x2, .int x3] M (some (.int o.1)) o.2 := by
  unfold pX10_readSigns at h
  obtain ⟨hob, h⟩ := mm_v_some h
  refine ⟨hob, mm_enter (by decide) (Nat.le_of_ble_eq_true rfl) (fun p e s m args below meth c ls X hr hlk hnm I hl => ?_)⟩
  have X : mm_C D dA lo cX10_readSigns RX10 6 p s m args c := X
  have hl : lv_has ls 6 [(0, .ref a0), (1, .ref a1), (2, .int x2), (3, .int x3)] := hl
  refine lv_iconst (v := 0) X.1 X.2.1 dX10_readSigns_0 (by decide) ?_
  refine lv_istore (lv' := [(4, .int 0), (0, .ref a0), (1, .ref a1), (2, .int x2), (3, .int x3)]) X.1 X.2.1 dX10_readSigns_1 hl (by decide) rfl (fun ls hl => ?_)
  refine lv_aload_n X.1 X.2.1 dX10_readSigns_3 rfl (lv_at hl 1 rfl) ?_
  refine mm_cVi X I hl (As := []) (ci := 10) md_X10_ahead mv_X10_ahead ml_X10_79 rfl (kX10_ahead (n := n)) (by decide) ⟨Nat.le_refl 0, Nat.le_refl 0⟩ rfl rfl (Nat.le_of_ble_eq_true rfl) dX10_readSigns_4 h (fun v1 M H locs I h => ?_)
  refine mm_cSi X I hl (As := [.int v1]) md_X10_signOf mv_X10_signOf ml_X10_83 (kX10_signOf (n := n)) (by decide) ⟨Nat.le_refl 0, Nat.le_refl 0⟩ rfl rfl (Nat.le_of_ble_eq_true rfl) dX10_readSigns_7 h (fun v2 M H locs I h => ?_)
  refine lv_istore (lv' := [(5, .int v2), (4, .int 0), (0, .ref a0), (1, .ref a1), (2, .int x2), (3, .int x3)]) X.1 X.2.1 dX10_readSigns_10 hl (by decide) rfl (fun ls hl => ?_)
  refine lv_iload X.1 X.2.1 dX10_readSigns_12 (lv_at hl 0 rfl) ?_
  refine lv_iconst (v := (-1)) X.1 X.2.1 dX10_readSigns_14 (by decide) ?_
  refine mm_kne (tgt := 22) X dX10_readSigns_15 (by decide) h (fun h => ?_) (fun h => ?_)
  · exact wpX10_readSigns_l22 X hr hlk n  n M _ _ _ _ _ _ _ _ _ I (lv_sub hl [2, 3, 4, 5, 1, 0] rfl) h
  · refine lv_aload_n X.1 X.2.1 dX10_readSigns_18 rfl (lv_at hl 2 rfl) ?_
    refine mm_cVv X I hl (As := []) (ci := 10) md_X10_bad mv_X10_bad ml_X10_87 rfl (kX10_bad (n := n)) (by decide) ⟨Nat.le_refl 0, Nat.le_refl 0⟩ rfl rfl (Nat.le_of_ble_eq_true rfl) dX10_readSigns_19 h (fun M H locs I h => ?_)
    exact wpX10_readSigns_l22 X hr hlk n  n M _ _ _ _ _ _ _ _ _ I (lv_sub hl [2, 3, 4, 5, 1, 0] rfl) h
set_option maxHeartbeats 4000000 in
set_option maxRecDepth 100000 in
theorem kX10_digit {l : Launch} {D : va_G} {dA : Nat → ClassId} {lo : Nat} {n : Nat} {M : mm_M} {a0 : Nat} (o : Int32 × mm_M) (h : pX10_digit n M a0 = some o) : (∃ fs, M.2 a0 = some (mm_ob 10 fs)) ∧ mm_Met l D dA lo yX10_digit cX10_digit 2 (some .int) 1 22 0 0 [.ref a0] M (some (.int o.1)) o.2 := by
  unfold pX10_digit at h
  obtain ⟨hob, h⟩ := mm_v_some h
  refine ⟨hob, mm_enter (by decide) (Nat.le_of_ble_eq_true rfl) (fun p e s m args below meth c ls X hr hlk hnm I hl => ?_)⟩
  have X : mm_C D dA lo cX10_digit RX10 2 p s m args c := X
  have hl : lv_has ls 2 [(0, .ref a0)] := hl
  refine lv_aload_n X.1 X.2.1 dX10_digit_0 rfl (lv_at hl 0 rfl) ?_
  refine mm_cVi X I hl (As := []) (ci := 10) md_X10_ahead mv_X10_ahead ml_X10_79 rfl (kX10_ahead (n := n)) (by decide) ⟨Nat.le_refl 0, Nat.le_refl 0⟩ rfl rfl (Nat.le_of_ble_eq_true rfl) dX10_digit_1 h (fun v1 M H locs I h => ?_)
  refine lv_istore_n (lv' := [(1, .int v1), (0, .ref a0)]) X.1 X.2.1 dX10_digit_4 rfl hl (by decide) rfl (fun ls hl => ?_)
  refine lv_aload_n X.1 X.2.1 dX10_digit_5 rfl (lv_at hl 1 rfl) ?_
  refine mm_rgi X I fl_X10_76 dX10_digit_6 h (fun v2 h => ?_)
  refine lv_iconst (v := (-1)) X.1 X.2.1 dX10_digit_9 (by decide) ?_
  refine mm_kne (tgt := 24) X dX10_digit_10 (by decide) h (fun h => ?_) (fun h => ?_)
  · refine lv_aload_n X.1 X.2.1 dX10_digit_24 rfl (lv_at hl 1 rfl) ?_
    refine mm_cVv X I hl (As := []) (ci := 10) md_X10_bad mv_X10_bad ml_X10_87 rfl (kX10_bad (n := n)) (by decide) ⟨Nat.le_refl 0, Nat.le_refl 0⟩ rfl rfl (Nat.le_of_ble_eq_true rfl) dX10_digit_25 h (fun M H locs I h => ?_)
    refine lv_iconst (v := 0) X.1 X.2.1 dX10_digit_28 (by decide) ?_
    exact mm_xi X I hr hlk dX10_digit_29 h
  · refine lv_iload_n X.1 X.2.1 dX10_digit_13 rfl (lv_at hl 0 rfl) ?_
    refine lv_bipush (v := 48) X.1 X.2.1 dX10_digit_14 (by decide) ?_
    refine lv_bipush (v := 57) X.1 X.2.1 dX10_digit_16 (by decide) ?_
    refine mm_cSi X I hl (As := [.int v1, .int 48, .int 57]) md_X10_in mv_X10_in ml_X10_69 (kX10_in (n := n)) (by decide) ⟨Nat.le_refl 0, Nat.le_refl 0⟩ rfl rfl (Nat.le_of_ble_eq_true rfl) dX10_digit_18 h (fun v4 M H locs I h => ?_)
    refine mm_jne (tgt := 30) X dX10_digit_21 (by decide) h (fun h => ?_) (fun h => ?_)
    · refine lv_aload_n X.1 X.2.1 dX10_digit_30 rfl (lv_at hl 1 rfl) ?_
      refine lv_dup X.1 X.2.1 dX10_digit_31 rfl ?_
      refine mm_rgi X I fl_X10_73 dX10_digit_32 h (fun v5 h => ?_)
      refine lv_iconst (v := 1) X.1 X.2.1 dX10_digit_35 (by decide) ?_
      refine lv_iadd X.1 X.2.1 dX10_digit_36 ?_
      refine mm_rpi X I fl_X10_73 dX10_digit_37 h (fun M H locs I h => ?_)
      refine lv_iload_n X.1 X.2.1 dX10_digit_40 rfl (lv_at hl 0 rfl) ?_
      refine lv_bipush (v := 48) X.1 X.2.1 dX10_digit_41 (by decide) ?_
      refine lv_isub X.1 X.2.1 dX10_digit_43 ?_
      exact mm_xi X I hr hlk dX10_digit_44 h
    · refine lv_aload_n X.1 X.2.1 dX10_digit_24 rfl (lv_at hl 1 rfl) ?_
      refine mm_cVv X I hl (As := []) (ci := 10) md_X10_bad mv_X10_bad ml_X10_87 rfl (kX10_bad (n := n)) (by decide) ⟨Nat.le_refl 0, Nat.le_refl 0⟩ rfl rfl (Nat.le_of_ble_eq_true rfl) dX10_digit_25 h (fun M H locs I h => ?_)
      refine lv_iconst (v := 0) X.1 X.2.1 dX10_digit_28 (by decide) ?_
      exact mm_xi X I hr hlk dX10_digit_29 h
set_option maxHeartbeats 4000000 in
set_option maxRecDepth 100000 in
theorem kX10_must {l : Launch} {D : va_G} {dA : Nat → ClassId} {lo : Nat} {n : Nat} {M : mm_M} {a0 : Nat} {x1 : Int32} (o : mm_M) (h : pX10_must n M a0 x1 = some o) : (∃ fs, M.2 a0 = some (mm_ob 10 fs)) ∧ mm_Met l D dA lo yX10_must cX10_must 2 none 1 20 0 0 [.ref a0, .int x1] M none o := by
  unfold pX10_must at h
  obtain ⟨hob, h⟩ := mm_v_some h
  refine ⟨hob, mm_enter (by decide) (Nat.le_of_ble_eq_true rfl) (fun p e s m args below meth c ls X hr hlk hnm I hl => ?_)⟩
  have X : mm_C D dA lo cX10_must RX10 2 p s m args c := X
  have hl : lv_has ls 2 [(0, .ref a0), (1, .int x1)] := hl
  refine lv_aload_n X.1 X.2.1 dX10_must_0 rfl (lv_at hl 0 rfl) ?_
  refine mm_rgi X I fl_X10_76 dX10_must_1 h (fun v1 h => ?_)
  refine lv_iconst (v := (-1)) X.1 X.2.1 dX10_must_4 (by decide) ?_
  refine mm_kne (tgt := 29) X dX10_must_5 (by decide) h (fun h => ?_) (fun h => ?_)
  · refine lv_aload_n X.1 X.2.1 dX10_must_29 rfl (lv_at hl 0 rfl) ?_
    refine mm_cVv X I hl (As := []) (ci := 10) md_X10_bad mv_X10_bad ml_X10_87 rfl (kX10_bad (n := n)) (by decide) ⟨Nat.le_refl 0, Nat.le_refl 0⟩ rfl rfl (Nat.le_of_ble_eq_true rfl) dX10_must_30 h (fun M H locs I h => ?_)
    exact mm_xv X I hr hlk dX10_must_33 h
  · refine lv_aload_n X.1 X.2.1 dX10_must_8 rfl (lv_at hl 0 rfl) ?_
    refine mm_cVi X I hl (As := []) (ci := 10) md_X10_ahead mv_X10_ahead ml_X10_79 rfl (kX10_ahead (n := n)) (by decide) ⟨Nat.le_refl 0, Nat.le_refl 0⟩ rfl rfl (Nat.le_of_ble_eq_true rfl) dX10_must_9 h (fun v3 M H locs I h => ?_)
    refine lv_iload_n X.1 X.2.1 dX10_must_12 rfl (lv_at hl 1 rfl) ?_
    refine mm_kne (tgt := 29) X dX10_must_13 (by decide) h (fun h => ?_) (fun h => ?_)
    · refine lv_aload_n X.1 X.2.1 dX10_must_29 rfl (lv_at hl 0 rfl) ?_
      refine mm_cVv X I hl (As := []) (ci := 10) md_X10_bad mv_X10_bad ml_X10_87 rfl (kX10_bad (n := n)) (by decide) ⟨Nat.le_refl 0, Nat.le_refl 0⟩ rfl rfl (Nat.le_of_ble_eq_true rfl) dX10_must_30 h (fun M H locs I h => ?_)
      exact mm_xv X I hr hlk dX10_must_33 h
    · refine lv_aload_n X.1 X.2.1 dX10_must_16 rfl (lv_at hl 0 rfl) ?_
      refine lv_dup X.1 X.2.1 dX10_must_17 rfl ?_
      refine mm_rgi X I fl_X10_73 dX10_must_18 h (fun v5 h => ?_)
      refine lv_iconst (v := 1) X.1 X.2.1 dX10_must_21 (by decide) ?_
      refine lv_iadd X.1 X.2.1 dX10_must_22 ?_
      refine mm_rpi X I fl_X10_73 dX10_must_23 h (fun M H locs I h => ?_)
      refine lv_goto (tgt := 33) X.1 X.2.1 dX10_must_26 (by decide) ?_
      exact mm_xv X I hr hlk dX10_must_33 h
set_option maxHeartbeats 4000000 in
set_option maxRecDepth 100000 in
theorem kX10_ends {l : Launch} {D : va_G} {dA : Nat → ClassId} {lo : Nat} {n : Nat} {M : mm_M} {a0 : Nat} (o : Int32 × mm_M) (h : pX10_ends n M a0 = some o) : (∃ fs, M.2 a0 = some (mm_ob 10 fs)) ∧ mm_Met l D dA lo yX10_ends cX10_ends 1 (some .int) 1 20 0 0 [.ref a0] M (some (.int o.1)) o.2 := by
  unfold pX10_ends at h
  obtain ⟨hob, h⟩ := mm_v_some h
  refine ⟨hob, mm_enter (by decide) (Nat.le_of_ble_eq_true rfl) (fun p e s m args below meth c ls X hr hlk hnm I hl => ?_)⟩
  have X : mm_C D dA lo cX10_ends RX10 1 p s m args c := X
  have hl : lv_has ls 1 [(0, .ref a0)] := hl
  refine lv_aload_n X.1 X.2.1 dX10_ends_0 rfl (lv_at hl 0 rfl) ?_
  refine mm_rgi X I fl_X10_76 dX10_ends_1 h (fun v1 h => ?_)
  refine lv_iconst (v := (-1)) X.1 X.2.1 dX10_ends_4 (by decide) ?_
  refine mm_kne (tgt := 20) X dX10_ends_5 (by decide) h (fun h => ?_) (fun h => ?_)
  · refine lv_aload_n X.1 X.2.1 dX10_ends_20 rfl (lv_at hl 0 rfl) ?_
    refine mm_rgi X I fl_X10_76 dX10_ends_21 h (fun v2 h => ?_)
    exact mm_xi X I hr hlk dX10_ends_24 h
  · refine lv_aload_n X.1 X.2.1 dX10_ends_8 rfl (lv_at hl 0 rfl) ?_
    refine mm_cVi X I hl (As := []) (ci := 10) md_X10_ahead mv_X10_ahead ml_X10_79 rfl (kX10_ahead (n := n)) (by decide) ⟨Nat.le_refl 0, Nat.le_refl 0⟩ rfl rfl (Nat.le_of_ble_eq_true rfl) dX10_ends_9 h (fun v3 M H locs I h => ?_)
    refine lv_iconst (v := (-1)) X.1 X.2.1 dX10_ends_12 (by decide) ?_
    refine mm_keq (tgt := 20) X dX10_ends_13 (by decide) h (fun h => ?_) (fun h => ?_)
    · refine lv_aload_n X.1 X.2.1 dX10_ends_20 rfl (lv_at hl 0 rfl) ?_
      refine mm_rgi X I fl_X10_76 dX10_ends_21 h (fun v4 h => ?_)
      exact mm_xi X I hr hlk dX10_ends_24 h
    · refine lv_aload_n X.1 X.2.1 dX10_ends_16 rfl (lv_at hl 0 rfl) ?_
      refine mm_cVv X I hl (As := []) (ci := 10) md_X10_bad mv_X10_bad ml_X10_87 rfl (kX10_bad (n := n)) (by decide) ⟨Nat.le_refl 0, Nat.le_refl 0⟩ rfl rfl (Nat.le_of_ble_eq_true rfl) dX10_ends_17 h (fun M H locs I h => ?_)
      refine lv_aload_n X.1 X.2.1 dX10_ends_20 rfl (lv_at hl 0 rfl) ?_
      refine mm_rgi X I fl_X10_76 dX10_ends_21 h (fun v6 h => ?_)
      exact mm_xi X I hr hlk dX10_ends_24 h
set_option maxHeartbeats 4000000 in
set_option maxRecDepth 100000 in
theorem kX10_begins {l : Launch} {D : va_G} {dA : Nat → ClassId} {lo : Nat} {n : Nat} {M : mm_M} {a0 : Nat} (o : mm_M) (h : pX10_begins n M a0 = some o) : (∃ fs, M.2 a0 = some (mm_ob 10 fs)) ∧ mm_Met l D dA lo yX10_begins cX10_begins 1 none 0 0 0 0 [.ref a0] M none o := by
  unfold pX10_begins at h
  obtain ⟨hob, h⟩ := mm_v_some h
  refine ⟨hob, mm_enter (by decide) (Nat.le_of_ble_eq_true rfl) (fun p e s m args below meth c ls X hr hlk hnm I hl => ?_)⟩
  have X : mm_C D dA lo cX10_begins RX10 1 p s m args c := X
  have hl : lv_has ls 1 [(0, .ref a0)] := hl
  refine lv_aload_n X.1 X.2.1 dX10_begins_0 rfl (lv_at hl 0 rfl) ?_
  refine lv_iconst (v := 0) X.1 X.2.1 dX10_begins_1 (by decide) ?_
  refine mm_rpi X I fl_X10_73 dX10_begins_2 h (fun M H locs I h => ?_)
  refine lv_aload_n X.1 X.2.1 dX10_begins_5 rfl (lv_at hl 0 rfl) ?_
  refine lv_iconst (v := (-1)) X.1 X.2.1 dX10_begins_6 (by decide) ?_
  refine mm_rpi X I fl_X10_76 dX10_begins_7 h (fun M H locs I h => ?_)
  exact mm_xv X I hr hlk dX10_begins_10 h
set_option maxHeartbeats 4000000 in
set_option maxRecDepth 100000 in
theorem wpX10_readStore_b82 {p : Program} {l : Launch} {e : Env} {s : State} {m : MethodId} {args : Array Value} {below : List Frame} {meth : Method} {c : Code} {D : va_G} {dA : Nat → ClassId} {lo : Nat} (X : mm_C D dA lo cX10_readStore RX10 2 p s m args c) (hr : meth.sig.returnType = (some .int)) (hlk : meth.locks = false) (n : Nat) {o : Int32 × mm_M} {K11 : mm_M → Nat → Int32 → Option (Int32 × mm_M)} (k11 : ∀ (M : mm_M) (a0 : Nat) (x1 : Int32) (H : Heap) (locs : List Loc) (ls : Array Slot), mm_I D dA lo s M H locs → lv_has ls 2 [(0, .ref a0), (1, .int x1)] → K11 M a0 x1 = some o → W p l e (mm_rm 2 45 0 0) s m args below meth c H locs 0 0 (MQ below (mm_Q D dA lo (some (.int o.1)) o.2) args s 0 0 (mm_fr lo)) (F0 m 11 ls []))  : ∀ (M : mm_M) (a0 : Nat) (s0 : Int32) (H : Heap) (locs : List Loc) (ls : Array Slot), mm_I D dA lo s M H locs → lv_has ls 2 [(0, .ref a0)] → pX10_readStore_b82 n K11 M a0 s0 = some o → W p l e (mm_rm 2 45 0 0) s m args below meth c H locs 0 0 (MQ below (mm_Q D dA lo (some (.int o.1)) o.2) args s 0 0 (mm_fr lo)) (F0 m 82 ls [.int s0]) := by
  intro M a0 s0 H locs ls I hl h
  unfold pX10_readStore_b82 at h
  refine lv_istore_n (lv' := [(1, .int s0), (0, .ref a0)]) X.1 X.2.1 dX10_readStore_82 rfl hl (by decide) rfl (fun ls hl => ?_)
  refine lv_aload_n X.1 X.2.1 dX10_readStore_83 rfl (lv_at hl 1 rfl) ?_
  refine lv_dup X.1 X.2.1 dX10_readStore_84 rfl ?_
  refine mm_rgi X I fl_X10_73 dX10_readStore_85 h (fun v1 h => ?_)
  refine lv_iload_n X.1 X.2.1 dX10_readStore_88 rfl (lv_at hl 0 rfl) ?_
  refine mm_jeq (tgt := 96) X dX10_readStore_89 (by decide) h (fun h => ?_) (fun h => ?_)
  · refine lv_iconst (v := 0) X.1 X.2.1 dX10_readStore_96 (by decide) ?_
    refine lv_iadd X.1 X.2.1 dX10_readStore_97 ?_
    refine mm_rpi X I fl_X10_73 dX10_readStore_98 h (fun M H locs I h => ?_)
    refine lv_goto (tgt := 11) X.1 X.2.1 dX10_readStore_101 (by decide) ?_
    exact k11 M _ _ _ _ _ I (lv_sub hl [1, 0] rfl) h
  · refine lv_iconst (v := 1) X.1 X.2.1 dX10_readStore_92 (by decide) ?_
    refine lv_goto (tgt := 97) X.1 X.2.1 dX10_readStore_93 (by decide) ?_
    refine lv_iadd X.1 X.2.1 dX10_readStore_97 ?_
    refine mm_rpi X I fl_X10_73 dX10_readStore_98 h (fun M H locs I h => ?_)
    refine lv_goto (tgt := 11) X.1 X.2.1 dX10_readStore_101 (by decide) ?_
    exact k11 M _ _ _ _ _ I (lv_sub hl [1, 0] rfl) h
set_option maxHeartbeats 4000000 in
set_option maxRecDepth 100000 in
theorem wpX10_readStore_l11 {p : Program} {l : Launch} {e : Env} {s : State} {m : MethodId} {args : Array Value} {below : List Frame} {meth : Method} {c : Code} {D : va_G} {dA : Nat → ClassId} {lo : Nat} (X : mm_C D dA lo cX10_readStore RX10 2 p s m args c) (hr : meth.sig.returnType = (some .int)) (hlk : meth.locks = false) (n : Nat) {o : Int32 × mm_M} (k : Nat) : ∀ (M : mm_M) (a0 : Nat) (x1 : Int32) (H : Heap) (locs : List Loc) (ls : Array Slot), mm_I D dA lo s M H locs → lv_has ls 2 [(0, .ref a0), (1, .int x1)] → pX10_readStore_l11 n k M a0 x1 = some o → W p l e (mm_rm 2 45 0 0) s m args below meth c H locs 0 0 (MQ below (mm_Q D dA lo (some (.int o.1)) o.2) args s 0 0 (mm_fr lo)) (F0 m 11 ls []) := by
  induction k with
  | zero =>
    intro M a0 x1 H locs ls I hl h
    have h : (none : Option (Int32 × mm_M)) = some o := h
    cases h
  | succ k ih =>
    intro M a0 x1 H locs ls I hl h
    have h : pX10_readStore_l11b n (pX10_readStore_l11 n k) M a0 x1 = some o := h
    unfold pX10_readStore_l11b at h
    refine lv_iload_n X.1 X.2.1 dX10_readStore_11 rfl (lv_at hl 1 rfl) ?_
    refine mm_jeq (tgt := 104) X dX10_readStore_12 (by decide) h (fun h => ?_) (fun h => ?_)
    · refine lv_aload_n X.1 X.2.1 dX10_readStore_104 rfl (lv_at hl 0 rfl) ?_
      refine mm_cVi X I hl (As := []) (ci := 10) md_X10_ends mv_X10_ends ml_X10_100 rfl (kX10_ends (n := n)) (by decide) ⟨Nat.le_refl 0, Nat.le_refl 0⟩ rfl rfl (Nat.le_of_ble_eq_true rfl) dX10_readStore_105 h (fun v1 M H locs I h => ?_)
      exact mm_xi X I hr hlk dX10_readStore_108 h
    · refine lv_aload_n X.1 X.2.1 dX10_readStore_15 rfl (lv_at hl 0 rfl) ?_
      refine mm_rgr X I fl_X10_13 dX10_readStore_16 h (fun v2 h => ?_)
      refine lv_aload_n X.1 X.2.1 dX10_readStore_19 rfl (lv_at hl 0 rfl) ?_
      refine mm_rgi X I fl_X10_93 dX10_readStore_20 h (fun v3 h => ?_)
      refine lv_aload_n X.1 X.2.1 dX10_readStore_23 rfl (lv_at hl 0 rfl) ?_
      refine lv_aload_n X.1 X.2.1 dX10_readStore_24 rfl (lv_at hl 0 rfl) ?_
      refine mm_rgr X I fl_X10_16 dX10_readStore_25 h (fun v4 h => ?_)
      refine lv_bipush (v := 20) X.1 X.2.1 dX10_readStore_28 (by decide) ?_
      refine lv_aload_n X.1 X.2.1 dX10_readStore_30 rfl (lv_at hl 0 rfl) ?_
      refine mm_rgi X I fl_X10_93 dX10_readStore_31 h (fun v5 h => ?_)
      refine lv_imul X.1 X.2.1 dX10_readStore_34 ?_
      refine lv_bipush (v := 20) X.1 X.2.1 dX10_readStore_35 (by decide) ?_
      refine mm_cVi X I hl (As := [.ref v4, .int (20 * v5), .int 20]) (ci := 10) md_X10_readSigns mv_X10_readSigns ml_X10_96 rfl (kX10_readSigns (n := n)) (by decide) ⟨Nat.le_refl 0, Nat.le_refl 0⟩ rfl rfl (Nat.le_of_ble_eq_true rfl) dX10_readStore_37 h (fun v6 M H locs I h => ?_)
      refine mm_ris X I dX10_readStore_40 h (fun M H locs I h => ?_)
      refine lv_aload_n X.1 X.2.1 dX10_readStore_41 rfl (lv_at hl 0 rfl) ?_
      refine lv_dup X.1 X.2.1 dX10_readStore_42 rfl ?_
      refine mm_rgi X I fl_X10_93 dX10_readStore_43 h (fun v7 h => ?_)
      refine lv_iconst (v := 1) X.1 X.2.1 dX10_readStore_46 (by decide) ?_
      refine lv_iadd X.1 X.2.1 dX10_readStore_47 ?_
      refine mm_rpi X I fl_X10_93 dX10_readStore_48 h (fun M H locs I h => ?_)
      refine lv_aload_n X.1 X.2.1 dX10_readStore_51 rfl (lv_at hl 0 rfl) ?_
      refine mm_rgi X I fl_X10_76 dX10_readStore_52 h (fun v8 h => ?_)
      refine lv_iconst (v := (-1)) X.1 X.2.1 dX10_readStore_55 (by decide) ?_
      refine mm_kne (tgt := 81) X dX10_readStore_56 (by decide) h (fun h => ?_) (fun h => ?_)
      · refine lv_iconst (v := 0) X.1 X.2.1 dX10_readStore_81 (by decide) ?_
        exact wpX10_readStore_b82 X hr hlk n ih M _ _ _ _ _ I (lv_sub hl [0] rfl) h
      · refine lv_aload_n X.1 X.2.1 dX10_readStore_59 rfl (lv_at hl 0 rfl) ?_
        refine mm_cVi X I hl (As := []) (ci := 10) md_X10_ahead mv_X10_ahead ml_X10_79 rfl (kX10_ahead (n := n)) (by decide) ⟨Nat.le_refl 0, Nat.le_refl 0⟩ rfl rfl (Nat.le_of_ble_eq_true rfl) dX10_readStore_60 h (fun v9 M H locs I h => ?_)
        refine lv_bipush (v := 59) X.1 X.2.1 dX10_readStore_63 (by decide) ?_
        refine mm_kne (tgt := 81) X dX10_readStore_65 (by decide) h (fun h => ?_) (fun h => ?_)
        · refine lv_iconst (v := 0) X.1 X.2.1 dX10_readStore_81 (by decide) ?_
          exact wpX10_readStore_b82 X hr hlk n ih M _ _ _ _ _ I (lv_sub hl [0] rfl) h
        · refine lv_aload_n X.1 X.2.1 dX10_readStore_68 rfl (lv_at hl 0 rfl) ?_
          refine mm_rgi X I fl_X10_93 dX10_readStore_69 h (fun v10 h => ?_)
          refine lv_bipush (v := 8) X.1 X.2.1 dX10_readStore_72 (by decide) ?_
          refine mm_kge (tgt := 81) X dX10_readStore_74 (by decide) h (fun h => ?_) (fun h => ?_)
          · refine lv_iconst (v := 0) X.1 X.2.1 dX10_readStore_81 (by decide) ?_
            exact wpX10_readStore_b82 X hr hlk n ih M _ _ _ _ _ I (lv_sub hl [0] rfl) h
          · refine lv_iconst (v := 1) X.1 X.2.1 dX10_readStore_77 (by decide) ?_
            refine lv_goto (tgt := 82) X.1 X.2.1 dX10_readStore_78 (by decide) ?_
            exact wpX10_readStore_b82 X hr hlk n ih M _ _ _ _ _ I (lv_sub hl [0] rfl) h
set_option maxHeartbeats 4000000 in
set_option maxRecDepth 100000 in
theorem kX10_readStore {l : Launch} {D : va_G} {dA : Nat → ClassId} {lo : Nat} {n : Nat} {M : mm_M} {a0 : Nat} (o : Int32 × mm_M) (h : pX10_readStore n M a0 = some o) : (∃ fs, M.2 a0 = some (mm_ob 10 fs)) ∧ mm_Met l D dA lo yX10_readStore cX10_readStore 2 (some .int) 2 45 0 0 [.ref a0] M (some (.int o.1)) o.2 := by
  unfold pX10_readStore at h
  obtain ⟨hob, h⟩ := mm_v_some h
  refine ⟨hob, mm_enter (by decide) (Nat.le_of_ble_eq_true rfl) (fun p e s m args below meth c ls X hr hlk hnm I hl => ?_)⟩
  have X : mm_C D dA lo cX10_readStore RX10 2 p s m args c := X
  have hl : lv_has ls 2 [(0, .ref a0)] := hl
  refine lv_aload_n X.1 X.2.1 dX10_readStore_0 rfl (lv_at hl 0 rfl) ?_
  refine mm_cVv X I hl (As := []) (ci := 10) md_X10_begins mv_X10_begins ml_X10_90 rfl (kX10_begins (n := n)) (by decide) ⟨Nat.le_refl 0, Nat.le_refl 0⟩ rfl rfl (Nat.le_of_ble_eq_true rfl) dX10_readStore_1 h (fun M H locs I h => ?_)
  refine lv_aload_n X.1 X.2.1 dX10_readStore_4 rfl (lv_at hl 0 rfl) ?_
  refine lv_iconst (v := 0) X.1 X.2.1 dX10_readStore_5 (by decide) ?_
  refine mm_rpi X I fl_X10_93 dX10_readStore_6 h (fun M H locs I h => ?_)
  refine lv_iconst (v := 1) X.1 X.2.1 dX10_readStore_9 (by decide) ?_
  refine lv_istore_n (lv' := [(1, .int 1), (0, .ref a0)]) X.1 X.2.1 dX10_readStore_10 rfl hl (by decide) rfl (fun ls hl => ?_)
  exact wpX10_readStore_l11 X hr hlk n  n M _ _ _ _ _ I (lv_sub hl [1, 0] rfl) h
set_option maxHeartbeats 4000000 in
set_option maxRecDepth 100000 in
theorem kX10_sortOf {l : Launch} {D : va_G} {dA : Nat → ClassId} {lo : Nat} {n : Nat} {M : mm_M} {x0 : Int32} (o : Int32 × mm_M) (h : pX10_sortOf n M x0 = some o) : mm_Met l D dA lo yX10_sortOf cX10_sortOf 1 (some .int) 0 0 0 0 [.int x0] M (some (.int o.1)) o.2 := by
  unfold pX10_sortOf at h
  refine mm_enter (by decide) (Nat.le_of_ble_eq_true rfl) (fun p e s m args below meth c ls X hr hlk hnm I hl => ?_)
  have X : mm_C D dA lo cX10_sortOf RX10 1 p s m args c := X
  have hl : lv_has ls 1 [(0, .int x0)] := hl
  refine lv_iload_n X.1 X.2.1 dX10_sortOf_0 rfl (lv_at hl 0 rfl) ?_
  by_cases z1_0 : x0 = 98
  · have h := mm_t z1_0 h
    refine lv_tableIn (tgt := 119) (off := 118) X.1 X.2.1 dX10_sortOf_1 (by rw [z1_0]; decide) (by rw [z1_0]; decide) (by rw [z1_0]; rfl) (by decide) ?_
    refine lv_bipush (v := 7) X.1 X.2.1 dX10_sortOf_119 (by decide) ?_
    exact mm_xi X I hr hlk dX10_sortOf_121 h
  · have h := mm_f z1_0 h
    by_cases z1_1 : x0 = 99
    · have h := mm_t z1_1 h
      refine lv_tableIn (tgt := 112) (off := 111) X.1 X.2.1 dX10_sortOf_1 (by rw [z1_1]; decide) (by rw [z1_1]; decide) (by rw [z1_1]; rfl) (by decide) ?_
      refine lv_iconst (v := 4) X.1 X.2.1 dX10_sortOf_112 (by decide) ?_
      exact mm_xi X I hr hlk dX10_sortOf_113 h
    · have h := mm_f z1_1 h
      by_cases z1_2 : x0 = 100
      · have h := mm_t z1_2 h
        refine lv_tableIn (tgt := 108) (off := 107) X.1 X.2.1 dX10_sortOf_1 (by rw [z1_2]; decide) (by rw [z1_2]; decide) (by rw [z1_2]; rfl) (by decide) ?_
        refine lv_iconst (v := 2) X.1 X.2.1 dX10_sortOf_108 (by decide) ?_
        exact mm_xi X I hr hlk dX10_sortOf_109 h
      · have h := mm_f z1_2 h
        by_cases z1_7 : x0 = 105
        · have h := mm_t z1_7 h
          refine lv_tableIn (tgt := 106) (off := 105) X.1 X.2.1 dX10_sortOf_1 (by rw [z1_7]; decide) (by rw [z1_7]; decide) (by rw [z1_7]; rfl) (by decide) ?_
          refine lv_iconst (v := 1) X.1 X.2.1 dX10_sortOf_106 (by decide) ?_
          exact mm_xi X I hr hlk dX10_sortOf_107 h
        · have h := mm_f z1_7 h
          by_cases z1_8 : x0 = 106
          · have h := mm_t z1_8 h
            refine lv_tableIn (tgt := 122) (off := 121) X.1 X.2.1 dX10_sortOf_1 (by rw [z1_8]; decide) (by rw [z1_8]; decide) (by rw [z1_8]; rfl) (by decide) ?_
            refine lv_bipush (v := 8) X.1 X.2.1 dX10_sortOf_122 (by decide) ?_
            exact mm_xi X I hr hlk dX10_sortOf_124 h
          · have h := mm_f z1_8 h
            by_cases z1_14 : x0 = 112
            · have h := mm_t z1_14 h
              refine lv_tableIn (tgt := 114) (off := 113) X.1 X.2.1 dX10_sortOf_1 (by rw [z1_14]; decide) (by rw [z1_14]; decide) (by rw [z1_14]; rfl) (by decide) ?_
              refine lv_iconst (v := 5) X.1 X.2.1 dX10_sortOf_114 (by decide) ?_
              exact mm_xi X I hr hlk dX10_sortOf_115 h
            · have h := mm_f z1_14 h
              by_cases z1_16 : x0 = 114
              · have h := mm_t z1_16 h
                refine lv_tableIn (tgt := 104) (off := 103) X.1 X.2.1 dX10_sortOf_1 (by rw [z1_16]; decide) (by rw [z1_16]; decide) (by rw [z1_16]; rfl) (by decide) ?_
                refine lv_iconst (v := 0) X.1 X.2.1 dX10_sortOf_104 (by decide) ?_
                exact mm_xi X I hr hlk dX10_sortOf_105 h
              · have h := mm_f z1_16 h
                by_cases z1_17 : x0 = 115
                · have h := mm_t z1_17 h
                  refine lv_tableIn (tgt := 110) (off := 109) X.1 X.2.1 dX10_sortOf_1 (by rw [z1_17]; decide) (by rw [z1_17]; decide) (by rw [z1_17]; rfl) (by decide) ?_
                  refine lv_iconst (v := 3) X.1 X.2.1 dX10_sortOf_110 (by decide) ?_
                  exact mm_xi X I hr hlk dX10_sortOf_111 h
                · have h := mm_f z1_17 h
                  by_cases z1_21 : x0 = 119
                  · have h := mm_t z1_21 h
                    refine lv_tableIn (tgt := 116) (off := 115) X.1 X.2.1 dX10_sortOf_1 (by rw [z1_21]; decide) (by rw [z1_21]; decide) (by rw [z1_21]; rfl) (by decide) ?_
                    refine lv_bipush (v := 6) X.1 X.2.1 dX10_sortOf_116 (by decide) ?_
                    exact mm_xi X I hr hlk dX10_sortOf_118 h
                  · have h := mm_f z1_21 h
                    have z1_q0 : ¬ Int32.toInt x0 = 98 := fun q => z1_0 (Int32.toInt_inj.mp q)
                    have z1_q1 : ¬ Int32.toInt x0 = 99 := fun q => z1_1 (Int32.toInt_inj.mp q)
                    have z1_q2 : ¬ Int32.toInt x0 = 100 := fun q => z1_2 (Int32.toInt_inj.mp q)
                    have z1_q7 : ¬ Int32.toInt x0 = 105 := fun q => z1_7 (Int32.toInt_inj.mp q)
                    have z1_q8 : ¬ Int32.toInt x0 = 106 := fun q => z1_8 (Int32.toInt_inj.mp q)
                    have z1_q14 : ¬ Int32.toInt x0 = 112 := fun q => z1_14 (Int32.toInt_inj.mp q)
                    have z1_q16 : ¬ Int32.toInt x0 = 114 := fun q => z1_16 (Int32.toInt_inj.mp q)
                    have z1_q17 : ¬ Int32.toInt x0 = 115 := fun q => z1_17 (Int32.toInt_inj.mp q)
                    have z1_q21 : ¬ Int32.toInt x0 = 119 := fun q => z1_21 (Int32.toInt_inj.mp q)
                    refine mm_tdef (tgt := 125) X dX10_sortOf_1 (by decide) (fun i hi hq => ?_) (by decide) ?_
                    · rcases (show i = 0 ∨ i = 1 ∨ i = 2 ∨ i = 3 ∨ i = 4 ∨ i = 5 ∨ i = 6 ∨ i = 7 ∨ i = 8 ∨ i = 9 ∨ i = 10 ∨ i = 11 ∨ i = 12 ∨ i = 13 ∨ i = 14 ∨ i = 15 ∨ i = 16 ∨ i = 17 ∨ i = 18 ∨ i = 19 ∨ i = 20 ∨ i = 21 by simp at hi; omega) with rfl | rfl | rfl | rfl | rfl | rfl | rfl | rfl | rfl | rfl | rfl | rfl | rfl | rfl | rfl | rfl | rfl | rfl | rfl | rfl | rfl | rfl
                      · exact absurd hq (by omega)
                      · exact absurd hq (by omega)
                      · exact absurd hq (by omega)
                      · rfl
                      · rfl
                      · rfl
                      · rfl
                      · exact absurd hq (by omega)
                      · exact absurd hq (by omega)
                      · rfl
                      · rfl
                      · rfl
                      · rfl
                      · rfl
                      · exact absurd hq (by omega)
                      · rfl
                      · exact absurd hq (by omega)
                      · exact absurd hq (by omega)
                      · rfl
                      · rfl
                      · rfl
                      · exact absurd hq (by omega)
                    · refine lv_iconst (v := (-1)) X.1 X.2.1 dX10_sortOf_125 (by decide) ?_
                      exact mm_xi X I hr hlk dX10_sortOf_126 h
set_option maxHeartbeats 4000000 in
set_option maxRecDepth 100000 in
theorem wpX10_readStep_b118 {p : Program} {l : Launch} {e : Env} {s : State} {m : MethodId} {args : Array Value} {below : List Frame} {meth : Method} {c : Code} {D : va_G} {dA : Nat → ClassId} {lo : Nat} (X : mm_C D dA lo cX10_readStep RX10 3 p s m args c) (hr : meth.sig.returnType = none) (hlk : meth.locks = false) (n : Nat) {o : mm_M}  : ∀ (M : mm_M) (a0 : Nat) (x1 : Int32) (x2 : Int32) (H : Heap) (locs : List Loc) (ls : Array Slot), mm_I D dA lo s M H locs → lv_has ls 3 [(0, .ref a0), (1, .int x1), (2, .int x2)] → pX10_readStep_b118 n M a0 x1 x2 = some o → W p l e (mm_rm 2 45 0 0) s m args below meth c H locs 0 0 (MQ below (mm_Q D dA lo none o) args s 0 0 (mm_fr lo)) (F0 m 118 ls []) := by
  intro M a0 x1 x2 H locs ls I hl h
  unfold pX10_readStep_b118 at h
  refine lv_aload_n X.1 X.2.1 dX10_readStep_118 rfl (lv_at hl 0 rfl) ?_
  refine lv_bipush (v := 58) X.1 X.2.1 dX10_readStep_119 (by decide) ?_
  refine mm_cVv X I hl (As := [.int 58]) (ci := 10) md_X10_must mv_X10_must ml_X10_110 rfl (kX10_must (n := n)) (by decide) ⟨Nat.le_refl 0, Nat.le_refl 0⟩ rfl rfl (Nat.le_of_ble_eq_true rfl) dX10_readStep_121 h (fun M H locs I h => ?_)
  refine lv_aload_n X.1 X.2.1 dX10_readStep_124 rfl (lv_at hl 0 rfl) ?_
  refine mm_rgr X I fl_X10_19 dX10_readStep_125 h (fun v2 h => ?_)
  refine lv_iload_n X.1 X.2.1 dX10_readStep_128 rfl (lv_at hl 1 rfl) ?_
  refine lv_iconst (v := 3) X.1 X.2.1 dX10_readStep_129 (by decide) ?_
  refine lv_iadd X.1 X.2.1 dX10_readStep_130 ?_
  refine lv_aload_n X.1 X.2.1 dX10_readStep_131 rfl (lv_at hl 0 rfl) ?_
  refine mm_rgi X I fl_X10_76 dX10_readStep_132 h (fun v3 h => ?_)
  refine lv_iconst (v := (-1)) X.1 X.2.1 dX10_readStep_135 (by decide) ?_
  refine mm_kne (tgt := 165) X dX10_readStep_136 (by decide) h (fun h => ?_) (fun h => ?_)
  · refine lv_iconst (v := 0) X.1 X.2.1 dX10_readStep_165 (by decide) ?_
    refine mm_ris X I dX10_readStep_166 h (fun M H locs I h => ?_)
    exact mm_xv X I hr hlk dX10_readStep_167 h
  · refine lv_aload_n X.1 X.2.1 dX10_readStep_139 rfl (lv_at hl 0 rfl) ?_
    refine lv_aload_n X.1 X.2.1 dX10_readStep_140 rfl (lv_at hl 0 rfl) ?_
    refine mm_rgr X I fl_X10_19 dX10_readStep_141 h (fun v4 h => ?_)
    refine lv_iload_n X.1 X.2.1 dX10_readStep_144 rfl (lv_at hl 1 rfl) ?_
    refine lv_iconst (v := 4) X.1 X.2.1 dX10_readStep_145 (by decide) ?_
    refine lv_iadd X.1 X.2.1 dX10_readStep_146 ?_
    refine lv_iload_n X.1 X.2.1 dX10_readStep_147 rfl (lv_at hl 2 rfl) ?_
    refine lv_iconst (v := 4) X.1 X.2.1 dX10_readStep_148 (by decide) ?_
    refine mm_kne (tgt := 157) X dX10_readStep_149 (by decide) h (fun h => ?_) (fun h => ?_)
    · refine lv_bipush (v := 20) X.1 X.2.1 dX10_readStep_157 (by decide) ?_
      refine mm_cVi X I hl (As := [.ref v4, .int (x1 + 4), .int 20]) (ci := 10) md_X10_readSigns mv_X10_readSigns ml_X10_96 rfl (kX10_readSigns (n := n)) (by decide) ⟨Nat.le_refl 0, Nat.le_refl 0⟩ rfl rfl (Nat.le_of_ble_eq_true rfl) dX10_readStep_159 h (fun v5 M H locs I h => ?_)
      refine lv_goto (tgt := 166) X.1 X.2.1 dX10_readStep_162 (by decide) ?_
      refine mm_ris X I dX10_readStep_166 h (fun M H locs I h => ?_)
      exact mm_xv X I hr hlk dX10_readStep_167 h
    · refine lv_bipush (v := 6) X.1 X.2.1 dX10_readStep_152 (by decide) ?_
      refine lv_goto (tgt := 159) X.1 X.2.1 dX10_readStep_154 (by decide) ?_
      refine mm_cVi X I hl (As := [.ref v4, .int (x1 + 4), .int 6]) (ci := 10) md_X10_readSigns mv_X10_readSigns ml_X10_96 rfl (kX10_readSigns (n := n)) (by decide) ⟨Nat.le_refl 0, Nat.le_refl 0⟩ rfl rfl (Nat.le_of_ble_eq_true rfl) dX10_readStep_159 h (fun v6 M H locs I h => ?_)
      refine lv_goto (tgt := 166) X.1 X.2.1 dX10_readStep_162 (by decide) ?_
      refine mm_ris X I dX10_readStep_166 h (fun M H locs I h => ?_)
      exact mm_xv X I hr hlk dX10_readStep_167 h
set_option maxHeartbeats 4000000 in
set_option maxRecDepth 100000 in
theorem wpX10_readStep_b104 {p : Program} {l : Launch} {e : Env} {s : State} {m : MethodId} {args : Array Value} {below : List Frame} {meth : Method} {c : Code} {D : va_G} {dA : Nat → ClassId} {lo : Nat} (X : mm_C D dA lo cX10_readStep RX10 3 p s m args c) (hr : meth.sig.returnType = none) (hlk : meth.locks = false) (n : Nat) {o : mm_M}  : ∀ (M : mm_M) (a0 : Nat) (x1 : Int32) (x2 : Int32) (H : Heap) (locs : List Loc) (ls : Array Slot), mm_I D dA lo s M H locs → lv_has ls 3 [(0, .ref a0), (1, .int x1), (2, .int x2)] → pX10_readStep_b104 n M a0 x1 x2 = some o → W p l e (mm_rm 2 45 0 0) s m args below meth c H locs 0 0 (MQ below (mm_Q D dA lo none o) args s 0 0 (mm_fr lo)) (F0 m 104 ls []) := by
  intro M a0 x1 x2 H locs ls I hl h
  unfold pX10_readStep_b104 at h
  refine lv_iload_n X.1 X.2.1 dX10_readStep_104 rfl (lv_at hl 2 rfl) ?_
  refine mm_jeq (tgt := 118) X dX10_readStep_105 (by decide) h (fun h => ?_) (fun h => ?_)
  · exact wpX10_readStep_b118 X hr hlk n  M _ _ _ _ _ _ I (lv_sub hl [0, 1, 2] rfl) h
  · refine lv_iload_n X.1 X.2.1 dX10_readStep_108 rfl (lv_at hl 2 rfl) ?_
    refine lv_iconst (v := 1) X.1 X.2.1 dX10_readStep_109 (by decide) ?_
    refine mm_keq (tgt := 118) X dX10_readStep_110 (by decide) h (fun h => ?_) (fun h => ?_)
    · exact wpX10_readStep_b118 X hr hlk n  M _ _ _ _ _ _ I (lv_sub hl [0, 1, 2] rfl) h
    · refine lv_iload_n X.1 X.2.1 dX10_readStep_113 rfl (lv_at hl 2 rfl) ?_
      refine lv_iconst (v := 4) X.1 X.2.1 dX10_readStep_114 (by decide) ?_
      refine mm_kne (tgt := 167) X dX10_readStep_115 (by decide) h (fun h => ?_) (fun h => ?_)
      · exact mm_xv X I hr hlk dX10_readStep_167 h
      · exact wpX10_readStep_b118 X hr hlk n  M _ _ _ _ _ _ I (lv_sub hl [0, 1, 2] rfl) h
set_option maxHeartbeats 4000000 in
set_option maxRecDepth 100000 in
theorem wpX10_readStep_b84 {p : Program} {l : Launch} {e : Env} {s : State} {m : MethodId} {args : Array Value} {below : List Frame} {meth : Method} {c : Code} {D : va_G} {dA : Nat → ClassId} {lo : Nat} (X : mm_C D dA lo cX10_readStep RX10 3 p s m args c) (hr : meth.sig.returnType = none) (hlk : meth.locks = false) (n : Nat) {o : mm_M}  : ∀ (M : mm_M) (a0 : Nat) (x1 : Int32) (x2 : Int32) (H : Heap) (locs : List Loc) (ls : Array Slot), mm_I D dA lo s M H locs → lv_has ls 3 [(0, .ref a0), (1, .int x1), (2, .int x2)] → pX10_readStep_b84 n M a0 x1 x2 = some o → W p l e (mm_rm 2 45 0 0) s m args below meth c H locs 0 0 (MQ below (mm_Q D dA lo none o) args s 0 0 (mm_fr lo)) (F0 m 84 ls []) := by
  intro M a0 x1 x2 H locs ls I hl h
  unfold pX10_readStep_b84 at h
  refine lv_aload_n X.1 X.2.1 dX10_readStep_84 rfl (lv_at hl 0 rfl) ?_
  refine lv_bipush (v := 44) X.1 X.2.1 dX10_readStep_85 (by decide) ?_
  refine mm_cVv X I hl (As := [.int 44]) (ci := 10) md_X10_must mv_X10_must ml_X10_110 rfl (kX10_must (n := n)) (by decide) ⟨Nat.le_refl 0, Nat.le_refl 0⟩ rfl rfl (Nat.le_of_ble_eq_true rfl) dX10_readStep_87 h (fun M H locs I h => ?_)
  refine lv_aload_n X.1 X.2.1 dX10_readStep_90 rfl (lv_at hl 0 rfl) ?_
  refine mm_rgr X I fl_X10_19 dX10_readStep_91 h (fun v2 h => ?_)
  refine lv_iload_n X.1 X.2.1 dX10_readStep_94 rfl (lv_at hl 1 rfl) ?_
  refine lv_iconst (v := 1) X.1 X.2.1 dX10_readStep_95 (by decide) ?_
  refine lv_iadd X.1 X.2.1 dX10_readStep_96 ?_
  refine lv_iconst (v := 1) X.1 X.2.1 dX10_readStep_97 (by decide) ?_
  refine lv_iadd X.1 X.2.1 dX10_readStep_98 ?_
  refine lv_aload_n X.1 X.2.1 dX10_readStep_99 rfl (lv_at hl 0 rfl) ?_
  refine mm_cVi X I hl (As := []) (ci := 10) md_X10_digit mv_X10_digit ml_X10_106 rfl (kX10_digit (n := n)) (by decide) ⟨Nat.le_refl 0, Nat.le_refl 0⟩ rfl rfl (Nat.le_of_ble_eq_true rfl) dX10_readStep_100 h (fun v3 M H locs I h => ?_)
  refine mm_ris X I dX10_readStep_103 h (fun M H locs I h => ?_)
  exact wpX10_readStep_b104 X hr hlk n  M _ _ _ _ _ _ I (lv_sub hl [0, 1, 2] rfl) h
set_option maxHeartbeats 4000000 in
set_option maxRecDepth 100000 in
theorem kX10_readStep {l : Launch} {D : va_G} {dA : Nat → ClassId} {lo : Nat} {n : Nat} {M : mm_M} {a0 : Nat} {x1 : Int32} (o : mm_M) (h : pX10_readStep n M a0 x1 = some o) : (∃ fs, M.2 a0 = some (mm_ob 10 fs)) ∧ mm_Met l D dA lo yX10_readStep cX10_readStep 3 none 2 45 0 0 [.ref a0, .int x1] M none o := by
  unfold pX10_readStep at h
  obtain ⟨hob, h⟩ := mm_v_some h
  refine ⟨hob, mm_enter (by decide) (Nat.le_of_ble_eq_true rfl) (fun p e s m args below meth c ls X hr hlk hnm I hl => ?_)⟩
  have X : mm_C D dA lo cX10_readStep RX10 3 p s m args c := X
  have hl : lv_has ls 3 [(0, .ref a0), (1, .int x1)] := hl
  refine lv_aload_n X.1 X.2.1 dX10_readStep_0 rfl (lv_at hl 0 rfl) ?_
  refine mm_cVi X I hl (As := []) (ci := 10) md_X10_ahead mv_X10_ahead ml_X10_79 rfl (kX10_ahead (n := n)) (by decide) ⟨Nat.le_refl 0, Nat.le_refl 0⟩ rfl rfl (Nat.le_of_ble_eq_true rfl) dX10_readStep_1 h (fun v1 M H locs I h => ?_)
  refine mm_cSi X I hl (As := [.int v1]) md_X10_sortOf mv_X10_sortOf ml_X10_103 (kX10_sortOf (n := n)) (by decide) ⟨Nat.le_refl 0, Nat.le_refl 0⟩ rfl rfl (Nat.le_of_ble_eq_true rfl) dX10_readStep_4 h (fun v2 M H locs I h => ?_)
  refine lv_istore_n (lv' := [(2, .int v2), (0, .ref a0), (1, .int x1)]) X.1 X.2.1 dX10_readStep_7 rfl hl (by decide) rfl (fun ls hl => ?_)
  refine lv_iload_n X.1 X.2.1 dX10_readStep_8 rfl (lv_at hl 0 rfl) ?_
  refine lv_iconst (v := (-1)) X.1 X.2.1 dX10_readStep_9 (by decide) ?_
  refine mm_kne (tgt := 18) X dX10_readStep_10 (by decide) h (fun h => ?_) (fun h => ?_)
  · refine lv_aload_n X.1 X.2.1 dX10_readStep_18 rfl (lv_at hl 1 rfl) ?_
    refine lv_dup X.1 X.2.1 dX10_readStep_19 rfl ?_
    refine mm_rgi X I fl_X10_73 dX10_readStep_20 h (fun v3 h => ?_)
    refine lv_iconst (v := 1) X.1 X.2.1 dX10_readStep_23 (by decide) ?_
    refine lv_iadd X.1 X.2.1 dX10_readStep_24 ?_
    refine mm_rpi X I fl_X10_73 dX10_readStep_25 h (fun M H locs I h => ?_)
    refine lv_aload_n X.1 X.2.1 dX10_readStep_28 rfl (lv_at hl 1 rfl) ?_
    refine mm_rgr X I fl_X10_19 dX10_readStep_29 h (fun v4 h => ?_)
    refine lv_iload_n X.1 X.2.1 dX10_readStep_32 rfl (lv_at hl 2 rfl) ?_
    refine lv_iload_n X.1 X.2.1 dX10_readStep_33 rfl (lv_at hl 0 rfl) ?_
    refine mm_ris X I dX10_readStep_34 h (fun M H locs I h => ?_)
    refine lv_aload_n X.1 X.2.1 dX10_readStep_35 rfl (lv_at hl 1 rfl) ?_
    refine mm_rgr X I fl_X10_19 dX10_readStep_36 h (fun v5 h => ?_)
    refine lv_iload_n X.1 X.2.1 dX10_readStep_39 rfl (lv_at hl 2 rfl) ?_
    refine lv_iconst (v := 1) X.1 X.2.1 dX10_readStep_40 (by decide) ?_
    refine lv_iadd X.1 X.2.1 dX10_readStep_41 ?_
    refine lv_aload_n X.1 X.2.1 dX10_readStep_42 rfl (lv_at hl 1 rfl) ?_
    refine mm_cVi X I hl (As := []) (ci := 10) md_X10_digit mv_X10_digit ml_X10_106 rfl (kX10_digit (n := n)) (by decide) ⟨Nat.le_refl 0, Nat.le_refl 0⟩ rfl rfl (Nat.le_of_ble_eq_true rfl) dX10_readStep_43 h (fun v6 M H locs I h => ?_)
    refine mm_ris X I dX10_readStep_46 h (fun M H locs I h => ?_)
    refine lv_aload_n X.1 X.2.1 dX10_readStep_47 rfl (lv_at hl 1 rfl) ?_
    refine mm_rgr X I fl_X10_19 dX10_readStep_48 h (fun v7 h => ?_)
    refine lv_iload_n X.1 X.2.1 dX10_readStep_51 rfl (lv_at hl 2 rfl) ?_
    refine lv_iconst (v := 1) X.1 X.2.1 dX10_readStep_52 (by decide) ?_
    refine lv_iadd X.1 X.2.1 dX10_readStep_53 ?_
    refine lv_iconst (v := 1) X.1 X.2.1 dX10_readStep_54 (by decide) ?_
    refine lv_iadd X.1 X.2.1 dX10_readStep_55 ?_
    refine lv_ldc (v := (-1000000)) X.1 X.2.1 X.2.2.2.1 (X.2.2.2.2.1 _ cn_X10_109) dX10_readStep_56 ?_
    refine mm_ris X I dX10_readStep_58 h (fun M H locs I h => ?_)
    refine lv_aload_n X.1 X.2.1 dX10_readStep_59 rfl (lv_at hl 1 rfl) ?_
    refine mm_rgr X I fl_X10_19 dX10_readStep_60 h (fun v8 h => ?_)
    refine lv_iload_n X.1 X.2.1 dX10_readStep_63 rfl (lv_at hl 2 rfl) ?_
    refine lv_iconst (v := 3) X.1 X.2.1 dX10_readStep_64 (by decide) ?_
    refine lv_iadd X.1 X.2.1 dX10_readStep_65 ?_
    refine lv_iconst (v := 0) X.1 X.2.1 dX10_readStep_66 (by decide) ?_
    refine mm_ris X I dX10_readStep_67 h (fun M H locs I h => ?_)
    refine lv_iload_n X.1 X.2.1 dX10_readStep_68 rfl (lv_at hl 0 rfl) ?_
    refine lv_iconst (v := 3) X.1 X.2.1 dX10_readStep_69 (by decide) ?_
    refine mm_keq (tgt := 84) X dX10_readStep_70 (by decide) h (fun h => ?_) (fun h => ?_)
    · exact wpX10_readStep_b84 X hr hlk n  M _ _ _ _ _ _ I (lv_sub hl [1, 2, 0] rfl) h
    · refine lv_iload_n X.1 X.2.1 dX10_readStep_73 rfl (lv_at hl 0 rfl) ?_
      refine lv_iconst (v := 4) X.1 X.2.1 dX10_readStep_74 (by decide) ?_
      refine mm_keq (tgt := 84) X dX10_readStep_75 (by decide) h (fun h => ?_) (fun h => ?_)
      · exact wpX10_readStep_b84 X hr hlk n  M _ _ _ _ _ _ I (lv_sub hl [1, 2, 0] rfl) h
      · refine lv_iload_n X.1 X.2.1 dX10_readStep_78 rfl (lv_at hl 0 rfl) ?_
        refine lv_bipush (v := 7) X.1 X.2.1 dX10_readStep_79 (by decide) ?_
        refine mm_kne (tgt := 104) X dX10_readStep_81 (by decide) h (fun h => ?_) (fun h => ?_)
        · exact wpX10_readStep_b104 X hr hlk n  M _ _ _ _ _ _ I (lv_sub hl [1, 2, 0] rfl) h
        · exact wpX10_readStep_b84 X hr hlk n  M _ _ _ _ _ _ I (lv_sub hl [1, 2, 0] rfl) h
  · refine lv_aload_n X.1 X.2.1 dX10_readStep_13 rfl (lv_at hl 1 rfl) ?_
    refine mm_cVv X I hl (As := []) (ci := 10) md_X10_bad mv_X10_bad ml_X10_87 rfl (kX10_bad (n := n)) (by decide) ⟨Nat.le_refl 0, Nat.le_refl 0⟩ rfl rfl (Nat.le_of_ble_eq_true rfl) dX10_readStep_14 h (fun M H locs I h => ?_)
    exact mm_xv X I hr hlk dX10_readStep_17 h
set_option maxHeartbeats 4000000 in
set_option maxRecDepth 100000 in
theorem wpX10_readScript_b78 {p : Program} {l : Launch} {e : Env} {s : State} {m : MethodId} {args : Array Value} {below : List Frame} {meth : Method} {c : Code} {D : va_G} {dA : Nat → ClassId} {lo : Nat} (X : mm_C D dA lo cX10_readScript RX10 3 p s m args c) (hr : meth.sig.returnType = (some .int)) (hlk : meth.locks = false) (n : Nat) {o : Int32 × mm_M} {K13 : mm_M → Nat → Int32 → Int32 → Option (Int32 × mm_M)} (k13 : ∀ (M : mm_M) (a0 : Nat) (x1 : Int32) (x2 : Int32) (H : Heap) (locs : List Loc) (ls : Array Slot), mm_I D dA lo s M H locs → lv_has ls 3 [(0, .ref a0), (1, .int x1), (2, .int x2)] → K13 M a0 x1 x2 = some o → W p l e (mm_rm 3 67 0 0) s m args below meth c H locs 0 0 (MQ below (mm_Q D dA lo (some (.int o.1)) o.2) args s 0 0 (mm_fr lo)) (F0 m 13 ls []))  : ∀ (M : mm_M) (a0 : Nat) (x1 : Int32) (s0 : Int32) (H : Heap) (locs : List Loc) (ls : Array Slot), mm_I D dA lo s M H locs → lv_has ls 3 [(0, .ref a0), (1, .int x1)] → pX10_readScript_b78 n K13 M a0 x1 s0 = some o → W p l e (mm_rm 3 67 0 0) s m args below meth c H locs 0 0 (MQ below (mm_Q D dA lo (some (.int o.1)) o.2) args s 0 0 (mm_fr lo)) (F0 m 78 ls [.int s0]) := by
  intro M a0 x1 s0 H locs ls I hl h
  unfold pX10_readScript_b78 at h
  refine lv_istore_n (lv' := [(2, .int s0), (0, .ref a0), (1, .int x1)]) X.1 X.2.1 dX10_readScript_78 rfl hl (by decide) rfl (fun ls hl => ?_)
  refine lv_aload_n X.1 X.2.1 dX10_readScript_79 rfl (lv_at hl 1 rfl) ?_
  refine lv_dup X.1 X.2.1 dX10_readScript_80 rfl ?_
  refine mm_rgi X I fl_X10_73 dX10_readScript_81 h (fun v1 h => ?_)
  refine lv_iload_n X.1 X.2.1 dX10_readScript_84 rfl (lv_at hl 0 rfl) ?_
  refine mm_jeq (tgt := 92) X dX10_readScript_85 (by decide) h (fun h => ?_) (fun h => ?_)
  · refine lv_iconst (v := 0) X.1 X.2.1 dX10_readScript_92 (by decide) ?_
    refine lv_iadd X.1 X.2.1 dX10_readScript_93 ?_
    refine mm_rpi X I fl_X10_73 dX10_readScript_94 h (fun M H locs I h => ?_)
    refine lv_goto (tgt := 13) X.1 X.2.1 dX10_readScript_97 (by decide) ?_
    exact k13 M _ _ _ _ _ _ I (lv_sub hl [1, 2, 0] rfl) h
  · refine lv_iconst (v := 1) X.1 X.2.1 dX10_readScript_88 (by decide) ?_
    refine lv_goto (tgt := 93) X.1 X.2.1 dX10_readScript_89 (by decide) ?_
    refine lv_iadd X.1 X.2.1 dX10_readScript_93 ?_
    refine mm_rpi X I fl_X10_73 dX10_readScript_94 h (fun M H locs I h => ?_)
    refine lv_goto (tgt := 13) X.1 X.2.1 dX10_readScript_97 (by decide) ?_
    exact k13 M _ _ _ _ _ _ I (lv_sub hl [1, 2, 0] rfl) h
set_option maxHeartbeats 4000000 in
set_option maxRecDepth 100000 in
theorem wpX10_readScript_l13 {p : Program} {l : Launch} {e : Env} {s : State} {m : MethodId} {args : Array Value} {below : List Frame} {meth : Method} {c : Code} {D : va_G} {dA : Nat → ClassId} {lo : Nat} (X : mm_C D dA lo cX10_readScript RX10 3 p s m args c) (hr : meth.sig.returnType = (some .int)) (hlk : meth.locks = false) (n : Nat) {o : Int32 × mm_M} (k : Nat) : ∀ (M : mm_M) (a0 : Nat) (x1 : Int32) (x2 : Int32) (H : Heap) (locs : List Loc) (ls : Array Slot), mm_I D dA lo s M H locs → lv_has ls 3 [(0, .ref a0), (1, .int x1), (2, .int x2)] → pX10_readScript_l13 n k M a0 x1 x2 = some o → W p l e (mm_rm 3 67 0 0) s m args below meth c H locs 0 0 (MQ below (mm_Q D dA lo (some (.int o.1)) o.2) args s 0 0 (mm_fr lo)) (F0 m 13 ls []) := by
  induction k with
  | zero =>
    intro M a0 x1 x2 H locs ls I hl h
    have h : (none : Option (Int32 × mm_M)) = some o := h
    cases h
  | succ k ih =>
    intro M a0 x1 x2 H locs ls I hl h
    have h : pX10_readScript_l13b n (pX10_readScript_l13 n k) M a0 x1 x2 = some o := h
    unfold pX10_readScript_l13b at h
    refine lv_iload_n X.1 X.2.1 dX10_readScript_13 rfl (lv_at hl 2 rfl) ?_
    refine mm_jeq (tgt := 100) X dX10_readScript_14 (by decide) h (fun h => ?_) (fun h => ?_)
    · refine lv_aload_n X.1 X.2.1 dX10_readScript_100 rfl (lv_at hl 0 rfl) ?_
      refine mm_cVi X I hl (As := []) (ci := 10) md_X10_ends mv_X10_ends ml_X10_100 rfl (kX10_ends (n := n)) (by decide) ⟨Nat.le_refl 0, Nat.le_refl 0⟩ rfl rfl (Nat.le_of_ble_eq_true rfl) dX10_readScript_101 h (fun v1 M H locs I h => ?_)
      exact mm_xi X I hr hlk dX10_readScript_104 h
    · refine lv_aload_n X.1 X.2.1 dX10_readScript_17 rfl (lv_at hl 0 rfl) ?_
      refine lv_bipush (v := 24) X.1 X.2.1 dX10_readScript_18 (by decide) ?_
      refine lv_bipush (v := 12) X.1 X.2.1 dX10_readScript_20 (by decide) ?_
      refine lv_iload_n X.1 X.2.1 dX10_readScript_22 rfl (lv_at hl 1 rfl) ?_
      refine lv_imul X.1 X.2.1 dX10_readScript_23 ?_
      refine lv_aload_n X.1 X.2.1 dX10_readScript_24 rfl (lv_at hl 0 rfl) ?_
      refine mm_rgr X I fl_X10_22 dX10_readScript_25 h (fun v2 h => ?_)
      refine lv_iload_n X.1 X.2.1 dX10_readScript_28 rfl (lv_at hl 1 rfl) ?_
      refine mm_ria X I dX10_readScript_29 h (fun v3 h => ?_)
      refine lv_iadd X.1 X.2.1 dX10_readScript_30 ?_
      refine lv_imul X.1 X.2.1 dX10_readScript_31 ?_
      refine mm_cVv X I hl (As := [.int (24 * ((12 * x1) + v3))]) (ci := 10) md_X10_readStep mv_X10_readStep ml_X10_114 rfl (kX10_readStep (n := n)) (by decide) ⟨Nat.le_refl 0, Nat.le_refl 0⟩ rfl rfl (Nat.le_of_ble_eq_true rfl) dX10_readScript_32 h (fun M H locs I h => ?_)
      refine lv_aload_n X.1 X.2.1 dX10_readScript_35 rfl (lv_at hl 0 rfl) ?_
      refine mm_rgr X I fl_X10_22 dX10_readScript_36 h (fun v5 h => ?_)
      refine lv_iload_n X.1 X.2.1 dX10_readScript_39 rfl (lv_at hl 1 rfl) ?_
      refine lv_dup2_11 X.1 X.2.1 dX10_readScript_40 rfl rfl ?_
      refine mm_ria X I dX10_readScript_41 h (fun v6 h => ?_)
      refine lv_iconst (v := 1) X.1 X.2.1 dX10_readScript_42 (by decide) ?_
      refine lv_iadd X.1 X.2.1 dX10_readScript_43 ?_
      refine mm_ris X I dX10_readScript_44 h (fun M H locs I h => ?_)
      refine lv_aload_n X.1 X.2.1 dX10_readScript_45 rfl (lv_at hl 0 rfl) ?_
      refine mm_rgi X I fl_X10_76 dX10_readScript_46 h (fun v7 h => ?_)
      refine lv_iconst (v := (-1)) X.1 X.2.1 dX10_readScript_49 (by decide) ?_
      refine mm_kne (tgt := 77) X dX10_readScript_50 (by decide) h (fun h => ?_) (fun h => ?_)
      · refine lv_iconst (v := 0) X.1 X.2.1 dX10_readScript_77 (by decide) ?_
        exact wpX10_readScript_b78 X hr hlk n ih M _ _ _ _ _ _ I (lv_sub hl [0, 1] rfl) h
      · refine lv_aload_n X.1 X.2.1 dX10_readScript_53 rfl (lv_at hl 0 rfl) ?_
        refine mm_cVi X I hl (As := []) (ci := 10) md_X10_ahead mv_X10_ahead ml_X10_79 rfl (kX10_ahead (n := n)) (by decide) ⟨Nat.le_refl 0, Nat.le_refl 0⟩ rfl rfl (Nat.le_of_ble_eq_true rfl) dX10_readScript_54 h (fun v8 M H locs I h => ?_)
        refine lv_bipush (v := 59) X.1 X.2.1 dX10_readScript_57 (by decide) ?_
        refine mm_kne (tgt := 77) X dX10_readScript_59 (by decide) h (fun h => ?_) (fun h => ?_)
        · refine lv_iconst (v := 0) X.1 X.2.1 dX10_readScript_77 (by decide) ?_
          exact wpX10_readScript_b78 X hr hlk n ih M _ _ _ _ _ _ I (lv_sub hl [0, 1] rfl) h
        · refine lv_aload_n X.1 X.2.1 dX10_readScript_62 rfl (lv_at hl 0 rfl) ?_
          refine mm_rgr X I fl_X10_22 dX10_readScript_63 h (fun v9 h => ?_)
          refine lv_iload_n X.1 X.2.1 dX10_readScript_66 rfl (lv_at hl 1 rfl) ?_
          refine mm_ria X I dX10_readScript_67 h (fun v10 h => ?_)
          refine lv_bipush (v := 12) X.1 X.2.1 dX10_readScript_68 (by decide) ?_
          refine mm_kge (tgt := 77) X dX10_readScript_70 (by decide) h (fun h => ?_) (fun h => ?_)
          · refine lv_iconst (v := 0) X.1 X.2.1 dX10_readScript_77 (by decide) ?_
            exact wpX10_readScript_b78 X hr hlk n ih M _ _ _ _ _ _ I (lv_sub hl [0, 1] rfl) h
          · refine lv_iconst (v := 1) X.1 X.2.1 dX10_readScript_73 (by decide) ?_
            refine lv_goto (tgt := 78) X.1 X.2.1 dX10_readScript_74 (by decide) ?_
            exact wpX10_readScript_b78 X hr hlk n ih M _ _ _ _ _ _ I (lv_sub hl [0, 1] rfl) h
set_option maxHeartbeats 4000000 in
set_option maxRecDepth 100000 in
theorem kX10_readScript {l : Launch} {D : va_G} {dA : Nat → ClassId} {lo : Nat} {n : Nat} {M : mm_M} {a0 : Nat} {x1 : Int32} (o : Int32 × mm_M) (h : pX10_readScript n M a0 x1 = some o) : (∃ fs, M.2 a0 = some (mm_ob 10 fs)) ∧ mm_Met l D dA lo yX10_readScript cX10_readScript 3 (some .int) 3 67 0 0 [.ref a0, .int x1] M (some (.int o.1)) o.2 := by
  unfold pX10_readScript at h
  obtain ⟨hob, h⟩ := mm_v_some h
  refine ⟨hob, mm_enter (by decide) (Nat.le_of_ble_eq_true rfl) (fun p e s m args below meth c ls X hr hlk hnm I hl => ?_)⟩
  have X : mm_C D dA lo cX10_readScript RX10 3 p s m args c := X
  have hl : lv_has ls 3 [(0, .ref a0), (1, .int x1)] := hl
  refine lv_aload_n X.1 X.2.1 dX10_readScript_0 rfl (lv_at hl 0 rfl) ?_
  refine mm_cVv X I hl (As := []) (ci := 10) md_X10_begins mv_X10_begins ml_X10_90 rfl (kX10_begins (n := n)) (by decide) ⟨Nat.le_refl 0, Nat.le_refl 0⟩ rfl rfl (Nat.le_of_ble_eq_true rfl) dX10_readScript_1 h (fun M H locs I h => ?_)
  refine lv_aload_n X.1 X.2.1 dX10_readScript_4 rfl (lv_at hl 0 rfl) ?_
  refine mm_rgr X I fl_X10_22 dX10_readScript_5 h (fun v2 h => ?_)
  refine lv_iload_n X.1 X.2.1 dX10_readScript_8 rfl (lv_at hl 1 rfl) ?_
  refine lv_iconst (v := 0) X.1 X.2.1 dX10_readScript_9 (by decide) ?_
  refine mm_ris X I dX10_readScript_10 h (fun M H locs I h => ?_)
  refine lv_iconst (v := 1) X.1 X.2.1 dX10_readScript_11 (by decide) ?_
  refine lv_istore_n (lv' := [(2, .int 1), (0, .ref a0), (1, .int x1)]) X.1 X.2.1 dX10_readScript_12 rfl hl (by decide) rfl (fun ls hl => ?_)
  exact wpX10_readScript_l13 X hr hlk n  n M _ _ _ _ _ _ I (lv_sub hl [1, 2, 0] rfl) h
set_option maxHeartbeats 4000000 in
set_option maxRecDepth 100000 in
theorem kX10_readAlone {l : Launch} {D : va_G} {dA : Nat → ClassId} {lo : Nat} {n : Nat} {M : mm_M} {a0 : Nat} {x1 : Int32} (o : Int32 × mm_M) (h : pX10_readAlone n M a0 x1 = some o) : (∃ fs, M.2 a0 = some (mm_ob 10 fs)) ∧ mm_Met l D dA lo yX10_readAlone cX10_readAlone 2 (some .int) 2 45 0 0 [.ref a0, .int x1] M (some (.int o.1)) o.2 := by
  unfold pX10_readAlone at h
  obtain ⟨hob, h⟩ := mm_v_some h
  refine ⟨hob, mm_enter (by decide) (Nat.le_of_ble_eq_true rfl) (fun p e s m args below meth c ls X hr hlk hnm I hl => ?_)⟩
  have X : mm_C D dA lo cX10_readAlone RX10 2 p s m args c := X
  have hl : lv_has ls 2 [(0, .ref a0), (1, .int x1)] := hl
  refine lv_aload_n X.1 X.2.1 dX10_readAlone_0 rfl (lv_at hl 0 rfl) ?_
  refine mm_cVv X I hl (As := []) (ci := 10) md_X10_begins mv_X10_begins ml_X10_90 rfl (kX10_begins (n := n)) (by decide) ⟨Nat.le_refl 0, Nat.le_refl 0⟩ rfl rfl (Nat.le_of_ble_eq_true rfl) dX10_readAlone_1 h (fun M H locs I h => ?_)
  refine lv_aload_n X.1 X.2.1 dX10_readAlone_4 rfl (lv_at hl 0 rfl) ?_
  refine lv_aload_n X.1 X.2.1 dX10_readAlone_5 rfl (lv_at hl 0 rfl) ?_
  refine lv_aload_n X.1 X.2.1 dX10_readAlone_6 rfl (lv_at hl 0 rfl) ?_
  refine mm_rgr X I fl_X10_25 dX10_readAlone_7 h (fun v2 h => ?_)
  refine lv_iconst (v := 0) X.1 X.2.1 dX10_readAlone_10 (by decide) ?_
  refine lv_iload_n X.1 X.2.1 dX10_readAlone_11 rfl (lv_at hl 1 rfl) ?_
  refine mm_cVi X I hl (As := [.ref v2, .int 0, .int x1]) (ci := 10) md_X10_readSigns mv_X10_readSigns ml_X10_96 rfl (kX10_readSigns (n := n)) (by decide) ⟨Nat.le_refl 0, Nat.le_refl 0⟩ rfl rfl (Nat.le_of_ble_eq_true rfl) dX10_readAlone_12 h (fun v3 M H locs I h => ?_)
  refine mm_rpi X I fl_X10_117 dX10_readAlone_15 h (fun M H locs I h => ?_)
  refine lv_aload_n X.1 X.2.1 dX10_readAlone_18 rfl (lv_at hl 0 rfl) ?_
  refine mm_cVi X I hl (As := []) (ci := 10) md_X10_ends mv_X10_ends ml_X10_100 rfl (kX10_ends (n := n)) (by decide) ⟨Nat.le_refl 0, Nat.le_refl 0⟩ rfl rfl (Nat.le_of_ble_eq_true rfl) dX10_readAlone_19 h (fun v4 M H locs I h => ?_)
  exact mm_xi X I hr hlk dX10_readAlone_22 h
set_option maxHeartbeats 4000000 in
set_option maxRecDepth 100000 in
theorem kX10_fault {l : Launch} {D : va_G} {dA : Nat → ClassId} {lo : Nat} {n : Nat} {M : mm_M} {a0 : Nat} {x1 : Int32} (o : Int32 × mm_M) (h : pX10_fault n M a0 x1 = some o) : (∃ fs, M.2 a0 = some (mm_ob 10 fs)) ∧ mm_Met l D dA lo yX10_fault cX10_fault 2 (some .int) 4 89 0 0 [.ref a0, .int x1] M (some (.int o.1)) o.2 := by
  unfold pX10_fault at h
  obtain ⟨hob, h⟩ := mm_v_some h
  refine ⟨hob, mm_enter (by decide) (Nat.le_of_ble_eq_true rfl) (fun p e s m args below meth c ls X hr hlk hnm I hl => ?_)⟩
  have X : mm_C D dA lo cX10_fault RX10 2 p s m args c := X
  have hl : lv_has ls 2 [(0, .ref a0), (1, .int x1)] := hl
  refine lv_iload_n X.1 X.2.1 dX10_fault_0 rfl (lv_at hl 1 rfl) ?_
  by_cases z1_0 : x1 = 0
  · have h := mm_t z1_0 h
    refine lv_tableIn (tgt := 32) (off := 31) X.1 X.2.1 dX10_fault_1 (by rw [z1_0]; decide) (by rw [z1_0]; decide) (by rw [z1_0]; rfl) (by decide) ?_
    refine lv_aload_n X.1 X.2.1 dX10_fault_32 rfl (lv_at hl 0 rfl) ?_
    refine mm_cVi X I hl (As := []) (ci := 10) md_X10_readStore mv_X10_readStore ml_X10_120 rfl (kX10_readStore (n := n)) (by decide) ⟨Nat.le_refl 0, Nat.le_refl 0⟩ rfl rfl (Nat.le_of_ble_eq_true rfl) dX10_fault_33 h (fun v2 M H locs I h => ?_)
    exact mm_xi X I hr hlk dX10_fault_36 h
  · have h := mm_f z1_0 h
    by_cases z1_1 : x1 = 1
    · have h := mm_t z1_1 h
      refine lv_tableIn (tgt := 37) (off := 36) X.1 X.2.1 dX10_fault_1 (by rw [z1_1]; decide) (by rw [z1_1]; decide) (by rw [z1_1]; rfl) (by decide) ?_
      refine lv_aload_n X.1 X.2.1 dX10_fault_37 rfl (lv_at hl 0 rfl) ?_
      refine lv_iconst (v := 4) X.1 X.2.1 dX10_fault_38 (by decide) ?_
      refine mm_cVi X I hl (As := [.int 4]) (ci := 10) md_X10_readScript mv_X10_readScript ml_X10_123 rfl (kX10_readScript (n := n)) (by decide) ⟨Nat.le_refl 0, Nat.le_refl 0⟩ rfl rfl (Nat.le_of_ble_eq_true rfl) dX10_fault_39 h (fun v3 M H locs I h => ?_)
      exact mm_xi X I hr hlk dX10_fault_42 h
    · have h := mm_f z1_1 h
      by_cases z1_2 : x1 = 2
      · have h := mm_t z1_2 h
        refine lv_tableIn (tgt := 43) (off := 42) X.1 X.2.1 dX10_fault_1 (by rw [z1_2]; decide) (by rw [z1_2]; decide) (by rw [z1_2]; rfl) (by decide) ?_
        refine lv_aload_n X.1 X.2.1 dX10_fault_43 rfl (lv_at hl 0 rfl) ?_
        refine lv_bipush (v := 20) X.1 X.2.1 dX10_fault_44 (by decide) ?_
        refine mm_cVi X I hl (As := [.int 20]) (ci := 10) md_X10_readAlone mv_X10_readAlone ml_X10_126 rfl (kX10_readAlone (n := n)) (by decide) ⟨Nat.le_refl 0, Nat.le_refl 0⟩ rfl rfl (Nat.le_of_ble_eq_true rfl) dX10_fault_46 h (fun v4 M H locs I h => ?_)
        exact mm_xi X I hr hlk dX10_fault_49 h
      · have h := mm_f z1_2 h
        by_cases z1_3 : x1 = 3
        · have h := mm_t z1_3 h
          refine lv_tableIn (tgt := 50) (off := 49) X.1 X.2.1 dX10_fault_1 (by rw [z1_3]; decide) (by rw [z1_3]; decide) (by rw [z1_3]; rfl) (by decide) ?_
          refine lv_aload_n X.1 X.2.1 dX10_fault_50 rfl (lv_at hl 0 rfl) ?_
          refine lv_bipush (v := 6) X.1 X.2.1 dX10_fault_51 (by decide) ?_
          refine mm_cVi X I hl (As := [.int 6]) (ci := 10) md_X10_readAlone mv_X10_readAlone ml_X10_126 rfl (kX10_readAlone (n := n)) (by decide) ⟨Nat.le_refl 0, Nat.le_refl 0⟩ rfl rfl (Nat.le_of_ble_eq_true rfl) dX10_fault_53 h (fun v5 M H locs I h => ?_)
          exact mm_xi X I hr hlk dX10_fault_56 h
        · have h := mm_f z1_3 h
          have z1_q0 : ¬ Int32.toInt x1 = 0 := fun q => z1_0 (Int32.toInt_inj.mp q)
          have z1_q1 : ¬ Int32.toInt x1 = 1 := fun q => z1_1 (Int32.toInt_inj.mp q)
          have z1_q2 : ¬ Int32.toInt x1 = 2 := fun q => z1_2 (Int32.toInt_inj.mp q)
          have z1_q3 : ¬ Int32.toInt x1 = 3 := fun q => z1_3 (Int32.toInt_inj.mp q)
          refine mm_tdef (tgt := 57) X dX10_fault_1 (by decide) (fun i hi hq => ?_) (by decide) ?_
          · rcases (show i = 0 ∨ i = 1 ∨ i = 2 ∨ i = 3 by simp at hi; omega) with rfl | rfl | rfl | rfl
            · exact absurd hq (by omega)
            · exact absurd hq (by omega)
            · exact absurd hq (by omega)
            · exact absurd hq (by omega)
          · refine lv_bipush (v := (-2)) X.1 X.2.1 dX10_fault_57 (by decide) ?_
            exact mm_xi X I hr hlk dX10_fault_59 h
set_option maxHeartbeats 4000000 in
set_option maxRecDepth 100000 in
theorem kX10_isStore {l : Launch} {D : va_G} {dA : Nat → ClassId} {lo : Nat} {n : Nat} {M : mm_M} {a0 : Nat} (o : Int32 × mm_M) (h : pX10_isStore n M a0 = some o) : (∃ fs, M.2 a0 = some (mm_ob 10 fs)) ∧ mm_Met l D dA lo yX10_isStore cX10_isStore 1 (some .boolean) 0 0 0 0 [.ref a0] M (some (.int o.1)) o.2 := by
  unfold pX10_isStore at h
  obtain ⟨hob, h⟩ := mm_v_some h
  refine ⟨hob, mm_enter (by decide) (Nat.le_of_ble_eq_true rfl) (fun p e s m args below meth c ls X hr hlk hnm I hl => ?_)⟩
  have X : mm_C D dA lo cX10_isStore RX10 1 p s m args c := X
  have hl : lv_has ls 1 [(0, .ref a0)] := hl
  refine lv_aload_n X.1 X.2.1 dX10_isStore_0 rfl (lv_at hl 0 rfl) ?_
  refine mm_rgr X I fl_X10_28 dX10_isStore_1 h (fun v1 h => ?_)
  refine lv_iconst (v := 0) X.1 X.2.1 dX10_isStore_4 (by decide) ?_
  refine mm_ria X I dX10_isStore_5 h (fun v2 h => ?_)
  refine mm_jle (tgt := 13) X dX10_isStore_6 (by decide) h (fun h => ?_) (fun h => ?_)
  · refine lv_iconst (v := 0) X.1 X.2.1 dX10_isStore_13 (by decide) ?_
    exact mm_xz0 X I hr hlk dX10_isStore_14 h
  · refine lv_iconst (v := 1) X.1 X.2.1 dX10_isStore_9 (by decide) ?_
    refine lv_goto (tgt := 14) X.1 X.2.1 dX10_isStore_10 (by decide) ?_
    exact mm_xz1 X I hr hlk dX10_isStore_14 h
set_option maxHeartbeats 4000000 in
set_option maxRecDepth 100000 in
theorem kX10_lineAt {l : Launch} {D : va_G} {dA : Nat → ClassId} {lo : Nat} {n : Nat} {M : mm_M} {x0 : Int32} (o : Int32 × mm_M) (h : pX10_lineAt n M x0 = some o) : mm_Met l D dA lo yX10_lineAt cX10_lineAt 1 (some .int) 0 0 0 0 [.int x0] M (some (.int o.1)) o.2 := by
  unfold pX10_lineAt at h
  refine mm_enter (by decide) (Nat.le_of_ble_eq_true rfl) (fun p e s m args below meth c ls X hr hlk hnm I hl => ?_)
  have X : mm_C D dA lo cX10_lineAt RX10 1 p s m args c := X
  have hl : lv_has ls 1 [(0, .int x0)] := hl
  refine lv_iconst (v := 2) X.1 X.2.1 dX10_lineAt_0 (by decide) ?_
  refine lv_bipush (v := 22) X.1 X.2.1 dX10_lineAt_1 (by decide) ?_
  refine lv_iload_n X.1 X.2.1 dX10_lineAt_3 rfl (lv_at hl 0 rfl) ?_
  refine lv_imul X.1 X.2.1 dX10_lineAt_4 ?_
  refine lv_iadd X.1 X.2.1 dX10_lineAt_5 ?_
  exact mm_xi X I hr hlk dX10_lineAt_6 h
set_option maxHeartbeats 4000000 in
set_option maxRecDepth 100000 in
theorem kX10_longOf {l : Launch} {D : va_G} {dA : Nat → ClassId} {lo : Nat} {n : Nat} {M : mm_M} {a0 : Nat} {x1 : Int32} (o : Int32 × mm_M) (h : pX10_longOf n M a0 x1 = some o) : (∃ fs, M.2 a0 = some (mm_ob 10 fs)) ∧ mm_Met l D dA lo yX10_longOf cX10_longOf 2 (some .int) 1 20 0 0 [.ref a0, .int x1] M (some (.int o.1)) o.2 := by
  unfold pX10_longOf at h
  obtain ⟨hob, h⟩ := mm_v_some h
  refine ⟨hob, mm_enter (by decide) (Nat.le_of_ble_eq_true rfl) (fun p e s m args below meth c ls X hr hlk hnm I hl => ?_)⟩
  have X : mm_C D dA lo cX10_longOf RX10 2 p s m args c := X
  have hl : lv_has ls 2 [(0, .ref a0), (1, .int x1)] := hl
  refine lv_aload_n X.1 X.2.1 dX10_longOf_0 rfl (lv_at hl 0 rfl) ?_
  refine mm_rgr X I fl_X10_28 dX10_longOf_1 h (fun v1 h => ?_)
  refine lv_iload_n X.1 X.2.1 dX10_longOf_4 rfl (lv_at hl 1 rfl) ?_
  refine mm_cSi X I hl (As := [.int x1]) md_X10_lineAt mv_X10_lineAt ml_X10_129 (kX10_lineAt (n := n)) (by decide) ⟨Nat.le_refl 0, Nat.le_refl 0⟩ rfl rfl (Nat.le_of_ble_eq_true rfl) dX10_longOf_5 h (fun v2 M H locs I h => ?_)
  refine lv_iconst (v := 1) X.1 X.2.1 dX10_longOf_8 (by decide) ?_
  refine lv_iadd X.1 X.2.1 dX10_longOf_9 ?_
  refine mm_ria X I dX10_longOf_10 h (fun v3 h => ?_)
  exact mm_xi X I hr hlk dX10_longOf_11 h
set_option maxHeartbeats 4000000 in
set_option maxRecDepth 100000 in
theorem kX10_numberOf {l : Launch} {D : va_G} {dA : Nat → ClassId} {lo : Nat} {n : Nat} {M : mm_M} {a0 : Nat} {x1 : Int32} (o : Int32 × mm_M) (h : pX10_numberOf n M a0 x1 = some o) : (∃ fs, M.2 a0 = some (mm_ob 10 fs)) ∧ mm_Met l D dA lo yX10_numberOf cX10_numberOf 2 (some .int) 1 20 0 0 [.ref a0, .int x1] M (some (.int o.1)) o.2 := by
  unfold pX10_numberOf at h
  obtain ⟨hob, h⟩ := mm_v_some h
  refine ⟨hob, mm_enter (by decide) (Nat.le_of_ble_eq_true rfl) (fun p e s m args below meth c ls X hr hlk hnm I hl => ?_)⟩
  have X : mm_C D dA lo cX10_numberOf RX10 2 p s m args c := X
  have hl : lv_has ls 2 [(0, .ref a0), (1, .int x1)] := hl
  refine lv_aload_n X.1 X.2.1 dX10_numberOf_0 rfl (lv_at hl 0 rfl) ?_
  refine mm_rgr X I fl_X10_28 dX10_numberOf_1 h (fun v1 h => ?_)
  refine lv_iload_n X.1 X.2.1 dX10_numberOf_4 rfl (lv_at hl 1 rfl) ?_
  refine mm_cSi X I hl (As := [.int x1]) md_X10_lineAt mv_X10_lineAt ml_X10_129 (kX10_lineAt (n := n)) (by decide) ⟨Nat.le_refl 0, Nat.le_refl 0⟩ rfl rfl (Nat.le_of_ble_eq_true rfl) dX10_numberOf_5 h (fun v2 M H locs I h => ?_)
  refine lv_iconst (v := 0) X.1 X.2.1 dX10_numberOf_8 (by decide) ?_
  refine lv_iadd X.1 X.2.1 dX10_numberOf_9 ?_
  refine mm_ria X I dX10_numberOf_10 h (fun v3 h => ?_)
  exact mm_xi X I hr hlk dX10_numberOf_11 h
set_option maxHeartbeats 4000000 in
set_option maxRecDepth 100000 in
theorem kX10_signAt {l : Launch} {D : va_G} {dA : Nat → ClassId} {lo : Nat} {n : Nat} {M : mm_M} {a0 : Nat} {x1 : Int32} {x2 : Int32} (o : Int32 × mm_M) (h : pX10_signAt n M a0 x1 x2 = some o) : (∃ fs, M.2 a0 = some (mm_ob 10 fs)) ∧ mm_Met l D dA lo yX10_signAt cX10_signAt 3 (some .int) 1 20 0 0 [.ref a0, .int x1, .int x2] M (some (.int o.1)) o.2 := by
  unfold pX10_signAt at h
  obtain ⟨hob, h⟩ := mm_v_some h
  refine ⟨hob, mm_enter (by decide) (Nat.le_of_ble_eq_true rfl) (fun p e s m args below meth c ls X hr hlk hnm I hl => ?_)⟩
  have X : mm_C D dA lo cX10_signAt RX10 3 p s m args c := X
  have hl : lv_has ls 3 [(0, .ref a0), (1, .int x1), (2, .int x2)] := hl
  refine lv_aload_n X.1 X.2.1 dX10_signAt_0 rfl (lv_at hl 0 rfl) ?_
  refine mm_rgr X I fl_X10_28 dX10_signAt_1 h (fun v1 h => ?_)
  refine lv_iload_n X.1 X.2.1 dX10_signAt_4 rfl (lv_at hl 1 rfl) ?_
  refine mm_cSi X I hl (As := [.int x1]) md_X10_lineAt mv_X10_lineAt ml_X10_129 (kX10_lineAt (n := n)) (by decide) ⟨Nat.le_refl 0, Nat.le_refl 0⟩ rfl rfl (Nat.le_of_ble_eq_true rfl) dX10_signAt_5 h (fun v2 M H locs I h => ?_)
  refine lv_iconst (v := 2) X.1 X.2.1 dX10_signAt_8 (by decide) ?_
  refine lv_iadd X.1 X.2.1 dX10_signAt_9 ?_
  refine lv_iload_n X.1 X.2.1 dX10_signAt_10 rfl (lv_at hl 2 rfl) ?_
  refine lv_iadd X.1 X.2.1 dX10_signAt_11 ?_
  refine mm_ria X I dX10_signAt_12 h (fun v3 h => ?_)
  exact mm_xi X I hr hlk dX10_signAt_13 h
set_option maxHeartbeats 4000000 in
set_option maxRecDepth 100000 in
theorem kX10_isLine {l : Launch} {D : va_G} {dA : Nat → ClassId} {lo : Nat} {n : Nat} {M : mm_M} {a0 : Nat} {x1 : Int32} (o : Int32 × mm_M) (h : pX10_isLine n M a0 x1 = some o) : (∃ fs, M.2 a0 = some (mm_ob 10 fs)) ∧ mm_Met l D dA lo yX10_isLine cX10_isLine 2 (some .boolean) 1 22 0 0 [.ref a0, .int x1] M (some (.int o.1)) o.2 := by
  unfold pX10_isLine at h
  obtain ⟨hob, h⟩ := mm_v_some h
  refine ⟨hob, mm_enter (by decide) (Nat.le_of_ble_eq_true rfl) (fun p e s m args below meth c ls X hr hlk hnm I hl => ?_)⟩
  have X : mm_C D dA lo cX10_isLine RX10 2 p s m args c := X
  have hl : lv_has ls 2 [(0, .ref a0), (1, .int x1)] := hl
  refine lv_iload_n X.1 X.2.1 dX10_isLine_0 rfl (lv_at hl 1 rfl) ?_
  refine lv_iconst (v := 0) X.1 X.2.1 dX10_isLine_1 (by decide) ?_
  refine lv_aload_n X.1 X.2.1 dX10_isLine_2 rfl (lv_at hl 0 rfl) ?_
  refine mm_rgr X I fl_X10_28 dX10_isLine_3 h (fun v1 h => ?_)
  refine lv_iconst (v := 0) X.1 X.2.1 dX10_isLine_6 (by decide) ?_
  refine mm_ria X I dX10_isLine_7 h (fun v2 h => ?_)
  refine lv_iconst (v := 1) X.1 X.2.1 dX10_isLine_8 (by decide) ?_
  refine lv_isub X.1 X.2.1 dX10_isLine_9 ?_
  refine mm_cSi X I hl (As := [.int x1, .int 0, .int (v2 - 1)]) md_X10_in mv_X10_in ml_X10_69 (kX10_in (n := n)) (by decide) ⟨Nat.le_refl 0, Nat.le_refl 0⟩ rfl rfl (Nat.le_of_ble_eq_true rfl) dX10_isLine_10 h (fun v3 M H locs I h => ?_)
  exact mm_xz X I hr hlk dX10_isLine_13 h
set_option maxHeartbeats 4000000 in
set_option maxRecDepth 100000 in
theorem kX10_isPlace {l : Launch} {D : va_G} {dA : Nat → ClassId} {lo : Nat} {n : Nat} {M : mm_M} {a0 : Nat} {x1 : Int32} {x2 : Int32} (o : Int32 × mm_M) (h : pX10_isPlace n M a0 x1 x2 = some o) : (∃ fs, M.2 a0 = some (mm_ob 10 fs)) ∧ mm_Met l D dA lo yX10_isPlace cX10_isPlace 3 (some .boolean) 2 43 0 0 [.ref a0, .int x1, .int x2] M (some (.int o.1)) o.2 := by
  unfold pX10_isPlace at h
  obtain ⟨hob, h⟩ := mm_v_some h
  refine ⟨hob, mm_enter (by decide) (Nat.le_of_ble_eq_true rfl) (fun p e s m args below meth c ls X hr hlk hnm I hl => ?_)⟩
  have X : mm_C D dA lo cX10_isPlace RX10 3 p s m args c := X
  have hl : lv_has ls 3 [(0, .ref a0), (1, .int x1), (2, .int x2)] := hl
  refine lv_aload_n X.1 X.2.1 dX10_isPlace_0 rfl (lv_at hl 0 rfl) ?_
  refine lv_iload_n X.1 X.2.1 dX10_isPlace_1 rfl (lv_at hl 1 rfl) ?_
  refine mm_cVi X I hl (As := [.int x1]) (ci := 10) md_X10_isLine mv_X10_isLine ml_X10_132 rfl (kX10_isLine (n := n)) (by decide) ⟨Nat.le_refl 0, Nat.le_refl 0⟩ rfl rfl (Nat.le_of_ble_eq_true rfl) dX10_isPlace_2 h (fun v1 M H locs I h => ?_)
  refine mm_jeq (tgt := 27) X dX10_isPlace_5 (by decide) h (fun h => ?_) (fun h => ?_)
  · refine lv_iconst (v := 0) X.1 X.2.1 dX10_isPlace_27 (by decide) ?_
    exact mm_xz0 X I hr hlk dX10_isPlace_28 h
  · refine lv_iload_n X.1 X.2.1 dX10_isPlace_8 rfl (lv_at hl 2 rfl) ?_
    refine lv_iconst (v := 0) X.1 X.2.1 dX10_isPlace_9 (by decide) ?_
    refine lv_aload_n X.1 X.2.1 dX10_isPlace_10 rfl (lv_at hl 0 rfl) ?_
    refine lv_iload_n X.1 X.2.1 dX10_isPlace_11 rfl (lv_at hl 1 rfl) ?_
    refine mm_cVi X I hl (As := [.int x1]) (ci := 10) md_X10_longOf mv_X10_longOf ml_X10_136 rfl (kX10_longOf (n := n)) (by decide) ⟨Nat.le_refl 0, Nat.le_refl 0⟩ rfl rfl (Nat.le_of_ble_eq_true rfl) dX10_isPlace_12 h (fun v2 M H locs I h => ?_)
    refine lv_iconst (v := 1) X.1 X.2.1 dX10_isPlace_15 (by decide) ?_
    refine lv_isub X.1 X.2.1 dX10_isPlace_16 ?_
    refine mm_cSi X I hl (As := [.int x2, .int 0, .int (v2 - 1)]) md_X10_in mv_X10_in ml_X10_69 (kX10_in (n := n)) (by decide) ⟨Nat.le_refl 0, Nat.le_refl 0⟩ rfl rfl (Nat.le_of_ble_eq_true rfl) dX10_isPlace_17 h (fun v3 M H locs I h => ?_)
    refine mm_jeq (tgt := 27) X dX10_isPlace_20 (by decide) h (fun h => ?_) (fun h => ?_)
    · refine lv_iconst (v := 0) X.1 X.2.1 dX10_isPlace_27 (by decide) ?_
      exact mm_xz0 X I hr hlk dX10_isPlace_28 h
    · refine lv_iconst (v := 1) X.1 X.2.1 dX10_isPlace_23 (by decide) ?_
      refine lv_goto (tgt := 28) X.1 X.2.1 dX10_isPlace_24 (by decide) ?_
      exact mm_xz1 X I hr hlk dX10_isPlace_28 h
set_option maxHeartbeats 4000000 in
set_option maxRecDepth 100000 in
theorem kX10_cursorAt {l : Launch} {D : va_G} {dA : Nat → ClassId} {lo : Nat} {n : Nat} {M : mm_M} {x0 : Int32} (o : Int32 × mm_M) (h : pX10_cursorAt n M x0 = some o) : mm_Met l D dA lo yX10_cursorAt cX10_cursorAt 1 (some .int) 0 0 0 0 [.int x0] M (some (.int o.1)) o.2 := by
  unfold pX10_cursorAt at h
  refine mm_enter (by decide) (Nat.le_of_ble_eq_true rfl) (fun p e s m args below meth c ls X hr hlk hnm I hl => ?_)
  have X : mm_C D dA lo cX10_cursorAt RX10 1 p s m args c := X
  have hl : lv_has ls 1 [(0, .int x0)] := hl
  refine lv_sipush (v := 222) X.1 X.2.1 dX10_cursorAt_0 (by decide) ?_
  refine lv_bipush (v := 73) X.1 X.2.1 dX10_cursorAt_3 (by decide) ?_
  refine lv_iload_n X.1 X.2.1 dX10_cursorAt_5 rfl (lv_at hl 0 rfl) ?_
  refine lv_imul X.1 X.2.1 dX10_cursorAt_6 ?_
  refine lv_iadd X.1 X.2.1 dX10_cursorAt_7 ?_
  exact mm_xi X I hr hlk dX10_cursorAt_8 h
set_option maxHeartbeats 4000000 in
set_option maxRecDepth 100000 in
theorem kX10_isCursor {l : Launch} {D : va_G} {dA : Nat → ClassId} {lo : Nat} {n : Nat} {M : mm_M} {a0 : Nat} {x1 : Int32} (o : Int32 × mm_M) (h : pX10_isCursor n M a0 x1 = some o) : (∃ fs, M.2 a0 = some (mm_ob 10 fs)) ∧ mm_Met l D dA lo yX10_isCursor cX10_isCursor 2 (some .boolean) 1 22 0 0 [.ref a0, .int x1] M (some (.int o.1)) o.2 := by
  unfold pX10_isCursor at h
  obtain ⟨hob, h⟩ := mm_v_some h
  refine ⟨hob, mm_enter (by decide) (Nat.le_of_ble_eq_true rfl) (fun p e s m args below meth c ls X hr hlk hnm I hl => ?_)⟩
  have X : mm_C D dA lo cX10_isCursor RX10 2 p s m args c := X
  have hl : lv_has ls 2 [(0, .ref a0), (1, .int x1)] := hl
  refine lv_aload_n X.1 X.2.1 dX10_isCursor_0 rfl (lv_at hl 0 rfl) ?_
  refine mm_cVi X I hl (As := []) (ci := 10) md_X10_isStore mv_X10_isStore ml_X10_139 rfl (kX10_isStore (n := n)) (by decide) ⟨Nat.le_refl 0, Nat.le_refl 0⟩ rfl rfl (Nat.le_of_ble_eq_true rfl) dX10_isCursor_1 h (fun v1 M H locs I h => ?_)
  refine mm_jeq (tgt := 34) X dX10_isCursor_4 (by decide) h (fun h => ?_) (fun h => ?_)
  · refine lv_iconst (v := 0) X.1 X.2.1 dX10_isCursor_34 (by decide) ?_
    exact mm_xz0 X I hr hlk dX10_isCursor_35 h
  · refine lv_iload_n X.1 X.2.1 dX10_isCursor_7 rfl (lv_at hl 1 rfl) ?_
    refine lv_iconst (v := 0) X.1 X.2.1 dX10_isCursor_8 (by decide) ?_
    refine lv_iconst (v := 2) X.1 X.2.1 dX10_isCursor_9 (by decide) ?_
    refine mm_cSi X I hl (As := [.int x1, .int 0, .int 2]) md_X10_in mv_X10_in ml_X10_69 (kX10_in (n := n)) (by decide) ⟨Nat.le_refl 0, Nat.le_refl 0⟩ rfl rfl (Nat.le_of_ble_eq_true rfl) dX10_isCursor_10 h (fun v2 M H locs I h => ?_)
    refine mm_jeq (tgt := 34) X dX10_isCursor_13 (by decide) h (fun h => ?_) (fun h => ?_)
    · refine lv_iconst (v := 0) X.1 X.2.1 dX10_isCursor_34 (by decide) ?_
      exact mm_xz0 X I hr hlk dX10_isCursor_35 h
    · refine lv_aload_n X.1 X.2.1 dX10_isCursor_16 rfl (lv_at hl 0 rfl) ?_
      refine mm_rgr X I fl_X10_28 dX10_isCursor_17 h (fun v3 h => ?_)
      refine lv_iload_n X.1 X.2.1 dX10_isCursor_20 rfl (lv_at hl 1 rfl) ?_
      refine mm_cSi X I hl (As := [.int x1]) md_X10_cursorAt mv_X10_cursorAt ml_X10_143 (kX10_cursorAt (n := n)) (by decide) ⟨Nat.le_refl 0, Nat.le_refl 0⟩ rfl rfl (Nat.le_of_ble_eq_true rfl) dX10_isCursor_21 h (fun v4 M H locs I h => ?_)
      refine lv_iconst (v := 0) X.1 X.2.1 dX10_isCursor_24 (by decide) ?_
      refine lv_iadd X.1 X.2.1 dX10_isCursor_25 ?_
      refine mm_ria X I dX10_isCursor_26 h (fun v5 h => ?_)
      refine mm_jle (tgt := 34) X dX10_isCursor_27 (by decide) h (fun h => ?_) (fun h => ?_)
      · refine lv_iconst (v := 0) X.1 X.2.1 dX10_isCursor_34 (by decide) ?_
        exact mm_xz0 X I hr hlk dX10_isCursor_35 h
      · refine lv_iconst (v := 1) X.1 X.2.1 dX10_isCursor_30 (by decide) ?_
        refine lv_goto (tgt := 35) X.1 X.2.1 dX10_isCursor_31 (by decide) ?_
        exact mm_xz1 X I hr hlk dX10_isCursor_35 h
set_option maxHeartbeats 4000000 in
set_option maxRecDepth 100000 in
theorem wpX10_allSigns_l4 {p : Program} {l : Launch} {e : Env} {s : State} {m : MethodId} {args : Array Value} {below : List Frame} {meth : Method} {c : Code} {D : va_G} {dA : Nat → ClassId} {lo : Nat} (X : mm_C D dA lo cX10_allSigns RX10 3 p s m args c) (hr : meth.sig.returnType = (some .int)) (hlk : meth.locks = false) (n : Nat) {o : Int32 × mm_M} (k : Nat) : ∀ (M : mm_M) (a0 : Nat) (x1 : Int32) (x2 : Int32) (H : Heap) (locs : List Loc) (ls : Array Slot), mm_I D dA lo s M H locs → lv_has ls 3 [(0, .ref a0), (1, .int x1), (2, .int x2)] → pX10_allSigns_l4 n k M a0 x1 x2 = some o → W p l e (mm_rm 2 41 0 0) s m args below meth c H locs 0 0 (MQ below (mm_Q D dA lo (some (.int o.1)) o.2) args s 0 0 (mm_fr lo)) (F0 m 4 ls []) := by
  induction k with
  | zero =>
    intro M a0 x1 x2 H locs ls I hl h
    have h : (none : Option (Int32 × mm_M)) = some o := h
    cases h
  | succ k ih =>
    intro M a0 x1 x2 H locs ls I hl h
    have h : pX10_allSigns_l4b n (pX10_allSigns_l4 n k) M a0 x1 x2 = some o := h
    unfold pX10_allSigns_l4b at h
    refine lv_iload_n X.1 X.2.1 dX10_allSigns_4 rfl (lv_at hl 2 rfl) ?_
    refine lv_aload_n X.1 X.2.1 dX10_allSigns_5 rfl (lv_at hl 0 rfl) ?_
    refine mm_rgr X I fl_X10_28 dX10_allSigns_6 h (fun v1 h => ?_)
    refine lv_iconst (v := 0) X.1 X.2.1 dX10_allSigns_9 (by decide) ?_
    refine mm_ria X I dX10_allSigns_10 h (fun v2 h => ?_)
    refine mm_kge (tgt := 28) X dX10_allSigns_11 (by decide) h (fun h => ?_) (fun h => ?_)
    · refine lv_iload_n X.1 X.2.1 dX10_allSigns_28 rfl (lv_at hl 1 rfl) ?_
      exact mm_xi X I hr hlk dX10_allSigns_29 h
    · refine lv_iload_n X.1 X.2.1 dX10_allSigns_14 rfl (lv_at hl 1 rfl) ?_
      refine lv_aload_n X.1 X.2.1 dX10_allSigns_15 rfl (lv_at hl 0 rfl) ?_
      refine lv_iload_n X.1 X.2.1 dX10_allSigns_16 rfl (lv_at hl 2 rfl) ?_
      refine mm_cVi X I hl (As := [.int x2]) (ci := 10) md_X10_longOf mv_X10_longOf ml_X10_136 rfl (kX10_longOf (n := n)) (by decide) ⟨Nat.le_refl 0, Nat.le_refl 0⟩ rfl rfl (Nat.le_of_ble_eq_true rfl) dX10_allSigns_17 h (fun v3 M H locs I h => ?_)
      refine lv_iadd X.1 X.2.1 dX10_allSigns_20 ?_
      refine lv_istore_n (lv' := [(1, .int (x1 + v3)), (0, .ref a0), (2, .int x2)]) X.1 X.2.1 dX10_allSigns_21 rfl hl (by decide) rfl (fun ls hl => ?_)
      refine lv_iinc (v := (x2 + 1)) (lv' := [(2, .int (x2 + 1)), (1, .int (x1 + v3)), (0, .ref a0)]) X.1 X.2.1 dX10_allSigns_22 hl (k := 2) rfl rfl (by decide) rfl (fun ls hl => ?_)
      refine lv_goto (tgt := 4) X.1 X.2.1 dX10_allSigns_25 (by decide) ?_
      exact ih M _ _ _ _ _ _ I (lv_sub hl [2, 1, 0] rfl) h
set_option maxHeartbeats 4000000 in
set_option maxRecDepth 100000 in
theorem kX10_allSigns {l : Launch} {D : va_G} {dA : Nat → ClassId} {lo : Nat} {n : Nat} {M : mm_M} {a0 : Nat} (o : Int32 × mm_M) (h : pX10_allSigns n M a0 = some o) : (∃ fs, M.2 a0 = some (mm_ob 10 fs)) ∧ mm_Met l D dA lo yX10_allSigns cX10_allSigns 3 (some .int) 2 41 0 0 [.ref a0] M (some (.int o.1)) o.2 := by
  unfold pX10_allSigns at h
  obtain ⟨hob, h⟩ := mm_v_some h
  refine ⟨hob, mm_enter (by decide) (Nat.le_of_ble_eq_true rfl) (fun p e s m args below meth c ls X hr hlk hnm I hl => ?_)⟩
  have X : mm_C D dA lo cX10_allSigns RX10 3 p s m args c := X
  have hl : lv_has ls 3 [(0, .ref a0)] := hl
  refine lv_iconst (v := 0) X.1 X.2.1 dX10_allSigns_0 (by decide) ?_
  refine lv_istore_n (lv' := [(1, .int 0), (0, .ref a0)]) X.1 X.2.1 dX10_allSigns_1 rfl hl (by decide) rfl (fun ls hl => ?_)
  refine lv_iconst (v := 0) X.1 X.2.1 dX10_allSigns_2 (by decide) ?_
  refine lv_istore_n (lv' := [(2, .int 0), (1, .int 0), (0, .ref a0)]) X.1 X.2.1 dX10_allSigns_3 rfl hl (by decide) rfl (fun ls hl => ?_)
  exact wpX10_allSigns_l4 X hr hlk n  n M _ _ _ _ _ _ I (lv_sub hl [2, 1, 0] rfl) h
set_option maxHeartbeats 4000000 in
set_option maxRecDepth 100000 in
theorem wpX10_laysSigns_l16 {p : Program} {l : Launch} {e : Env} {s : State} {m : MethodId} {args : Array Value} {below : List Frame} {meth : Method} {c : Code} {D : va_G} {dA : Nat → ClassId} {lo : Nat} (X : mm_C D dA lo cX10_laysSigns RX10 6 p s m args c) (hr : meth.sig.returnType = none) (hlk : meth.locks = false) (n : Nat) {o : mm_M} (k : Nat) : ∀ (M : mm_M) (a0 : Nat) (x1 : Int32) (a2 : Nat) (x3 : Int32) (x4 : Int32) (x5 : Int32) (H : Heap) (locs : List Loc) (ls : Array Slot), mm_I D dA lo s M H locs → lv_has ls 6 [(0, .ref a0), (1, .int x1), (2, .ref a2), (3, .int x3), (4, .int x4), (5, .int x5)] → pX10_laysSigns_l16 n k M a0 x1 a2 x3 x4 x5 = some o → W p l e (mm_rm 1 20 0 0) s m args below meth c H locs 0 0 (MQ below (mm_Q D dA lo none o) args s 0 0 (mm_fr lo)) (F0 m 16 ls []) := by
  induction k with
  | zero =>
    intro M a0 x1 a2 x3 x4 x5 H locs ls I hl h
    have h : (none : Option (mm_M)) = some o := h
    cases h
  | succ k ih =>
    intro M a0 x1 a2 x3 x4 x5 H locs ls I hl h
    have h : pX10_laysSigns_l16b n (pX10_laysSigns_l16 n k) M a0 x1 a2 x3 x4 x5 = some o := h
    unfold pX10_laysSigns_l16b at h
    refine lv_iload X.1 X.2.1 dX10_laysSigns_16 (lv_at hl 5 rfl) ?_
    refine lv_bipush (v := 20) X.1 X.2.1 dX10_laysSigns_18 (by decide) ?_
    refine mm_kge (tgt := 60) X dX10_laysSigns_20 (by decide) h (fun h => ?_) (fun h => ?_)
    · exact mm_xv X I hr hlk dX10_laysSigns_60 h
    · refine lv_aload_n X.1 X.2.1 dX10_laysSigns_23 rfl (lv_at hl 0 rfl) ?_
      refine mm_rgr X I fl_X10_28 dX10_laysSigns_24 h (fun v1 h => ?_)
      refine lv_iload_n X.1 X.2.1 dX10_laysSigns_27 rfl (lv_at hl 1 rfl) ?_
      refine mm_cSi X I hl (As := [.int x1]) md_X10_lineAt mv_X10_lineAt ml_X10_129 (kX10_lineAt (n := n)) (by decide) ⟨Nat.le_refl 0, Nat.le_refl 0⟩ rfl rfl (Nat.le_of_ble_eq_true rfl) dX10_laysSigns_28 h (fun v2 M H locs I h => ?_)
      refine lv_iconst (v := 2) X.1 X.2.1 dX10_laysSigns_31 (by decide) ?_
      refine lv_iadd X.1 X.2.1 dX10_laysSigns_32 ?_
      refine lv_iload X.1 X.2.1 dX10_laysSigns_33 (lv_at hl 5 rfl) ?_
      refine lv_iadd X.1 X.2.1 dX10_laysSigns_35 ?_
      refine lv_iload X.1 X.2.1 dX10_laysSigns_36 (lv_at hl 5 rfl) ?_
      refine lv_iload X.1 X.2.1 dX10_laysSigns_38 (lv_at hl 4 rfl) ?_
      refine mm_kge (tgt := 52) X dX10_laysSigns_40 (by decide) h (fun h => ?_) (fun h => ?_)
      · refine lv_iconst (v := 0) X.1 X.2.1 dX10_laysSigns_52 (by decide) ?_
        refine mm_ris X I dX10_laysSigns_53 h (fun M H locs I h => ?_)
        refine lv_iinc (v := (x5 + 1)) (lv' := [(5, .int (x5 + 1)), (0, .ref a0), (1, .int x1), (2, .ref a2), (3, .int x3), (4, .int x4)]) X.1 X.2.1 dX10_laysSigns_54 hl (k := 5) rfl rfl (by decide) rfl (fun ls hl => ?_)
        refine lv_goto (tgt := 16) X.1 X.2.1 dX10_laysSigns_57 (by decide) ?_
        exact ih M _ _ _ _ _ _ _ _ _ I (lv_sub hl [1, 2, 3, 4, 5, 0] rfl) h
      · refine lv_aload_n X.1 X.2.1 dX10_laysSigns_43 rfl (lv_at hl 2 rfl) ?_
        refine lv_iload_n X.1 X.2.1 dX10_laysSigns_44 rfl (lv_at hl 3 rfl) ?_
        refine lv_iload X.1 X.2.1 dX10_laysSigns_45 (lv_at hl 5 rfl) ?_
        refine lv_iadd X.1 X.2.1 dX10_laysSigns_47 ?_
        refine mm_ria X I dX10_laysSigns_48 h (fun v3 h => ?_)
        refine lv_goto (tgt := 53) X.1 X.2.1 dX10_laysSigns_49 (by decide) ?_
        refine mm_ris X I dX10_laysSigns_53 h (fun M H locs I h => ?_)
        refine lv_iinc (v := (x5 + 1)) (lv' := [(5, .int (x5 + 1)), (0, .ref a0), (1, .int x1), (2, .ref a2), (3, .int x3), (4, .int x4)]) X.1 X.2.1 dX10_laysSigns_54 hl (k := 5) rfl rfl (by decide) rfl (fun ls hl => ?_)
        refine lv_goto (tgt := 16) X.1 X.2.1 dX10_laysSigns_57 (by decide) ?_
        exact ih M _ _ _ _ _ _ _ _ _ I (lv_sub hl [1, 2, 3, 4, 5, 0] rfl) h
set_option maxHeartbeats 4000000 in
set_option maxRecDepth 100000 in
theorem kX10_laysSigns {l : Launch} {D : va_G} {dA : Nat → ClassId} {lo : Nat} {n : Nat} {M : mm_M} {a0 : Nat} {x1 : Int32} {a2 : Nat} {x3 : Int32} {x4 : Int32} (o : mm_M) (h : pX10_laysSigns n M a0 x1 a2 x3 x4 = some o) : (∃ fs, M.2 a0 = some (mm_ob 10 fs)) ∧ mm_Met l D dA lo yX10_laysSigns cX10_laysSigns 6 none 1 20 0 0 [.ref a0, .int x1, .ref a2, .int x3, .int x4] M none o := by
  unfold pX10_laysSigns at h
  obtain ⟨hob, h⟩ := mm_v_some h
  refine ⟨hob, mm_enter (by decide) (Nat.le_of_ble_eq_true rfl) (fun p e s m args below meth c ls X hr hlk hnm I hl => ?_)⟩
  have X : mm_C D dA lo cX10_laysSigns RX10 6 p s m args c := X
  have hl : lv_has ls 6 [(0, .ref a0), (1, .int x1), (2, .ref a2), (3, .int x3), (4, .int x4)] := hl
  refine lv_aload_n X.1 X.2.1 dX10_laysSigns_0 rfl (lv_at hl 0 rfl) ?_
  refine mm_rgr X I fl_X10_28 dX10_laysSigns_1 h (fun v1 h => ?_)
  refine lv_iload_n X.1 X.2.1 dX10_laysSigns_4 rfl (lv_at hl 1 rfl) ?_
  refine mm_cSi X I hl (As := [.int x1]) md_X10_lineAt mv_X10_lineAt ml_X10_129 (kX10_lineAt (n := n)) (by decide) ⟨Nat.le_refl 0, Nat.le_refl 0⟩ rfl rfl (Nat.le_of_ble_eq_true rfl) dX10_laysSigns_5 h (fun v2 M H locs I h => ?_)
  refine lv_iconst (v := 1) X.1 X.2.1 dX10_laysSigns_8 (by decide) ?_
  refine lv_iadd X.1 X.2.1 dX10_laysSigns_9 ?_
  refine lv_iload X.1 X.2.1 dX10_laysSigns_10 (lv_at hl 4 rfl) ?_
  refine mm_ris X I dX10_laysSigns_12 h (fun M H locs I h => ?_)
  refine lv_iconst (v := 0) X.1 X.2.1 dX10_laysSigns_13 (by decide) ?_
  refine lv_istore (lv' := [(5, .int 0), (0, .ref a0), (1, .int x1), (2, .ref a2), (3, .int x3), (4, .int x4)]) X.1 X.2.1 dX10_laysSigns_14 hl (by decide) rfl (fun ls hl => ?_)
  exact wpX10_laysSigns_l16 X hr hlk n  n M _ _ _ _ _ _ _ _ _ I (lv_sub hl [1, 2, 3, 4, 5, 0] rfl) h
set_option maxHeartbeats 4000000 in
set_option maxRecDepth 100000 in
theorem wpX10_takeStore_b89 {p : Program} {l : Launch} {e : Env} {s : State} {m : MethodId} {args : Array Value} {below : List Frame} {meth : Method} {c : Code} {D : va_G} {dA : Nat → ClassId} {lo : Nat} (X : mm_C D dA lo cX10_takeStore RX10 2 p s m args c) (hr : meth.sig.returnType = (some .int)) (hlk : meth.locks = false) (n : Nat) {o : Int32 × mm_M}  : ∀ (M : mm_M) (a0 : Nat) (H : Heap) (locs : List Loc) (ls : Array Slot), mm_I D dA lo s M H locs → lv_has ls 2 [(0, .ref a0)] → pX10_takeStore_b89 n M a0 = some o → W p l e (mm_rm 2 45 0 0) s m args below meth c H locs 0 0 (MQ below (mm_Q D dA lo (some (.int o.1)) o.2) args s 0 0 (mm_fr lo)) (F0 m 89 ls []) := by
  intro M a0 H locs ls I hl h
  unfold pX10_takeStore_b89 at h
  refine lv_aload_n X.1 X.2.1 dX10_takeStore_89 rfl (lv_at hl 0 rfl) ?_
  refine lv_iconst (v := 0) X.1 X.2.1 dX10_takeStore_90 (by decide) ?_
  refine mm_rpi X I fl_X10_150 dX10_takeStore_91 h (fun M H locs I h => ?_)
  refine lv_aload_n X.1 X.2.1 dX10_takeStore_94 rfl (lv_at hl 0 rfl) ?_
  refine lv_iconst (v := 0) X.1 X.2.1 dX10_takeStore_95 (by decide) ?_
  refine mm_rpi X I fl_X10_153 dX10_takeStore_96 h (fun M H locs I h => ?_)
  refine lv_aload_n X.1 X.2.1 dX10_takeStore_99 rfl (lv_at hl 0 rfl) ?_
  refine lv_iconst (v := 0) X.1 X.2.1 dX10_takeStore_100 (by decide) ?_
  refine mm_rpz X I fl_X10_156 dX10_takeStore_101 h (fun M H locs I h => ?_)
  refine lv_aload_n X.1 X.2.1 dX10_takeStore_104 rfl (lv_at hl 0 rfl) ?_
  refine mm_rgi X I fl_X10_93 dX10_takeStore_105 h (fun v1 h => ?_)
  exact mm_xi X I hr hlk dX10_takeStore_108 h
set_option maxHeartbeats 4000000 in
set_option maxRecDepth 100000 in
theorem wpX10_takeStore_l44 {p : Program} {l : Launch} {e : Env} {s : State} {m : MethodId} {args : Array Value} {below : List Frame} {meth : Method} {c : Code} {D : va_G} {dA : Nat → ClassId} {lo : Nat} (X : mm_C D dA lo cX10_takeStore RX10 2 p s m args c) (hr : meth.sig.returnType = (some .int)) (hlk : meth.locks = false) (n : Nat) {o : Int32 × mm_M} (k : Nat) : ∀ (M : mm_M) (a0 : Nat) (x1 : Int32) (H : Heap) (locs : List Loc) (ls : Array Slot), mm_I D dA lo s M H locs → lv_has ls 2 [(0, .ref a0), (1, .int x1)] → pX10_takeStore_l44 n k M a0 x1 = some o → W p l e (mm_rm 2 45 0 0) s m args below meth c H locs 0 0 (MQ below (mm_Q D dA lo (some (.int o.1)) o.2) args s 0 0 (mm_fr lo)) (F0 m 44 ls []) := by
  induction k with
  | zero =>
    intro M a0 x1 H locs ls I hl h
    have h : (none : Option (Int32 × mm_M)) = some o := h
    cases h
  | succ k ih =>
    intro M a0 x1 H locs ls I hl h
    have h : pX10_takeStore_l44b n (pX10_takeStore_l44 n k) M a0 x1 = some o := h
    unfold pX10_takeStore_l44b at h
    refine lv_iload_n X.1 X.2.1 dX10_takeStore_44 rfl (lv_at hl 1 rfl) ?_
    refine lv_aload_n X.1 X.2.1 dX10_takeStore_45 rfl (lv_at hl 0 rfl) ?_
    refine mm_rgi X I fl_X10_93 dX10_takeStore_46 h (fun v1 h => ?_)
    refine mm_kge (tgt := 89) X dX10_takeStore_49 (by decide) h (fun h => ?_) (fun h => ?_)
    · exact wpX10_takeStore_b89 X hr hlk n  M _ _ _ _ I (lv_sub hl [0] rfl) h
    · refine lv_aload_n X.1 X.2.1 dX10_takeStore_52 rfl (lv_at hl 0 rfl) ?_
      refine mm_rgr X I fl_X10_28 dX10_takeStore_53 h (fun v2 h => ?_)
      refine lv_iload_n X.1 X.2.1 dX10_takeStore_56 rfl (lv_at hl 1 rfl) ?_
      refine mm_cSi X I hl (As := [.int x1]) md_X10_lineAt mv_X10_lineAt ml_X10_129 (kX10_lineAt (n := n)) (by decide) ⟨Nat.le_refl 0, Nat.le_refl 0⟩ rfl rfl (Nat.le_of_ble_eq_true rfl) dX10_takeStore_57 h (fun v3 M H locs I h => ?_)
      refine lv_iconst (v := 0) X.1 X.2.1 dX10_takeStore_60 (by decide) ?_
      refine lv_iadd X.1 X.2.1 dX10_takeStore_61 ?_
      refine lv_iload_n X.1 X.2.1 dX10_takeStore_62 rfl (lv_at hl 1 rfl) ?_
      refine mm_ris X I dX10_takeStore_63 h (fun M H locs I h => ?_)
      refine lv_aload_n X.1 X.2.1 dX10_takeStore_64 rfl (lv_at hl 0 rfl) ?_
      refine lv_iload_n X.1 X.2.1 dX10_takeStore_65 rfl (lv_at hl 1 rfl) ?_
      refine lv_aload_n X.1 X.2.1 dX10_takeStore_66 rfl (lv_at hl 0 rfl) ?_
      refine mm_rgr X I fl_X10_16 dX10_takeStore_67 h (fun v4 h => ?_)
      refine lv_bipush (v := 20) X.1 X.2.1 dX10_takeStore_70 (by decide) ?_
      refine lv_iload_n X.1 X.2.1 dX10_takeStore_72 rfl (lv_at hl 1 rfl) ?_
      refine lv_imul X.1 X.2.1 dX10_takeStore_73 ?_
      refine lv_aload_n X.1 X.2.1 dX10_takeStore_74 rfl (lv_at hl 0 rfl) ?_
      refine mm_rgr X I fl_X10_13 dX10_takeStore_75 h (fun v5 h => ?_)
      refine lv_iload_n X.1 X.2.1 dX10_takeStore_78 rfl (lv_at hl 1 rfl) ?_
      refine mm_ria X I dX10_takeStore_79 h (fun v6 h => ?_)
      refine mm_cVv X I hl (As := [.int x1, .ref v4, .int (20 * x1), .int v6]) (ci := 10) md_X10_laysSigns mv_X10_laysSigns ml_X10_146 rfl (kX10_laysSigns (n := n)) (by decide) ⟨Nat.le_refl 0, Nat.le_refl 0⟩ rfl rfl (Nat.le_of_ble_eq_true rfl) dX10_takeStore_80 h (fun M H locs I h => ?_)
      refine lv_iinc (v := (x1 + 1)) (lv' := [(1, .int (x1 + 1)), (0, .ref a0)]) X.1 X.2.1 dX10_takeStore_83 hl (k := 1) rfl rfl (by decide) rfl (fun ls hl => ?_)
      refine lv_goto (tgt := 44) X.1 X.2.1 dX10_takeStore_86 (by decide) ?_
      exact ih M _ _ _ _ _ I (lv_sub hl [1, 0] rfl) h
set_option maxHeartbeats 4000000 in
set_option maxRecDepth 100000 in
theorem wpX10_takeStore_b22 {p : Program} {l : Launch} {e : Env} {s : State} {m : MethodId} {args : Array Value} {below : List Frame} {meth : Method} {c : Code} {D : va_G} {dA : Nat → ClassId} {lo : Nat} (X : mm_C D dA lo cX10_takeStore RX10 2 p s m args c) (hr : meth.sig.returnType = (some .int)) (hlk : meth.locks = false) (n : Nat) {o : Int32 × mm_M}  : ∀ (M : mm_M) (a0 : Nat) (H : Heap) (locs : List Loc) (ls : Array Slot), mm_I D dA lo s M H locs → lv_has ls 2 [(0, .ref a0)] → pX10_takeStore_b22 n M a0 = some o → W p l e (mm_rm 2 45 0 0) s m args below meth c H locs 0 0 (MQ below (mm_Q D dA lo (some (.int o.1)) o.2) args s 0 0 (mm_fr lo)) (F0 m 22 ls []) := by
  intro M a0 H locs ls I hl h
  unfold pX10_takeStore_b22 at h
  refine lv_aload_n X.1 X.2.1 dX10_takeStore_22 rfl (lv_at hl 0 rfl) ?_
  refine mm_rgr X I fl_X10_28 dX10_takeStore_23 h (fun v1 h => ?_)
  refine lv_iconst (v := 0) X.1 X.2.1 dX10_takeStore_26 (by decide) ?_
  refine lv_aload_n X.1 X.2.1 dX10_takeStore_27 rfl (lv_at hl 0 rfl) ?_
  refine mm_rgi X I fl_X10_93 dX10_takeStore_28 h (fun v2 h => ?_)
  refine mm_ris X I dX10_takeStore_31 h (fun M H locs I h => ?_)
  refine lv_aload_n X.1 X.2.1 dX10_takeStore_32 rfl (lv_at hl 0 rfl) ?_
  refine mm_rgr X I fl_X10_28 dX10_takeStore_33 h (fun v3 h => ?_)
  refine lv_iconst (v := 1) X.1 X.2.1 dX10_takeStore_36 (by decide) ?_
  refine lv_aload_n X.1 X.2.1 dX10_takeStore_37 rfl (lv_at hl 0 rfl) ?_
  refine mm_rgi X I fl_X10_93 dX10_takeStore_38 h (fun v4 h => ?_)
  refine mm_ris X I dX10_takeStore_41 h (fun M H locs I h => ?_)
  refine lv_iconst (v := 0) X.1 X.2.1 dX10_takeStore_42 (by decide) ?_
  refine lv_istore_n (lv' := [(1, .int 0), (0, .ref a0)]) X.1 X.2.1 dX10_takeStore_43 rfl hl (by decide) rfl (fun ls hl => ?_)
  exact wpX10_takeStore_l44 X hr hlk n  n M _ _ _ _ _ I (lv_sub hl [1, 0] rfl) h
set_option maxHeartbeats 4000000 in
set_option maxRecDepth 100000 in
theorem wpX10_takeStore_l2 {p : Program} {l : Launch} {e : Env} {s : State} {m : MethodId} {args : Array Value} {below : List Frame} {meth : Method} {c : Code} {D : va_G} {dA : Nat → ClassId} {lo : Nat} (X : mm_C D dA lo cX10_takeStore RX10 2 p s m args c) (hr : meth.sig.returnType = (some .int)) (hlk : meth.locks = false) (n : Nat) {o : Int32 × mm_M} (k : Nat) : ∀ (M : mm_M) (a0 : Nat) (x1 : Int32) (H : Heap) (locs : List Loc) (ls : Array Slot), mm_I D dA lo s M H locs → lv_has ls 2 [(0, .ref a0), (1, .int x1)] → pX10_takeStore_l2 n k M a0 x1 = some o → W p l e (mm_rm 2 45 0 0) s m args below meth c H locs 0 0 (MQ below (mm_Q D dA lo (some (.int o.1)) o.2) args s 0 0 (mm_fr lo)) (F0 m 2 ls []) := by
  induction k with
  | zero =>
    intro M a0 x1 H locs ls I hl h
    have h : (none : Option (Int32 × mm_M)) = some o := h
    cases h
  | succ k ih =>
    intro M a0 x1 H locs ls I hl h
    have h : pX10_takeStore_l2b n (pX10_takeStore_l2 n k) M a0 x1 = some o := h
    unfold pX10_takeStore_l2b at h
    refine lv_iload_n X.1 X.2.1 dX10_takeStore_2 rfl (lv_at hl 1 rfl) ?_
    refine lv_sipush (v := 622) X.1 X.2.1 dX10_takeStore_3 (by decide) ?_
    refine mm_kge (tgt := 22) X dX10_takeStore_6 (by decide) h (fun h => ?_) (fun h => ?_)
    · exact wpX10_takeStore_b22 X hr hlk n  M _ _ _ _ I (lv_sub hl [0] rfl) h
    · refine lv_aload_n X.1 X.2.1 dX10_takeStore_9 rfl (lv_at hl 0 rfl) ?_
      refine mm_rgr X I fl_X10_28 dX10_takeStore_10 h (fun v1 h => ?_)
      refine lv_iload_n X.1 X.2.1 dX10_takeStore_13 rfl (lv_at hl 1 rfl) ?_
      refine lv_iconst (v := 0) X.1 X.2.1 dX10_takeStore_14 (by decide) ?_
      refine mm_ris X I dX10_takeStore_15 h (fun M H locs I h => ?_)
      refine lv_iinc (v := (x1 + 1)) (lv' := [(1, .int (x1 + 1)), (0, .ref a0)]) X.1 X.2.1 dX10_takeStore_16 hl (k := 1) rfl rfl (by decide) rfl (fun ls hl => ?_)
      refine lv_goto (tgt := 2) X.1 X.2.1 dX10_takeStore_19 (by decide) ?_
      exact ih M _ _ _ _ _ I (lv_sub hl [1, 0] rfl) h
set_option maxHeartbeats 4000000 in
set_option maxRecDepth 100000 in
theorem kX10_takeStore {l : Launch} {D : va_G} {dA : Nat → ClassId} {lo : Nat} {n : Nat} {M : mm_M} {a0 : Nat} (o : Int32 × mm_M) (h : pX10_takeStore n M a0 = some o) : (∃ fs, M.2 a0 = some (mm_ob 10 fs)) ∧ mm_Met l D dA lo yX10_takeStore cX10_takeStore 2 (some .int) 2 45 0 0 [.ref a0] M (some (.int o.1)) o.2 := by
  unfold pX10_takeStore at h
  obtain ⟨hob, h⟩ := mm_v_some h
  refine ⟨hob, mm_enter (by decide) (Nat.le_of_ble_eq_true rfl) (fun p e s m args below meth c ls X hr hlk hnm I hl => ?_)⟩
  have X : mm_C D dA lo cX10_takeStore RX10 2 p s m args c := X
  have hl : lv_has ls 2 [(0, .ref a0)] := hl
  refine lv_iconst (v := 0) X.1 X.2.1 dX10_takeStore_0 (by decide) ?_
  refine lv_istore_n (lv' := [(1, .int 0), (0, .ref a0)]) X.1 X.2.1 dX10_takeStore_1 rfl hl (by decide) rfl (fun ls hl => ?_)
  exact wpX10_takeStore_l2 X hr hlk n  n M _ _ _ _ _ I (lv_sub hl [1, 0] rfl) h
set_option maxHeartbeats 4000000 in
set_option maxRecDepth 100000 in
theorem wpX10_text_b22 {p : Program} {l : Launch} {e : Env} {s : State} {m : MethodId} {args : Array Value} {below : List Frame} {meth : Method} {c : Code} {D : va_G} {dA : Nat → ClassId} {lo : Nat} (X : mm_C D dA lo cX10_text RX10 2 p s m args c) (hr : meth.sig.returnType = (some .int)) (hlk : meth.locks = false) (n : Nat) {o : Int32 × mm_M}  : ∀ (M : mm_M) (a0 : Nat) (x1 : Int32) (H : Heap) (locs : List Loc) (ls : Array Slot), mm_I D dA lo s M H locs → lv_has ls 2 [(0, .ref a0), (1, .int x1)] → pX10_text_b22 n M a0 x1 = some o → W p l e (mm_rm 4 89 0 0) s m args below meth c H locs 0 0 (MQ below (mm_Q D dA lo (some (.int o.1)) o.2) args s 0 0 (mm_fr lo)) (F0 m 22 ls []) := by
  intro M a0 x1 H locs ls I hl h
  unfold pX10_text_b22 at h
  refine lv_iload_n X.1 X.2.1 dX10_text_22 rfl (lv_at hl 1 rfl) ?_
  refine lv_iconst (v := 1) X.1 X.2.1 dX10_text_23 (by decide) ?_
  refine mm_kne (tgt := 69) X dX10_text_24 (by decide) h (fun h => ?_) (fun h => ?_)
  · refine lv_iconst (v := (-1)) X.1 X.2.1 dX10_text_69 (by decide) ?_
    exact mm_xi X I hr hlk dX10_text_70 h
  · refine lv_aload_n X.1 X.2.1 dX10_text_27 rfl (lv_at hl 0 rfl) ?_
    refine mm_rgi X I fl_X10_163 dX10_text_28 h (fun v1 h => ?_)
    refine lv_iconst (v := 4) X.1 X.2.1 dX10_text_31 (by decide) ?_
    refine mm_kge (tgt := 69) X dX10_text_32 (by decide) h (fun h => ?_) (fun h => ?_)
    · refine lv_iconst (v := (-1)) X.1 X.2.1 dX10_text_69 (by decide) ?_
      exact mm_xi X I hr hlk dX10_text_70 h
    · refine lv_aload_n X.1 X.2.1 dX10_text_35 rfl (lv_at hl 0 rfl) ?_
      refine lv_aload_n X.1 X.2.1 dX10_text_36 rfl (lv_at hl 0 rfl) ?_
      refine mm_rgi X I fl_X10_163 dX10_text_37 h (fun v2 h => ?_)
      refine mm_cVi X I hl (As := [.int v2]) (ci := 10) md_X10_readScript mv_X10_readScript ml_X10_123 rfl (kX10_readScript (n := n)) (by decide) ⟨Nat.le_refl 0, Nat.le_refl 0⟩ rfl rfl (Nat.le_of_ble_eq_true rfl) dX10_text_40 h (fun v3 M H locs I h => ?_)
      refine lv_iconst (v := (-1)) X.1 X.2.1 dX10_text_43 (by decide) ?_
      refine mm_kne (tgt := 69) X dX10_text_44 (by decide) h (fun h => ?_) (fun h => ?_)
      · refine lv_iconst (v := (-1)) X.1 X.2.1 dX10_text_69 (by decide) ?_
        exact mm_xi X I hr hlk dX10_text_70 h
      · refine lv_aload_n X.1 X.2.1 dX10_text_47 rfl (lv_at hl 0 rfl) ?_
        refine lv_iconst (v := 0) X.1 X.2.1 dX10_text_48 (by decide) ?_
        refine mm_rpi X I fl_X10_66 dX10_text_49 h (fun M H locs I h => ?_)
        refine lv_aload_n X.1 X.2.1 dX10_text_52 rfl (lv_at hl 0 rfl) ?_
        refine lv_dup X.1 X.2.1 dX10_text_53 rfl ?_
        refine mm_rgi X I fl_X10_163 dX10_text_54 h (fun v4 h => ?_)
        refine lv_iconst (v := 1) X.1 X.2.1 dX10_text_57 (by decide) ?_
        refine lv_iadd X.1 X.2.1 dX10_text_58 ?_
        refine mm_rpi X I fl_X10_163 dX10_text_59 h (fun M H locs I h => ?_)
        refine lv_aload_n X.1 X.2.1 dX10_text_62 rfl (lv_at hl 0 rfl) ?_
        refine mm_rgi X I fl_X10_163 dX10_text_63 h (fun v5 h => ?_)
        refine lv_iconst (v := 1) X.1 X.2.1 dX10_text_66 (by decide) ?_
        refine lv_isub X.1 X.2.1 dX10_text_67 ?_
        exact mm_xi X I hr hlk dX10_text_68 h
set_option maxHeartbeats 4000000 in
set_option maxRecDepth 100000 in
theorem kX10_text {l : Launch} {D : va_G} {dA : Nat → ClassId} {lo : Nat} {n : Nat} {M : mm_M} {a0 : Nat} {x1 : Int32} (o : Int32 × mm_M) (h : pX10_text n M a0 x1 = some o) : (∃ fs, M.2 a0 = some (mm_ob 10 fs)) ∧ mm_Met l D dA lo yX10_text cX10_text 2 (some .int) 4 89 0 0 [.ref a0, .int x1] M (some (.int o.1)) o.2 := by
  unfold pX10_text at h
  obtain ⟨hob, h⟩ := mm_v_some h
  refine ⟨hob, mm_enter (by decide) (Nat.le_of_ble_eq_true rfl) (fun p e s m args below meth c ls X hr hlk hnm I hl => ?_)⟩
  have X : mm_C D dA lo cX10_text RX10 2 p s m args c := X
  have hl : lv_has ls 2 [(0, .ref a0), (1, .int x1)] := hl
  refine lv_iload_n X.1 X.2.1 dX10_text_0 rfl (lv_at hl 1 rfl) ?_
  refine mm_jne (tgt := 22) X dX10_text_1 (by decide) h (fun h => ?_) (fun h => ?_)
  · exact wpX10_text_b22 X hr hlk n  M _ _ _ _ _ I (lv_sub hl [0, 1] rfl) h
  · refine lv_aload_n X.1 X.2.1 dX10_text_4 rfl (lv_at hl 0 rfl) ?_
    refine mm_cVi X I hl (As := []) (ci := 10) md_X10_readStore mv_X10_readStore ml_X10_120 rfl (kX10_readStore (n := n)) (by decide) ⟨Nat.le_refl 0, Nat.le_refl 0⟩ rfl rfl (Nat.le_of_ble_eq_true rfl) dX10_text_5 h (fun v1 M H locs I h => ?_)
    refine lv_iconst (v := (-1)) X.1 X.2.1 dX10_text_8 (by decide) ?_
    refine mm_kne (tgt := 22) X dX10_text_9 (by decide) h (fun h => ?_) (fun h => ?_)
    · exact wpX10_text_b22 X hr hlk n  M _ _ _ _ _ I (lv_sub hl [0, 1] rfl) h
    · refine lv_aload_n X.1 X.2.1 dX10_text_12 rfl (lv_at hl 0 rfl) ?_
      refine lv_iconst (v := 0) X.1 X.2.1 dX10_text_13 (by decide) ?_
      refine mm_rpi X I fl_X10_66 dX10_text_14 h (fun M H locs I h => ?_)
      refine lv_aload_n X.1 X.2.1 dX10_text_17 rfl (lv_at hl 0 rfl) ?_
      refine mm_cVi X I hl (As := []) (ci := 10) md_X10_takeStore mv_X10_takeStore ml_X10_160 rfl (kX10_takeStore (n := n)) (by decide) ⟨Nat.le_refl 0, Nat.le_refl 0⟩ rfl rfl (Nat.le_of_ble_eq_true rfl) dX10_text_18 h (fun v2 M H locs I h => ?_)
      exact mm_xi X I hr hlk dX10_text_21 h
set_option maxHeartbeats 4000000 in
set_option maxRecDepth 100000 in
theorem wpX10_stands_l23 {p : Program} {l : Launch} {e : Env} {s : State} {m : MethodId} {args : Array Value} {below : List Frame} {meth : Method} {c : Code} {D : va_G} {dA : Nat → ClassId} {lo : Nat} (X : mm_C D dA lo cX10_stands RX10 8 p s m args c) (hr : meth.sig.returnType = (some .boolean)) (hlk : meth.locks = false) (n : Nat) {o : Int32 × mm_M} (k : Nat) : ∀ (M : mm_M) (a0 : Nat) (a1 : Nat) (x2 : Int32) (x3 : Int32) (x4 : Int32) (x5 : Int32) (x6 : Int32) (x7 : Int32) (H : Heap) (locs : List Loc) (ls : Array Slot), mm_I D dA lo s M H locs → lv_has ls 8 [(0, .ref a0), (1, .ref a1), (2, .int x2), (3, .int x3), (4, .int x4), (5, .int x5), (6, .int x6), (7, .int x7)] → pX10_stands_l23 n k M a0 a1 x2 x3 x4 x5 x6 x7 = some o → W p l e (mm_rm 2 42 0 0) s m args below meth c H locs 0 0 (MQ below (mm_Q D dA lo (some (.int o.1)) o.2) args s 0 0 (mm_fr lo)) (F0 m 23 ls []) := by
  induction k with
  | zero =>
    intro M a0 a1 x2 x3 x4 x5 x6 x7 H locs ls I hl h
    have h : (none : Option (Int32 × mm_M)) = some o := h
    cases h
  | succ k ih =>
    intro M a0 a1 x2 x3 x4 x5 x6 x7 H locs ls I hl h
    have h : pX10_stands_l23b n (pX10_stands_l23 n k) M a0 a1 x2 x3 x4 x5 x6 x7 = some o := h
    unfold pX10_stands_l23b at h
    refine lv_iload X.1 X.2.1 dX10_stands_23 (lv_at hl 7 rfl) ?_
    refine lv_iload_n X.1 X.2.1 dX10_stands_25 rfl (lv_at hl 3 rfl) ?_
    refine mm_kge (tgt := 67) X dX10_stands_26 (by decide) h (fun h => ?_) (fun h => ?_)
    · refine lv_iload X.1 X.2.1 dX10_stands_67 (lv_at hl 6 rfl) ?_
      exact mm_xz X I hr hlk dX10_stands_69 h
    · refine lv_iload X.1 X.2.1 dX10_stands_29 (lv_at hl 6 rfl) ?_
      refine mm_jeq (tgt := 67) X dX10_stands_31 (by decide) h (fun h => ?_) (fun h => ?_)
      · refine lv_iload X.1 X.2.1 dX10_stands_67 (lv_at hl 6 rfl) ?_
        exact mm_xz X I hr hlk dX10_stands_69 h
      · refine lv_aload_n X.1 X.2.1 dX10_stands_34 rfl (lv_at hl 0 rfl) ?_
        refine lv_iload X.1 X.2.1 dX10_stands_35 (lv_at hl 4 rfl) ?_
        refine lv_iload X.1 X.2.1 dX10_stands_37 (lv_at hl 5 rfl) ?_
        refine lv_iload X.1 X.2.1 dX10_stands_39 (lv_at hl 7 rfl) ?_
        refine lv_iadd X.1 X.2.1 dX10_stands_41 ?_
        refine mm_cVi X I hl (As := [.int x4, .int (x5 + x7)]) (ci := 10) md_X10_signAt mv_X10_signAt ml_X10_176 rfl (kX10_signAt (n := n)) (by decide) ⟨Nat.le_refl 0, Nat.le_refl 0⟩ rfl rfl (Nat.le_of_ble_eq_true rfl) dX10_stands_42 h (fun v1 M H locs I h => ?_)
        refine lv_aload_n X.1 X.2.1 dX10_stands_45 rfl (lv_at hl 1 rfl) ?_
        refine lv_iload_n X.1 X.2.1 dX10_stands_46 rfl (lv_at hl 2 rfl) ?_
        refine lv_iload X.1 X.2.1 dX10_stands_47 (lv_at hl 7 rfl) ?_
        refine lv_iadd X.1 X.2.1 dX10_stands_49 ?_
        refine mm_ria X I dX10_stands_50 h (fun v2 h => ?_)
        refine mm_kne (tgt := 58) X dX10_stands_51 (by decide) h (fun h => ?_) (fun h => ?_)
        · refine lv_iconst (v := 0) X.1 X.2.1 dX10_stands_58 (by decide) ?_
          refine lv_istore (lv' := [(6, .int 0), (0, .ref a0), (1, .ref a1), (2, .int x2), (3, .int x3), (4, .int x4), (5, .int x5), (7, .int x7)]) X.1 X.2.1 dX10_stands_59 hl (by decide) rfl (fun ls hl => ?_)
          refine lv_iinc (v := (x7 + 1)) (lv' := [(7, .int (x7 + 1)), (6, .int 0), (0, .ref a0), (1, .ref a1), (2, .int x2), (3, .int x3), (4, .int x4), (5, .int x5)]) X.1 X.2.1 dX10_stands_61 hl (k := 7) rfl rfl (by decide) rfl (fun ls hl => ?_)
          refine lv_goto (tgt := 23) X.1 X.2.1 dX10_stands_64 (by decide) ?_
          exact ih M _ _ _ _ _ _ _ _ _ _ _ I (lv_sub hl [2, 3, 4, 5, 6, 7, 1, 0] rfl) h
        · refine lv_iconst (v := 1) X.1 X.2.1 dX10_stands_54 (by decide) ?_
          refine lv_goto (tgt := 59) X.1 X.2.1 dX10_stands_55 (by decide) ?_
          refine lv_istore (lv' := [(6, .int 1), (0, .ref a0), (1, .ref a1), (2, .int x2), (3, .int x3), (4, .int x4), (5, .int x5), (7, .int x7)]) X.1 X.2.1 dX10_stands_59 hl (by decide) rfl (fun ls hl => ?_)
          refine lv_iinc (v := (x7 + 1)) (lv' := [(7, .int (x7 + 1)), (6, .int 1), (0, .ref a0), (1, .ref a1), (2, .int x2), (3, .int x3), (4, .int x4), (5, .int x5)]) X.1 X.2.1 dX10_stands_61 hl (k := 7) rfl rfl (by decide) rfl (fun ls hl => ?_)
          refine lv_goto (tgt := 23) X.1 X.2.1 dX10_stands_64 (by decide) ?_
          exact ih M _ _ _ _ _ _ _ _ _ _ _ I (lv_sub hl [2, 3, 4, 5, 6, 7, 1, 0] rfl) h
set_option maxHeartbeats 4000000 in
set_option maxRecDepth 100000 in
theorem kX10_stands {l : Launch} {D : va_G} {dA : Nat → ClassId} {lo : Nat} {n : Nat} {M : mm_M} {a0 : Nat} {a1 : Nat} {x2 : Int32} {x3 : Int32} {x4 : Int32} {x5 : Int32} (o : Int32 × mm_M) (h : pX10_stands n M a0 a1 x2 x3 x4 x5 = some o) : (∃ fs, M.2 a0 = some (mm_ob 10 fs)) ∧ mm_Met l D dA lo yX10_stands cX10_stands 8 (some .boolean) 2 42 0 0 [.ref a0, .ref a1, .int x2, .int x3, .int x4, .int x5] M (some (.int o.1)) o.2 := by
  unfold pX10_stands at h
  obtain ⟨hob, h⟩ := mm_v_some h
  refine ⟨hob, mm_enter (by decide) (Nat.le_of_ble_eq_true rfl) (fun p e s m args below meth c ls X hr hlk hnm I hl => ?_)⟩
  have X : mm_C D dA lo cX10_stands RX10 8 p s m args c := X
  have hl : lv_has ls 8 [(0, .ref a0), (1, .ref a1), (2, .int x2), (3, .int x3), (4, .int x4), (5, .int x5)] := hl
  refine lv_iload X.1 X.2.1 dX10_stands_0 (lv_at hl 5 rfl) ?_
  refine lv_iload_n X.1 X.2.1 dX10_stands_2 rfl (lv_at hl 3 rfl) ?_
  refine lv_iadd X.1 X.2.1 dX10_stands_3 ?_
  refine lv_aload_n X.1 X.2.1 dX10_stands_4 rfl (lv_at hl 0 rfl) ?_
  refine lv_iload X.1 X.2.1 dX10_stands_5 (lv_at hl 4 rfl) ?_
  refine mm_cVi X I hl (As := [.int x4]) (ci := 10) md_X10_longOf mv_X10_longOf ml_X10_136 rfl (kX10_longOf (n := n)) (by decide) ⟨Nat.le_refl 0, Nat.le_refl 0⟩ rfl rfl (Nat.le_of_ble_eq_true rfl) dX10_stands_7 h (fun v1 M H locs I h => ?_)
  refine mm_kgt (tgt := 17) X dX10_stands_10 (by decide) h (fun h => ?_) (fun h => ?_)
  · refine lv_iconst (v := 0) X.1 X.2.1 dX10_stands_17 (by decide) ?_
    refine lv_istore (lv' := [(6, .int 0), (0, .ref a0), (1, .ref a1), (2, .int x2), (3, .int x3), (4, .int x4), (5, .int x5)]) X.1 X.2.1 dX10_stands_18 hl (by decide) rfl (fun ls hl => ?_)
    refine lv_iconst (v := 0) X.1 X.2.1 dX10_stands_20 (by decide) ?_
    refine lv_istore (lv' := [(7, .int 0), (6, .int 0), (0, .ref a0), (1, .ref a1), (2, .int x2), (3, .int x3), (4, .int x4), (5, .int x5)]) X.1 X.2.1 dX10_stands_21 hl (by decide) rfl (fun ls hl => ?_)
    exact wpX10_stands_l23 X hr hlk n  n M _ _ _ _ _ _ _ _ _ _ _ I (lv_sub hl [2, 3, 4, 5, 6, 7, 1, 0] rfl) h
  · refine lv_iconst (v := 1) X.1 X.2.1 dX10_stands_13 (by decide) ?_
    refine lv_goto (tgt := 18) X.1 X.2.1 dX10_stands_14 (by decide) ?_
    refine lv_istore (lv' := [(6, .int 1), (0, .ref a0), (1, .ref a1), (2, .int x2), (3, .int x3), (4, .int x4), (5, .int x5)]) X.1 X.2.1 dX10_stands_18 hl (by decide) rfl (fun ls hl => ?_)
    refine lv_iconst (v := 0) X.1 X.2.1 dX10_stands_20 (by decide) ?_
    refine lv_istore (lv' := [(7, .int 0), (6, .int 1), (0, .ref a0), (1, .ref a1), (2, .int x2), (3, .int x3), (4, .int x4), (5, .int x5)]) X.1 X.2.1 dX10_stands_21 hl (by decide) rfl (fun ls hl => ?_)
    exact wpX10_stands_l23 X hr hlk n  n M _ _ _ _ _ _ _ _ _ _ _ I (lv_sub hl [2, 3, 4, 5, 6, 7, 1, 0] rfl) h
set_option maxHeartbeats 4000000 in
set_option maxRecDepth 100000 in
theorem kX10_following {l : Launch} {D : va_G} {dA : Nat → ClassId} {lo : Nat} {n : Nat} {M : mm_M} {a0 : Nat} {x1 : Int32} {x2 : Int32} {x3 : Int32} (o : Int32 × mm_M) (h : pX10_following n M a0 x1 x2 x3 = some o) : (∃ fs, M.2 a0 = some (mm_ob 10 fs)) ∧ mm_Met l D dA lo yX10_following cX10_following 4 (some .int) 2 42 0 0 [.ref a0, .int x1, .int x2, .int x3] M (some (.int o.1)) o.2 := by
  unfold pX10_following at h
  obtain ⟨hob, h⟩ := mm_v_some h
  refine ⟨hob, mm_enter (by decide) (Nat.le_of_ble_eq_true rfl) (fun p e s m args below meth c ls X hr hlk hnm I hl => ?_)⟩
  have X : mm_C D dA lo cX10_following RX10 4 p s m args c := X
  have hl : lv_has ls 4 [(0, .ref a0), (1, .int x1), (2, .int x2), (3, .int x3)] := hl
  refine lv_iload_n X.1 X.2.1 dX10_following_0 rfl (lv_at hl 2 rfl) ?_
  refine lv_aload_n X.1 X.2.1 dX10_following_1 rfl (lv_at hl 0 rfl) ?_
  refine mm_rgi X I fl_X10_173 dX10_following_2 h (fun v1 h => ?_)
  refine lv_iadd X.1 X.2.1 dX10_following_5 ?_
  refine lv_iload_n X.1 X.2.1 dX10_following_6 rfl (lv_at hl 3 rfl) ?_
  refine lv_iadd X.1 X.2.1 dX10_following_7 ?_
  refine lv_aload_n X.1 X.2.1 dX10_following_8 rfl (lv_at hl 0 rfl) ?_
  refine lv_iload_n X.1 X.2.1 dX10_following_9 rfl (lv_at hl 1 rfl) ?_
  refine mm_cVi X I hl (As := [.int x1]) (ci := 10) md_X10_longOf mv_X10_longOf ml_X10_136 rfl (kX10_longOf (n := n)) (by decide) ⟨Nat.le_refl 0, Nat.le_refl 0⟩ rfl rfl (Nat.le_of_ble_eq_true rfl) dX10_following_10 h (fun v2 M H locs I h => ?_)
  refine mm_kge (tgt := 32) X dX10_following_13 (by decide) h (fun h => ?_) (fun h => ?_)
  · refine lv_iconst (v := (-1)) X.1 X.2.1 dX10_following_32 (by decide) ?_
    exact mm_xi X I hr hlk dX10_following_33 h
  · refine lv_aload_n X.1 X.2.1 dX10_following_16 rfl (lv_at hl 0 rfl) ?_
    refine lv_iload_n X.1 X.2.1 dX10_following_17 rfl (lv_at hl 1 rfl) ?_
    refine lv_iload_n X.1 X.2.1 dX10_following_18 rfl (lv_at hl 2 rfl) ?_
    refine lv_aload_n X.1 X.2.1 dX10_following_19 rfl (lv_at hl 0 rfl) ?_
    refine mm_rgi X I fl_X10_173 dX10_following_20 h (fun v3 h => ?_)
    refine lv_iadd X.1 X.2.1 dX10_following_23 ?_
    refine lv_iload_n X.1 X.2.1 dX10_following_24 rfl (lv_at hl 3 rfl) ?_
    refine lv_iadd X.1 X.2.1 dX10_following_25 ?_
    refine mm_cVi X I hl (As := [.int x1, .int ((x2 + v3) + x3)]) (ci := 10) md_X10_signAt mv_X10_signAt ml_X10_176 rfl (kX10_signAt (n := n)) (by decide) ⟨Nat.le_refl 0, Nat.le_refl 0⟩ rfl rfl (Nat.le_of_ble_eq_true rfl) dX10_following_26 h (fun v4 M H locs I h => ?_)
    refine lv_goto (tgt := 33) X.1 X.2.1 dX10_following_29 (by decide) ?_
    exact mm_xi X I hr hlk dX10_following_33 h
set_option maxHeartbeats 4000000 in
set_option maxRecDepth 100000 in
theorem kX10_order {l : Launch} {D : va_G} {dA : Nat → ClassId} {lo : Nat} {n : Nat} {M : mm_M} {x0 : Int32} {x1 : Int32} (o : Int32 × mm_M) (h : pX10_order n M x0 x1 = some o) : mm_Met l D dA lo yX10_order cX10_order 2 (some .int) 0 0 0 0 [.int x0, .int x1] M (some (.int o.1)) o.2 := by
  unfold pX10_order at h
  refine mm_enter (by decide) (Nat.le_of_ble_eq_true rfl) (fun p e s m args below meth c ls X hr hlk hnm I hl => ?_)
  have X : mm_C D dA lo cX10_order RX10 2 p s m args c := X
  have hl : lv_has ls 2 [(0, .int x0), (1, .int x1)] := hl
  refine lv_iload_n X.1 X.2.1 dX10_order_0 rfl (lv_at hl 0 rfl) ?_
  refine lv_iload_n X.1 X.2.1 dX10_order_1 rfl (lv_at hl 1 rfl) ?_
  refine mm_kge (tgt := 9) X dX10_order_2 (by decide) h (fun h => ?_) (fun h => ?_)
  · refine lv_iload_n X.1 X.2.1 dX10_order_9 rfl (lv_at hl 0 rfl) ?_
    refine lv_iload_n X.1 X.2.1 dX10_order_10 rfl (lv_at hl 1 rfl) ?_
    refine mm_kle (tgt := 18) X dX10_order_11 (by decide) h (fun h => ?_) (fun h => ?_)
    · refine lv_iconst (v := 0) X.1 X.2.1 dX10_order_18 (by decide) ?_
      exact mm_xi X I hr hlk dX10_order_19 h
    · refine lv_iconst (v := 1) X.1 X.2.1 dX10_order_14 (by decide) ?_
      refine lv_goto (tgt := 19) X.1 X.2.1 dX10_order_15 (by decide) ?_
      exact mm_xi X I hr hlk dX10_order_19 h
  · refine lv_iconst (v := (-1)) X.1 X.2.1 dX10_order_5 (by decide) ?_
    refine lv_goto (tgt := 19) X.1 X.2.1 dX10_order_6 (by decide) ?_
    exact mm_xi X I hr hlk dX10_order_19 h
set_option maxHeartbeats 4000000 in
set_option maxRecDepth 100000 in
theorem kX10_before {l : Launch} {D : va_G} {dA : Nat → ClassId} {lo : Nat} {n : Nat} {M : mm_M} {a0 : Nat} {x1 : Int32} {x2 : Int32} {x3 : Int32} (o : Int32 × mm_M) (h : pX10_before n M a0 x1 x2 x3 = some o) : (∃ fs, M.2 a0 = some (mm_ob 10 fs)) ∧ mm_Met l D dA lo yX10_before cX10_before 4 (some .int) 2 42 0 0 [.ref a0, .int x1, .int x2, .int x3] M (some (.int o.1)) o.2 := by
  unfold pX10_before at h
  obtain ⟨hob, h⟩ := mm_v_some h
  refine ⟨hob, mm_enter (by decide) (Nat.le_of_ble_eq_true rfl) (fun p e s m args below meth c ls X hr hlk hnm I hl => ?_)⟩
  have X : mm_C D dA lo cX10_before RX10 4 p s m args c := X
  have hl : lv_has ls 4 [(0, .ref a0), (1, .int x1), (2, .int x2), (3, .int x3)] := hl
  refine lv_iload_n X.1 X.2.1 dX10_before_0 rfl (lv_at hl 2 rfl) ?_
  refine lv_iconst (v := 1) X.1 X.2.1 dX10_before_1 (by decide) ?_
  refine lv_isub X.1 X.2.1 dX10_before_2 ?_
  refine lv_iload_n X.1 X.2.1 dX10_before_3 rfl (lv_at hl 3 rfl) ?_
  refine lv_isub X.1 X.2.1 dX10_before_4 ?_
  refine mm_jlt (tgt := 21) X dX10_before_5 (by decide) h (fun h => ?_) (fun h => ?_)
  · refine lv_iconst (v := (-1)) X.1 X.2.1 dX10_before_21 (by decide) ?_
    exact mm_xi X I hr hlk dX10_before_22 h
  · refine lv_aload_n X.1 X.2.1 dX10_before_8 rfl (lv_at hl 0 rfl) ?_
    refine lv_iload_n X.1 X.2.1 dX10_before_9 rfl (lv_at hl 1 rfl) ?_
    refine lv_iload_n X.1 X.2.1 dX10_before_10 rfl (lv_at hl 2 rfl) ?_
    refine lv_iconst (v := 1) X.1 X.2.1 dX10_before_11 (by decide) ?_
    refine lv_isub X.1 X.2.1 dX10_before_12 ?_
    refine lv_iload_n X.1 X.2.1 dX10_before_13 rfl (lv_at hl 3 rfl) ?_
    refine lv_isub X.1 X.2.1 dX10_before_14 ?_
    refine mm_cVi X I hl (As := [.int x1, .int ((x2 - 1) - x3)]) (ci := 10) md_X10_signAt mv_X10_signAt ml_X10_176 rfl (kX10_signAt (n := n)) (by decide) ⟨Nat.le_refl 0, Nat.le_refl 0⟩ rfl rfl (Nat.le_of_ble_eq_true rfl) dX10_before_15 h (fun v1 M H locs I h => ?_)
    refine lv_goto (tgt := 22) X.1 X.2.1 dX10_before_18 (by decide) ?_
    exact mm_xi X I hr hlk dX10_before_22 h
set_option maxHeartbeats 4000000 in
set_option maxRecDepth 100000 in
theorem wpX10_compares_b112 {p : Program} {l : Launch} {e : Env} {s : State} {m : MethodId} {args : Array Value} {below : List Frame} {meth : Method} {c : Code} {D : va_G} {dA : Nat → ClassId} {lo : Nat} (X : mm_C D dA lo cX10_compares RX10 7 p s m args c) (hr : meth.sig.returnType = (some .int)) (hlk : meth.locks = false) (n : Nat) {o : Int32 × mm_M}  : ∀ (M : mm_M) (x2 : Int32) (x4 : Int32) (s0 : Int32) (H : Heap) (locs : List Loc) (ls : Array Slot), mm_I D dA lo s M H locs → lv_has ls 7 [(2, .int x2), (4, .int x4)] → pX10_compares_b112 n M x2 x4 s0 = some o → W p l e (mm_rm 3 65 0 0) s m args below meth c H locs 0 0 (MQ below (mm_Q D dA lo (some (.int o.1)) o.2) args s 0 0 (mm_fr lo)) (F0 m 112 ls [.int s0]) := by
  intro M x2 x4 s0 H locs ls I hl h
  unfold pX10_compares_b112 at h
  refine lv_istore (lv' := [(5, .int s0), (2, .int x2), (4, .int x4)]) X.1 X.2.1 dX10_compares_112 hl (by decide) rfl (fun ls hl => ?_)
  refine lv_iload X.1 X.2.1 dX10_compares_114 (lv_at hl 0 rfl) ?_
  refine mm_jne (tgt := 128) X dX10_compares_116 (by decide) h (fun h => ?_) (fun h => ?_)
  · refine lv_iload X.1 X.2.1 dX10_compares_128 (lv_at hl 0 rfl) ?_
    exact mm_xi X I hr hlk dX10_compares_130 h
  · refine lv_iload_n X.1 X.2.1 dX10_compares_119 rfl (lv_at hl 1 rfl) ?_
    refine lv_iload X.1 X.2.1 dX10_compares_120 (lv_at hl 2 rfl) ?_
    refine mm_cSi X I hl (As := [.int x2, .int x4]) md_X10_order mv_X10_order ml_X10_184 (kX10_order (n := n)) (by decide) ⟨Nat.le_refl 0, Nat.le_refl 0⟩ rfl rfl (Nat.le_of_ble_eq_true rfl) dX10_compares_122 h (fun v1 M H locs I h => ?_)
    refine lv_goto (tgt := 130) X.1 X.2.1 dX10_compares_125 (by decide) ?_
    exact mm_xi X I hr hlk dX10_compares_130 h
set_option maxHeartbeats 4000000 in
set_option maxRecDepth 100000 in
theorem wpX10_compares_b89 {p : Program} {l : Launch} {e : Env} {s : State} {m : MethodId} {args : Array Value} {below : List Frame} {meth : Method} {c : Code} {D : va_G} {dA : Nat → ClassId} {lo : Nat} (X : mm_C D dA lo cX10_compares RX10 7 p s m args c) (hr : meth.sig.returnType = (some .int)) (hlk : meth.locks = false) (n : Nat) {o : Int32 × mm_M}  : ∀ (M : mm_M) (a0 : Nat) (x1 : Int32) (x2 : Int32) (x3 : Int32) (x4 : Int32) (x5 : Int32) (H : Heap) (locs : List Loc) (ls : Array Slot), mm_I D dA lo s M H locs → lv_has ls 7 [(0, .ref a0), (1, .int x1), (2, .int x2), (3, .int x3), (4, .int x4), (5, .int x5)] → pX10_compares_b89 n M a0 x1 x2 x3 x4 x5 = some o → W p l e (mm_rm 3 65 0 0) s m args below meth c H locs 0 0 (MQ below (mm_Q D dA lo (some (.int o.1)) o.2) args s 0 0 (mm_fr lo)) (F0 m 89 ls []) := by
  intro M a0 x1 x2 x3 x4 x5 H locs ls I hl h
  unfold pX10_compares_b89 at h
  refine lv_iload X.1 X.2.1 dX10_compares_89 (lv_at hl 5 rfl) ?_
  refine mm_jne (tgt := 110) X dX10_compares_91 (by decide) h (fun h => ?_) (fun h => ?_)
  · refine lv_iload X.1 X.2.1 dX10_compares_110 (lv_at hl 5 rfl) ?_
    exact wpX10_compares_b112 X hr hlk n  M _ _ _ _ _ _ I (lv_sub hl [2, 4] rfl) h
  · refine lv_aload_n X.1 X.2.1 dX10_compares_94 rfl (lv_at hl 0 rfl) ?_
    refine lv_iload_n X.1 X.2.1 dX10_compares_95 rfl (lv_at hl 1 rfl) ?_
    refine mm_cVi X I hl (As := [.int x1]) (ci := 10) md_X10_numberOf mv_X10_numberOf ml_X10_190 rfl (kX10_numberOf (n := n)) (by decide) ⟨Nat.le_refl 0, Nat.le_refl 0⟩ rfl rfl (Nat.le_of_ble_eq_true rfl) dX10_compares_96 h (fun v1 M H locs I h => ?_)
    refine lv_aload_n X.1 X.2.1 dX10_compares_99 rfl (lv_at hl 0 rfl) ?_
    refine lv_iload_n X.1 X.2.1 dX10_compares_100 rfl (lv_at hl 3 rfl) ?_
    refine mm_cVi X I hl (As := [.int x3]) (ci := 10) md_X10_numberOf mv_X10_numberOf ml_X10_190 rfl (kX10_numberOf (n := n)) (by decide) ⟨Nat.le_refl 0, Nat.le_refl 0⟩ rfl rfl (Nat.le_of_ble_eq_true rfl) dX10_compares_101 h (fun v2 M H locs I h => ?_)
    refine mm_cSi X I hl (As := [.int v1, .int v2]) md_X10_order mv_X10_order ml_X10_184 (kX10_order (n := n)) (by decide) ⟨Nat.le_refl 0, Nat.le_refl 0⟩ rfl rfl (Nat.le_of_ble_eq_true rfl) dX10_compares_104 h (fun v3 M H locs I h => ?_)
    refine lv_goto (tgt := 112) X.1 X.2.1 dX10_compares_107 (by decide) ?_
    exact wpX10_compares_b112 X hr hlk n  M _ _ _ _ _ _ I (lv_sub hl [2, 4] rfl) h
set_option maxHeartbeats 4000000 in
set_option maxRecDepth 100000 in
theorem wpX10_compares_l49 {p : Program} {l : Launch} {e : Env} {s : State} {m : MethodId} {args : Array Value} {below : List Frame} {meth : Method} {c : Code} {D : va_G} {dA : Nat → ClassId} {lo : Nat} (X : mm_C D dA lo cX10_compares RX10 7 p s m args c) (hr : meth.sig.returnType = (some .int)) (hlk : meth.locks = false) (n : Nat) {o : Int32 × mm_M} (k : Nat) : ∀ (M : mm_M) (a0 : Nat) (x1 : Int32) (x2 : Int32) (x3 : Int32) (x4 : Int32) (x5 : Int32) (x6 : Int32) (H : Heap) (locs : List Loc) (ls : Array Slot), mm_I D dA lo s M H locs → lv_has ls 7 [(0, .ref a0), (1, .int x1), (2, .int x2), (3, .int x3), (4, .int x4), (5, .int x5), (6, .int x6)] → pX10_compares_l49 n k M a0 x1 x2 x3 x4 x5 x6 = some o → W p l e (mm_rm 3 65 0 0) s m args below meth c H locs 0 0 (MQ below (mm_Q D dA lo (some (.int o.1)) o.2) args s 0 0 (mm_fr lo)) (F0 m 49 ls []) := by
  induction k with
  | zero =>
    intro M a0 x1 x2 x3 x4 x5 x6 H locs ls I hl h
    have h : (none : Option (Int32 × mm_M)) = some o := h
    cases h
  | succ k ih =>
    intro M a0 x1 x2 x3 x4 x5 x6 H locs ls I hl h
    have h : pX10_compares_l49b n (pX10_compares_l49 n k) M a0 x1 x2 x3 x4 x5 x6 = some o := h
    unfold pX10_compares_l49b at h
    refine lv_iload X.1 X.2.1 dX10_compares_49 (lv_at hl 6 rfl) ?_
    refine lv_bipush (v := 20) X.1 X.2.1 dX10_compares_51 (by decide) ?_
    refine mm_kgt (tgt := 89) X dX10_compares_53 (by decide) h (fun h => ?_) (fun h => ?_)
    · exact wpX10_compares_b89 X hr hlk n  M _ _ _ _ _ _ _ _ _ I (lv_sub hl [0, 1, 2, 3, 4, 5] rfl) h
    · refine lv_iload X.1 X.2.1 dX10_compares_56 (lv_at hl 5 rfl) ?_
      refine mm_jne (tgt := 89) X dX10_compares_58 (by decide) h (fun h => ?_) (fun h => ?_)
      · exact wpX10_compares_b89 X hr hlk n  M _ _ _ _ _ _ _ _ _ I (lv_sub hl [0, 1, 2, 3, 4, 5] rfl) h
      · refine lv_aload_n X.1 X.2.1 dX10_compares_61 rfl (lv_at hl 0 rfl) ?_
        refine lv_iload_n X.1 X.2.1 dX10_compares_62 rfl (lv_at hl 1 rfl) ?_
        refine lv_iload_n X.1 X.2.1 dX10_compares_63 rfl (lv_at hl 2 rfl) ?_
        refine lv_iload X.1 X.2.1 dX10_compares_64 (lv_at hl 6 rfl) ?_
        refine mm_cVi X I hl (As := [.int x1, .int x2, .int x6]) (ci := 10) md_X10_before mv_X10_before ml_X10_187 rfl (kX10_before (n := n)) (by decide) ⟨Nat.le_refl 0, Nat.le_refl 0⟩ rfl rfl (Nat.le_of_ble_eq_true rfl) dX10_compares_66 h (fun v1 M H locs I h => ?_)
        refine lv_aload_n X.1 X.2.1 dX10_compares_69 rfl (lv_at hl 0 rfl) ?_
        refine lv_iload_n X.1 X.2.1 dX10_compares_70 rfl (lv_at hl 3 rfl) ?_
        refine lv_iload X.1 X.2.1 dX10_compares_71 (lv_at hl 4 rfl) ?_
        refine lv_iload X.1 X.2.1 dX10_compares_73 (lv_at hl 6 rfl) ?_
        refine mm_cVi X I hl (As := [.int x3, .int x4, .int x6]) (ci := 10) md_X10_before mv_X10_before ml_X10_187 rfl (kX10_before (n := n)) (by decide) ⟨Nat.le_refl 0, Nat.le_refl 0⟩ rfl rfl (Nat.le_of_ble_eq_true rfl) dX10_compares_75 h (fun v2 M H locs I h => ?_)
        refine mm_cSi X I hl (As := [.int v1, .int v2]) md_X10_order mv_X10_order ml_X10_184 (kX10_order (n := n)) (by decide) ⟨Nat.le_refl 0, Nat.le_refl 0⟩ rfl rfl (Nat.le_of_ble_eq_true rfl) dX10_compares_78 h (fun v3 M H locs I h => ?_)
        refine lv_istore (lv' := [(5, .int v3), (0, .ref a0), (1, .int x1), (2, .int x2), (3, .int x3), (4, .int x4), (6, .int x6)]) X.1 X.2.1 dX10_compares_81 hl (by decide) rfl (fun ls hl => ?_)
        refine lv_iinc (v := (x6 + 1)) (lv' := [(6, .int (x6 + 1)), (5, .int v3), (0, .ref a0), (1, .int x1), (2, .int x2), (3, .int x3), (4, .int x4)]) X.1 X.2.1 dX10_compares_83 hl (k := 6) rfl rfl (by decide) rfl (fun ls hl => ?_)
        refine lv_goto (tgt := 49) X.1 X.2.1 dX10_compares_86 (by decide) ?_
        exact ih M _ _ _ _ _ _ _ _ _ _ I (lv_sub hl [2, 3, 4, 5, 6, 1, 0] rfl) h
set_option maxHeartbeats 4000000 in
set_option maxRecDepth 100000 in
theorem wpX10_compares_l6 {p : Program} {l : Launch} {e : Env} {s : State} {m : MethodId} {args : Array Value} {below : List Frame} {meth : Method} {c : Code} {D : va_G} {dA : Nat → ClassId} {lo : Nat} (X : mm_C D dA lo cX10_compares RX10 7 p s m args c) (hr : meth.sig.returnType = (some .int)) (hlk : meth.locks = false) (n : Nat) {o : Int32 × mm_M} (k : Nat) : ∀ (M : mm_M) (a0 : Nat) (x1 : Int32) (x2 : Int32) (x3 : Int32) (x4 : Int32) (x5 : Int32) (x6 : Int32) (H : Heap) (locs : List Loc) (ls : Array Slot), mm_I D dA lo s M H locs → lv_has ls 7 [(0, .ref a0), (1, .int x1), (2, .int x2), (3, .int x3), (4, .int x4), (5, .int x5), (6, .int x6)] → pX10_compares_l6 n k M a0 x1 x2 x3 x4 x5 x6 = some o → W p l e (mm_rm 3 65 0 0) s m args below meth c H locs 0 0 (MQ below (mm_Q D dA lo (some (.int o.1)) o.2) args s 0 0 (mm_fr lo)) (F0 m 6 ls []) := by
  induction k with
  | zero =>
    intro M a0 x1 x2 x3 x4 x5 x6 H locs ls I hl h
    have h : (none : Option (Int32 × mm_M)) = some o := h
    cases h
  | succ k ih =>
    intro M a0 x1 x2 x3 x4 x5 x6 H locs ls I hl h
    have h : pX10_compares_l6b n (pX10_compares_l6 n k) M a0 x1 x2 x3 x4 x5 x6 = some o := h
    unfold pX10_compares_l6b at h
    refine lv_iload X.1 X.2.1 dX10_compares_6 (lv_at hl 6 rfl) ?_
    refine lv_bipush (v := 20) X.1 X.2.1 dX10_compares_8 (by decide) ?_
    refine mm_kgt (tgt := 46) X dX10_compares_10 (by decide) h (fun h => ?_) (fun h => ?_)
    · refine lv_iconst (v := 0) X.1 X.2.1 dX10_compares_46 (by decide) ?_
      refine lv_istore (lv' := [(6, .int 0), (0, .ref a0), (1, .int x1), (2, .int x2), (3, .int x3), (4, .int x4), (5, .int x5)]) X.1 X.2.1 dX10_compares_47 hl (by decide) rfl (fun ls hl => ?_)
      exact wpX10_compares_l49 X hr hlk n  n M _ _ _ _ _ _ _ _ _ _ I (lv_sub hl [1, 2, 3, 4, 5, 6, 0] rfl) h
    · refine lv_iload X.1 X.2.1 dX10_compares_13 (lv_at hl 5 rfl) ?_
      refine mm_jne (tgt := 46) X dX10_compares_15 (by decide) h (fun h => ?_) (fun h => ?_)
      · refine lv_iconst (v := 0) X.1 X.2.1 dX10_compares_46 (by decide) ?_
        refine lv_istore (lv' := [(6, .int 0), (0, .ref a0), (1, .int x1), (2, .int x2), (3, .int x3), (4, .int x4), (5, .int x5)]) X.1 X.2.1 dX10_compares_47 hl (by decide) rfl (fun ls hl => ?_)
        exact wpX10_compares_l49 X hr hlk n  n M _ _ _ _ _ _ _ _ _ _ I (lv_sub hl [1, 2, 3, 4, 5, 6, 0] rfl) h
      · refine lv_aload_n X.1 X.2.1 dX10_compares_18 rfl (lv_at hl 0 rfl) ?_
        refine lv_iload_n X.1 X.2.1 dX10_compares_19 rfl (lv_at hl 1 rfl) ?_
        refine lv_iload_n X.1 X.2.1 dX10_compares_20 rfl (lv_at hl 2 rfl) ?_
        refine lv_iload X.1 X.2.1 dX10_compares_21 (lv_at hl 6 rfl) ?_
        refine mm_cVi X I hl (As := [.int x1, .int x2, .int x6]) (ci := 10) md_X10_following mv_X10_following ml_X10_180 rfl (kX10_following (n := n)) (by decide) ⟨Nat.le_refl 0, Nat.le_refl 0⟩ rfl rfl (Nat.le_of_ble_eq_true rfl) dX10_compares_23 h (fun v1 M H locs I h => ?_)
        refine lv_aload_n X.1 X.2.1 dX10_compares_26 rfl (lv_at hl 0 rfl) ?_
        refine lv_iload_n X.1 X.2.1 dX10_compares_27 rfl (lv_at hl 3 rfl) ?_
        refine lv_iload X.1 X.2.1 dX10_compares_28 (lv_at hl 4 rfl) ?_
        refine lv_iload X.1 X.2.1 dX10_compares_30 (lv_at hl 6 rfl) ?_
        refine mm_cVi X I hl (As := [.int x3, .int x4, .int x6]) (ci := 10) md_X10_following mv_X10_following ml_X10_180 rfl (kX10_following (n := n)) (by decide) ⟨Nat.le_refl 0, Nat.le_refl 0⟩ rfl rfl (Nat.le_of_ble_eq_true rfl) dX10_compares_32 h (fun v2 M H locs I h => ?_)
        refine mm_cSi X I hl (As := [.int v1, .int v2]) md_X10_order mv_X10_order ml_X10_184 (kX10_order (n := n)) (by decide) ⟨Nat.le_refl 0, Nat.le_refl 0⟩ rfl rfl (Nat.le_of_ble_eq_true rfl) dX10_compares_35 h (fun v3 M H locs I h => ?_)
        refine lv_istore (lv' := [(5, .int v3), (0, .ref a0), (1, .int x1), (2, .int x2), (3, .int x3), (4, .int x4), (6, .int x6)]) X.1 X.2.1 dX10_compares_38 hl (by decide) rfl (fun ls hl => ?_)
        refine lv_iinc (v := (x6 + 1)) (lv' := [(6, .int (x6 + 1)), (5, .int v3), (0, .ref a0), (1, .int x1), (2, .int x2), (3, .int x3), (4, .int x4)]) X.1 X.2.1 dX10_compares_40 hl (k := 6) rfl rfl (by decide) rfl (fun ls hl => ?_)
        refine lv_goto (tgt := 6) X.1 X.2.1 dX10_compares_43 (by decide) ?_
        exact ih M _ _ _ _ _ _ _ _ _ _ I (lv_sub hl [2, 3, 4, 5, 6, 1, 0] rfl) h
set_option maxHeartbeats 4000000 in
set_option maxRecDepth 100000 in
theorem kX10_compares {l : Launch} {D : va_G} {dA : Nat → ClassId} {lo : Nat} {n : Nat} {M : mm_M} {a0 : Nat} {x1 : Int32} {x2 : Int32} {x3 : Int32} {x4 : Int32} (o : Int32 × mm_M) (h : pX10_compares n M a0 x1 x2 x3 x4 = some o) : (∃ fs, M.2 a0 = some (mm_ob 10 fs)) ∧ mm_Met l D dA lo yX10_compares cX10_compares 7 (some .int) 3 65 0 0 [.ref a0, .int x1, .int x2, .int x3, .int x4] M (some (.int o.1)) o.2 := by
  unfold pX10_compares at h
  obtain ⟨hob, h⟩ := mm_v_some h
  refine ⟨hob, mm_enter (by decide) (Nat.le_of_ble_eq_true rfl) (fun p e s m args below meth c ls X hr hlk hnm I hl => ?_)⟩
  have X : mm_C D dA lo cX10_compares RX10 7 p s m args c := X
  have hl : lv_has ls 7 [(0, .ref a0), (1, .int x1), (2, .int x2), (3, .int x3), (4, .int x4)] := hl
  refine lv_iconst (v := 0) X.1 X.2.1 dX10_compares_0 (by decide) ?_
  refine lv_istore (lv' := [(5, .int 0), (0, .ref a0), (1, .int x1), (2, .int x2), (3, .int x3), (4, .int x4)]) X.1 X.2.1 dX10_compares_1 hl (by decide) rfl (fun ls hl => ?_)
  refine lv_iconst (v := 0) X.1 X.2.1 dX10_compares_3 (by decide) ?_
  refine lv_istore (lv' := [(6, .int 0), (5, .int 0), (0, .ref a0), (1, .int x1), (2, .int x2), (3, .int x3), (4, .int x4)]) X.1 X.2.1 dX10_compares_4 hl (by decide) rfl (fun ls hl => ?_)
  exact wpX10_compares_l6 X hr hlk n  n M _ _ _ _ _ _ _ _ _ _ I (lv_sub hl [2, 3, 4, 5, 6, 1, 0] rfl) h
set_option maxHeartbeats 4000000 in
set_option maxRecDepth 100000 in
theorem wpX10_takesHit_b68 {p : Program} {l : Launch} {e : Env} {s : State} {m : MethodId} {args : Array Value} {below : List Frame} {meth : Method} {c : Code} {D : va_G} {dA : Nat → ClassId} {lo : Nat} (X : mm_C D dA lo cX10_takesHit RX10 4 p s m args c) (hr : meth.sig.returnType = none) (hlk : meth.locks = false) (n : Nat) {o : mm_M}  : ∀ (M : mm_M) (a0 : Nat) (x1 : Int32) (x2 : Int32) (x3 : Int32) (H : Heap) (locs : List Loc) (ls : Array Slot), mm_I D dA lo s M H locs → lv_has ls 4 [(0, .ref a0), (1, .int x1), (2, .int x2), (3, .int x3)] → pX10_takesHit_b68 n M a0 x1 x2 x3 = some o → W p l e (mm_rm 4 91 0 0) s m args below meth c H locs 0 0 (MQ below (mm_Q D dA lo none o) args s 0 0 (mm_fr lo)) (F0 m 68 ls []) := by
  intro M a0 x1 x2 x3 H locs ls I hl h
  unfold pX10_takesHit_b68 at h
  refine lv_aload_n X.1 X.2.1 dX10_takesHit_68 rfl (lv_at hl 0 rfl) ?_
  refine mm_rgr X I fl_X10_37 dX10_takesHit_69 h (fun v1 h => ?_)
  refine lv_iload_n X.1 X.2.1 dX10_takesHit_72 rfl (lv_at hl 3 rfl) ?_
  refine lv_iload_n X.1 X.2.1 dX10_takesHit_73 rfl (lv_at hl 1 rfl) ?_
  refine mm_ris X I dX10_takesHit_74 h (fun M H locs I h => ?_)
  refine lv_aload_n X.1 X.2.1 dX10_takesHit_75 rfl (lv_at hl 0 rfl) ?_
  refine mm_rgr X I fl_X10_40 dX10_takesHit_76 h (fun v2 h => ?_)
  refine lv_iload_n X.1 X.2.1 dX10_takesHit_79 rfl (lv_at hl 3 rfl) ?_
  refine lv_iload_n X.1 X.2.1 dX10_takesHit_80 rfl (lv_at hl 2 rfl) ?_
  refine mm_ris X I dX10_takesHit_81 h (fun M H locs I h => ?_)
  refine lv_aload_n X.1 X.2.1 dX10_takesHit_82 rfl (lv_at hl 0 rfl) ?_
  refine lv_dup X.1 X.2.1 dX10_takesHit_83 rfl ?_
  refine mm_rgi X I fl_X10_170 dX10_takesHit_84 h (fun v3 h => ?_)
  refine lv_iconst (v := 1) X.1 X.2.1 dX10_takesHit_87 (by decide) ?_
  refine lv_iadd X.1 X.2.1 dX10_takesHit_88 ?_
  refine mm_rpi X I fl_X10_170 dX10_takesHit_89 h (fun M H locs I h => ?_)
  exact mm_xv X I hr hlk dX10_takesHit_92 h
set_option maxHeartbeats 4000000 in
set_option maxRecDepth 100000 in
theorem wpX10_takesHit_l5 {p : Program} {l : Launch} {e : Env} {s : State} {m : MethodId} {args : Array Value} {below : List Frame} {meth : Method} {c : Code} {D : va_G} {dA : Nat → ClassId} {lo : Nat} (X : mm_C D dA lo cX10_takesHit RX10 4 p s m args c) (hr : meth.sig.returnType = none) (hlk : meth.locks = false) (n : Nat) {o : mm_M} (k : Nat) : ∀ (M : mm_M) (a0 : Nat) (x1 : Int32) (x2 : Int32) (x3 : Int32) (H : Heap) (locs : List Loc) (ls : Array Slot), mm_I D dA lo s M H locs → lv_has ls 4 [(0, .ref a0), (1, .int x1), (2, .int x2), (3, .int x3)] → pX10_takesHit_l5 n k M a0 x1 x2 x3 = some o → W p l e (mm_rm 4 91 0 0) s m args below meth c H locs 0 0 (MQ below (mm_Q D dA lo none o) args s 0 0 (mm_fr lo)) (F0 m 5 ls []) := by
  induction k with
  | zero =>
    intro M a0 x1 x2 x3 H locs ls I hl h
    have h : (none : Option (mm_M)) = some o := h
    cases h
  | succ k ih =>
    intro M a0 x1 x2 x3 H locs ls I hl h
    have h : pX10_takesHit_l5b n (pX10_takesHit_l5 n k) M a0 x1 x2 x3 = some o := h
    unfold pX10_takesHit_l5b at h
    refine lv_iload_n X.1 X.2.1 dX10_takesHit_5 rfl (lv_at hl 3 rfl) ?_
    refine mm_jle (tgt := 68) X dX10_takesHit_6 (by decide) h (fun h => ?_) (fun h => ?_)
    · exact wpX10_takesHit_b68 X hr hlk n  M _ _ _ _ _ _ _ I (lv_sub hl [0, 1, 2, 3] rfl) h
    · refine lv_aload_n X.1 X.2.1 dX10_takesHit_9 rfl (lv_at hl 0 rfl) ?_
      refine lv_iload_n X.1 X.2.1 dX10_takesHit_10 rfl (lv_at hl 1 rfl) ?_
      refine lv_iload_n X.1 X.2.1 dX10_takesHit_11 rfl (lv_at hl 2 rfl) ?_
      refine lv_aload_n X.1 X.2.1 dX10_takesHit_12 rfl (lv_at hl 0 rfl) ?_
      refine mm_rgr X I fl_X10_37 dX10_takesHit_13 h (fun v1 h => ?_)
      refine lv_iload_n X.1 X.2.1 dX10_takesHit_16 rfl (lv_at hl 3 rfl) ?_
      refine lv_iconst (v := 1) X.1 X.2.1 dX10_takesHit_17 (by decide) ?_
      refine lv_isub X.1 X.2.1 dX10_takesHit_18 ?_
      refine mm_ria X I dX10_takesHit_19 h (fun v2 h => ?_)
      refine lv_aload_n X.1 X.2.1 dX10_takesHit_20 rfl (lv_at hl 0 rfl) ?_
      refine mm_rgr X I fl_X10_40 dX10_takesHit_21 h (fun v3 h => ?_)
      refine lv_iload_n X.1 X.2.1 dX10_takesHit_24 rfl (lv_at hl 3 rfl) ?_
      refine lv_iconst (v := 1) X.1 X.2.1 dX10_takesHit_25 (by decide) ?_
      refine lv_isub X.1 X.2.1 dX10_takesHit_26 ?_
      refine mm_ria X I dX10_takesHit_27 h (fun v4 h => ?_)
      refine mm_cVi X I hl (As := [.int x1, .int x2, .int v2, .int v4]) (ci := 10) md_X10_compares mv_X10_compares ml_X10_193 rfl (kX10_compares (n := n)) (by decide) ⟨Nat.le_refl 0, Nat.le_refl 0⟩ rfl rfl (Nat.le_of_ble_eq_true rfl) dX10_takesHit_28 h (fun v5 M H locs I h => ?_)
      refine mm_jge (tgt := 68) X dX10_takesHit_31 (by decide) h (fun h => ?_) (fun h => ?_)
      · exact wpX10_takesHit_b68 X hr hlk n  M _ _ _ _ _ _ _ I (lv_sub hl [0, 1, 2, 3] rfl) h
      · refine lv_aload_n X.1 X.2.1 dX10_takesHit_34 rfl (lv_at hl 0 rfl) ?_
        refine mm_rgr X I fl_X10_37 dX10_takesHit_35 h (fun v6 h => ?_)
        refine lv_iload_n X.1 X.2.1 dX10_takesHit_38 rfl (lv_at hl 3 rfl) ?_
        refine lv_aload_n X.1 X.2.1 dX10_takesHit_39 rfl (lv_at hl 0 rfl) ?_
        refine mm_rgr X I fl_X10_37 dX10_takesHit_40 h (fun v7 h => ?_)
        refine lv_iload_n X.1 X.2.1 dX10_takesHit_43 rfl (lv_at hl 3 rfl) ?_
        refine lv_iconst (v := 1) X.1 X.2.1 dX10_takesHit_44 (by decide) ?_
        refine lv_isub X.1 X.2.1 dX10_takesHit_45 ?_
        refine mm_ria X I dX10_takesHit_46 h (fun v8 h => ?_)
        refine mm_ris X I dX10_takesHit_47 h (fun M H locs I h => ?_)
        refine lv_aload_n X.1 X.2.1 dX10_takesHit_48 rfl (lv_at hl 0 rfl) ?_
        refine mm_rgr X I fl_X10_40 dX10_takesHit_49 h (fun v9 h => ?_)
        refine lv_iload_n X.1 X.2.1 dX10_takesHit_52 rfl (lv_at hl 3 rfl) ?_
        refine lv_aload_n X.1 X.2.1 dX10_takesHit_53 rfl (lv_at hl 0 rfl) ?_
        refine mm_rgr X I fl_X10_40 dX10_takesHit_54 h (fun v10 h => ?_)
        refine lv_iload_n X.1 X.2.1 dX10_takesHit_57 rfl (lv_at hl 3 rfl) ?_
        refine lv_iconst (v := 1) X.1 X.2.1 dX10_takesHit_58 (by decide) ?_
        refine lv_isub X.1 X.2.1 dX10_takesHit_59 ?_
        refine mm_ria X I dX10_takesHit_60 h (fun v11 h => ?_)
        refine mm_ris X I dX10_takesHit_61 h (fun M H locs I h => ?_)
        refine lv_iinc (v := (x3 + (-1))) (lv' := [(3, .int (x3 + (-1))), (0, .ref a0), (1, .int x1), (2, .int x2)]) X.1 X.2.1 dX10_takesHit_62 hl (k := 3) rfl rfl (by decide) rfl (fun ls hl => ?_)
        refine lv_goto (tgt := 5) X.1 X.2.1 dX10_takesHit_65 (by decide) ?_
        exact ih M _ _ _ _ _ _ _ I (lv_sub hl [1, 2, 3, 0] rfl) h
set_option maxHeartbeats 4000000 in
set_option maxRecDepth 100000 in
theorem kX10_takesHit {l : Launch} {D : va_G} {dA : Nat → ClassId} {lo : Nat} {n : Nat} {M : mm_M} {a0 : Nat} {x1 : Int32} {x2 : Int32} (o : mm_M) (h : pX10_takesHit n M a0 x1 x2 = some o) : (∃ fs, M.2 a0 = some (mm_ob 10 fs)) ∧ mm_Met l D dA lo yX10_takesHit cX10_takesHit 4 none 4 91 0 0 [.ref a0, .int x1, .int x2] M none o := by
  unfold pX10_takesHit at h
  obtain ⟨hob, h⟩ := mm_v_some h
  refine ⟨hob, mm_enter (by decide) (Nat.le_of_ble_eq_true rfl) (fun p e s m args below meth c ls X hr hlk hnm I hl => ?_)⟩
  have X : mm_C D dA lo cX10_takesHit RX10 4 p s m args c := X
  have hl : lv_has ls 4 [(0, .ref a0), (1, .int x1), (2, .int x2)] := hl
  refine lv_aload_n X.1 X.2.1 dX10_takesHit_0 rfl (lv_at hl 0 rfl) ?_
  refine mm_rgi X I fl_X10_170 dX10_takesHit_1 h (fun v1 h => ?_)
  refine lv_istore_n (lv' := [(3, .int v1), (0, .ref a0), (1, .int x1), (2, .int x2)]) X.1 X.2.1 dX10_takesHit_4 rfl hl (by decide) rfl (fun ls hl => ?_)
  exact wpX10_takesHit_l5 X hr hlk n  n M _ _ _ _ _ _ _ I (lv_sub hl [1, 2, 3, 0] rfl) h
set_option maxHeartbeats 4000000 in
set_option maxRecDepth 100000 in
theorem wpX10_laysHits_l27 {p : Program} {l : Launch} {e : Env} {s : State} {m : MethodId} {args : Array Value} {below : List Frame} {meth : Method} {c : Code} {D : va_G} {dA : Nat → ClassId} {lo : Nat} (X : mm_C D dA lo cX10_laysHits RX10 6 p s m args c) (hr : meth.sig.returnType = none) (hlk : meth.locks = false) (n : Nat) {o : mm_M} {K13 : mm_M → Nat → Nat → Int32 → Int32 → Int32 → Option (mm_M)} (k13 : ∀ (M : mm_M) (a0 : Nat) (a1 : Nat) (x2 : Int32) (x3 : Int32) (x4 : Int32) (H : Heap) (locs : List Loc) (ls : Array Slot), mm_I D dA lo s M H locs → lv_has ls 6 [(0, .ref a0), (1, .ref a1), (2, .int x2), (3, .int x3), (4, .int x4)] → K13 M a0 a1 x2 x3 x4 = some o → W p l e (mm_rm 5 114 0 0) s m args below meth c H locs 0 0 (MQ below (mm_Q D dA lo none o) args s 0 0 (mm_fr lo)) (F0 m 13 ls [])) (k : Nat) : ∀ (M : mm_M) (a0 : Nat) (a1 : Nat) (x2 : Int32) (x3 : Int32) (x4 : Int32) (x5 : Int32) (H : Heap) (locs : List Loc) (ls : Array Slot), mm_I D dA lo s M H locs → lv_has ls 6 [(0, .ref a0), (1, .ref a1), (2, .int x2), (3, .int x3), (4, .int x4), (5, .int x5)] → pX10_laysHits_l27 n K13 k M a0 a1 x2 x3 x4 x5 = some o → W p l e (mm_rm 5 114 0 0) s m args below meth c H locs 0 0 (MQ below (mm_Q D dA lo none o) args s 0 0 (mm_fr lo)) (F0 m 27 ls []) := by
  induction k with
  | zero =>
    intro M a0 a1 x2 x3 x4 x5 H locs ls I hl h
    have h : (none : Option (mm_M)) = some o := h
    cases h
  | succ k ih =>
    intro M a0 a1 x2 x3 x4 x5 H locs ls I hl h
    have h : pX10_laysHits_l27b n K13 (pX10_laysHits_l27 n K13 k) M a0 a1 x2 x3 x4 x5 = some o := h
    unfold pX10_laysHits_l27b at h
    refine lv_iload X.1 X.2.1 dX10_laysHits_27 (lv_at hl 5 rfl) ?_
    refine lv_aload_n X.1 X.2.1 dX10_laysHits_29 rfl (lv_at hl 0 rfl) ?_
    refine lv_iload X.1 X.2.1 dX10_laysHits_30 (lv_at hl 4 rfl) ?_
    refine mm_cVi X I hl (As := [.int x4]) (ci := 10) md_X10_longOf mv_X10_longOf ml_X10_136 rfl (kX10_longOf (n := n)) (by decide) ⟨Nat.le_refl 0, Nat.le_refl 0⟩ rfl rfl (Nat.le_of_ble_eq_true rfl) dX10_laysHits_32 h (fun v1 M H locs I h => ?_)
    refine mm_kge (tgt := 66) X dX10_laysHits_35 (by decide) h (fun h => ?_) (fun h => ?_)
    · refine lv_iinc (v := (x4 + 1)) (lv' := [(4, .int (x4 + 1)), (0, .ref a0), (1, .ref a1), (2, .int x2), (3, .int x3), (5, .int x5)]) X.1 X.2.1 dX10_laysHits_66 hl (k := 4) rfl rfl (by decide) rfl (fun ls hl => ?_)
      refine lv_goto (tgt := 13) X.1 X.2.1 dX10_laysHits_69 (by decide) ?_
      exact k13 M _ _ _ _ _ _ _ _ I (lv_sub hl [1, 2, 3, 4, 0] rfl) h
    · refine lv_aload_n X.1 X.2.1 dX10_laysHits_38 rfl (lv_at hl 0 rfl) ?_
      refine lv_aload_n X.1 X.2.1 dX10_laysHits_39 rfl (lv_at hl 1 rfl) ?_
      refine lv_iload_n X.1 X.2.1 dX10_laysHits_40 rfl (lv_at hl 2 rfl) ?_
      refine lv_iload_n X.1 X.2.1 dX10_laysHits_41 rfl (lv_at hl 3 rfl) ?_
      refine lv_iload X.1 X.2.1 dX10_laysHits_42 (lv_at hl 4 rfl) ?_
      refine lv_iload X.1 X.2.1 dX10_laysHits_44 (lv_at hl 5 rfl) ?_
      refine mm_cVi X I hl (As := [.ref a1, .int x2, .int x3, .int x4, .int x5]) (ci := 10) md_X10_stands mv_X10_stands ml_X10_197 rfl (kX10_stands (n := n)) (by decide) ⟨Nat.le_refl 0, Nat.le_refl 0⟩ rfl rfl (Nat.le_of_ble_eq_true rfl) dX10_laysHits_46 h (fun v2 M H locs I h => ?_)
      refine mm_jeq (tgt := 60) X dX10_laysHits_49 (by decide) h (fun h => ?_) (fun h => ?_)
      · refine lv_iinc (v := (x5 + 1)) (lv' := [(5, .int (x5 + 1)), (0, .ref a0), (1, .ref a1), (2, .int x2), (3, .int x3), (4, .int x4)]) X.1 X.2.1 dX10_laysHits_60 hl (k := 5) rfl rfl (by decide) rfl (fun ls hl => ?_)
        refine lv_goto (tgt := 27) X.1 X.2.1 dX10_laysHits_63 (by decide) ?_
        exact ih M _ _ _ _ _ _ _ _ _ I (lv_sub hl [1, 2, 3, 4, 5, 0] rfl) h
      · refine lv_aload_n X.1 X.2.1 dX10_laysHits_52 rfl (lv_at hl 0 rfl) ?_
        refine lv_iload X.1 X.2.1 dX10_laysHits_53 (lv_at hl 4 rfl) ?_
        refine lv_iload X.1 X.2.1 dX10_laysHits_55 (lv_at hl 5 rfl) ?_
        refine mm_cVv X I hl (As := [.int x4, .int x5]) (ci := 10) md_X10_takesHit mv_X10_takesHit ml_X10_201 rfl (kX10_takesHit (n := n)) (by decide) ⟨Nat.le_refl 0, Nat.le_refl 0⟩ rfl rfl (Nat.le_of_ble_eq_true rfl) dX10_laysHits_57 h (fun M H locs I h => ?_)
        refine lv_iinc (v := (x5 + 1)) (lv' := [(5, .int (x5 + 1)), (0, .ref a0), (1, .ref a1), (2, .int x2), (3, .int x3), (4, .int x4)]) X.1 X.2.1 dX10_laysHits_60 hl (k := 5) rfl rfl (by decide) rfl (fun ls hl => ?_)
        refine lv_goto (tgt := 27) X.1 X.2.1 dX10_laysHits_63 (by decide) ?_
        exact ih M _ _ _ _ _ _ _ _ _ I (lv_sub hl [1, 2, 3, 4, 5, 0] rfl) h
set_option maxHeartbeats 4000000 in
set_option maxRecDepth 100000 in
theorem wpX10_laysHits_l13 {p : Program} {l : Launch} {e : Env} {s : State} {m : MethodId} {args : Array Value} {below : List Frame} {meth : Method} {c : Code} {D : va_G} {dA : Nat → ClassId} {lo : Nat} (X : mm_C D dA lo cX10_laysHits RX10 6 p s m args c) (hr : meth.sig.returnType = none) (hlk : meth.locks = false) (n : Nat) {o : mm_M} (k : Nat) : ∀ (M : mm_M) (a0 : Nat) (a1 : Nat) (x2 : Int32) (x3 : Int32) (x4 : Int32) (H : Heap) (locs : List Loc) (ls : Array Slot), mm_I D dA lo s M H locs → lv_has ls 6 [(0, .ref a0), (1, .ref a1), (2, .int x2), (3, .int x3), (4, .int x4)] → pX10_laysHits_l13 n k M a0 a1 x2 x3 x4 = some o → W p l e (mm_rm 5 114 0 0) s m args below meth c H locs 0 0 (MQ below (mm_Q D dA lo none o) args s 0 0 (mm_fr lo)) (F0 m 13 ls []) := by
  induction k with
  | zero =>
    intro M a0 a1 x2 x3 x4 H locs ls I hl h
    have h : (none : Option (mm_M)) = some o := h
    cases h
  | succ k ih =>
    intro M a0 a1 x2 x3 x4 H locs ls I hl h
    have h : pX10_laysHits_l13b n (pX10_laysHits_l13 n k) M a0 a1 x2 x3 x4 = some o := h
    unfold pX10_laysHits_l13b at h
    refine lv_iload X.1 X.2.1 dX10_laysHits_13 (lv_at hl 4 rfl) ?_
    refine lv_aload_n X.1 X.2.1 dX10_laysHits_15 rfl (lv_at hl 0 rfl) ?_
    refine mm_rgr X I fl_X10_28 dX10_laysHits_16 h (fun v1 h => ?_)
    refine lv_iconst (v := 0) X.1 X.2.1 dX10_laysHits_19 (by decide) ?_
    refine mm_ria X I dX10_laysHits_20 h (fun v2 h => ?_)
    refine mm_kge (tgt := 72) X dX10_laysHits_21 (by decide) h (fun h => ?_) (fun h => ?_)
    · exact mm_xv X I hr hlk dX10_laysHits_72 h
    · refine lv_iconst (v := 0) X.1 X.2.1 dX10_laysHits_24 (by decide) ?_
      refine lv_istore (lv' := [(5, .int 0), (0, .ref a0), (1, .ref a1), (2, .int x2), (3, .int x3), (4, .int x4)]) X.1 X.2.1 dX10_laysHits_25 hl (by decide) rfl (fun ls hl => ?_)
      exact wpX10_laysHits_l27 X hr hlk n ih n M _ _ _ _ _ _ _ _ _ I (lv_sub hl [1, 2, 3, 4, 5, 0] rfl) h
set_option maxHeartbeats 4000000 in
set_option maxRecDepth 100000 in
theorem kX10_laysHits {l : Launch} {D : va_G} {dA : Nat → ClassId} {lo : Nat} {n : Nat} {M : mm_M} {a0 : Nat} {a1 : Nat} {x2 : Int32} {x3 : Int32} (o : mm_M) (h : pX10_laysHits n M a0 a1 x2 x3 = some o) : (∃ fs, M.2 a0 = some (mm_ob 10 fs)) ∧ mm_Met l D dA lo yX10_laysHits cX10_laysHits 6 none 5 114 0 0 [.ref a0, .ref a1, .int x2, .int x3] M none o := by
  unfold pX10_laysHits at h
  obtain ⟨hob, h⟩ := mm_v_some h
  refine ⟨hob, mm_enter (by decide) (Nat.le_of_ble_eq_true rfl) (fun p e s m args below meth c ls X hr hlk hnm I hl => ?_)⟩
  have X : mm_C D dA lo cX10_laysHits RX10 6 p s m args c := X
  have hl : lv_has ls 6 [(0, .ref a0), (1, .ref a1), (2, .int x2), (3, .int x3)] := hl
  refine lv_aload_n X.1 X.2.1 dX10_laysHits_0 rfl (lv_at hl 0 rfl) ?_
  refine lv_iconst (v := 0) X.1 X.2.1 dX10_laysHits_1 (by decide) ?_
  refine mm_rpi X I fl_X10_170 dX10_laysHits_2 h (fun M H locs I h => ?_)
  refine lv_aload_n X.1 X.2.1 dX10_laysHits_5 rfl (lv_at hl 0 rfl) ?_
  refine lv_iload_n X.1 X.2.1 dX10_laysHits_6 rfl (lv_at hl 3 rfl) ?_
  refine mm_rpi X I fl_X10_173 dX10_laysHits_7 h (fun M H locs I h => ?_)
  refine lv_iconst (v := 0) X.1 X.2.1 dX10_laysHits_10 (by decide) ?_
  refine lv_istore (lv' := [(4, .int 0), (0, .ref a0), (1, .ref a1), (2, .int x2), (3, .int x3)]) X.1 X.2.1 dX10_laysHits_11 hl (by decide) rfl (fun ls hl => ?_)
  exact wpX10_laysHits_l13 X hr hlk n  n M _ _ _ _ _ _ _ _ I (lv_sub hl [1, 2, 3, 4, 0] rfl) h
set_option maxHeartbeats 4000000 in
set_option maxRecDepth 100000 in
theorem wpX10_word_b70 {p : Program} {l : Launch} {e : Env} {s : State} {m : MethodId} {args : Array Value} {below : List Frame} {meth : Method} {c : Code} {D : va_G} {dA : Nat → ClassId} {lo : Nat} (X : mm_C D dA lo cX10_word RX10 2 p s m args c) (hr : meth.sig.returnType = (some .int)) (hlk : meth.locks = false) (n : Nat) {o : Int32 × mm_M}  : ∀ (M : mm_M) (a0 : Nat) (H : Heap) (locs : List Loc) (ls : Array Slot), mm_I D dA lo s M H locs → lv_has ls 2 [(0, .ref a0)] → pX10_word_b70 n M a0 = some o → W p l e (mm_rm 6 139 0 0) s m args below meth c H locs 0 0 (MQ below (mm_Q D dA lo (some (.int o.1)) o.2) args s 0 0 (mm_fr lo)) (F0 m 70 ls []) := by
  intro M a0 H locs ls I hl h
  unfold pX10_word_b70 at h
  refine lv_aload_n X.1 X.2.1 dX10_word_70 rfl (lv_at hl 0 rfl) ?_
  refine lv_aload_n X.1 X.2.1 dX10_word_71 rfl (lv_at hl 0 rfl) ?_
  refine mm_rgr X I fl_X10_34 dX10_word_72 h (fun v1 h => ?_)
  refine lv_iconst (v := 0) X.1 X.2.1 dX10_word_75 (by decide) ?_
  refine lv_aload_n X.1 X.2.1 dX10_word_76 rfl (lv_at hl 0 rfl) ?_
  refine mm_rgi X I fl_X10_150 dX10_word_77 h (fun v2 h => ?_)
  refine mm_cVv X I hl (As := [.ref v1, .int 0, .int v2]) (ci := 10) md_X10_laysHits mv_X10_laysHits ml_X10_166 rfl (kX10_laysHits (n := n)) (by decide) ⟨Nat.le_refl 0, Nat.le_refl 0⟩ rfl rfl (Nat.le_of_ble_eq_true rfl) dX10_word_80 h (fun M H locs I h => ?_)
  refine lv_aload_n X.1 X.2.1 dX10_word_83 rfl (lv_at hl 0 rfl) ?_
  refine mm_rgi X I fl_X10_170 dX10_word_84 h (fun v4 h => ?_)
  exact mm_xi X I hr hlk dX10_word_87 h
set_option maxHeartbeats 4000000 in
set_option maxRecDepth 100000 in
theorem wpX10_word_l34 {p : Program} {l : Launch} {e : Env} {s : State} {m : MethodId} {args : Array Value} {below : List Frame} {meth : Method} {c : Code} {D : va_G} {dA : Nat → ClassId} {lo : Nat} (X : mm_C D dA lo cX10_word RX10 2 p s m args c) (hr : meth.sig.returnType = (some .int)) (hlk : meth.locks = false) (n : Nat) {o : Int32 × mm_M} (k : Nat) : ∀ (M : mm_M) (a0 : Nat) (x1 : Int32) (H : Heap) (locs : List Loc) (ls : Array Slot), mm_I D dA lo s M H locs → lv_has ls 2 [(0, .ref a0), (1, .int x1)] → pX10_word_l34 n k M a0 x1 = some o → W p l e (mm_rm 6 139 0 0) s m args below meth c H locs 0 0 (MQ below (mm_Q D dA lo (some (.int o.1)) o.2) args s 0 0 (mm_fr lo)) (F0 m 34 ls []) := by
  induction k with
  | zero =>
    intro M a0 x1 H locs ls I hl h
    have h : (none : Option (Int32 × mm_M)) = some o := h
    cases h
  | succ k ih =>
    intro M a0 x1 H locs ls I hl h
    have h : pX10_word_l34b n (pX10_word_l34 n k) M a0 x1 = some o := h
    unfold pX10_word_l34b at h
    refine lv_iload_n X.1 X.2.1 dX10_word_34 rfl (lv_at hl 1 rfl) ?_
    refine lv_bipush (v := 6) X.1 X.2.1 dX10_word_35 (by decide) ?_
    refine mm_kge (tgt := 70) X dX10_word_37 (by decide) h (fun h => ?_) (fun h => ?_)
    · exact wpX10_word_b70 X hr hlk n  M _ _ _ _ I (lv_sub hl [0] rfl) h
    · refine lv_aload_n X.1 X.2.1 dX10_word_40 rfl (lv_at hl 0 rfl) ?_
      refine mm_rgr X I fl_X10_34 dX10_word_41 h (fun v1 h => ?_)
      refine lv_iload_n X.1 X.2.1 dX10_word_44 rfl (lv_at hl 1 rfl) ?_
      refine lv_iload_n X.1 X.2.1 dX10_word_45 rfl (lv_at hl 1 rfl) ?_
      refine lv_aload_n X.1 X.2.1 dX10_word_46 rfl (lv_at hl 0 rfl) ?_
      refine mm_rgi X I fl_X10_117 dX10_word_47 h (fun v2 h => ?_)
      refine mm_kge (tgt := 62) X dX10_word_50 (by decide) h (fun h => ?_) (fun h => ?_)
      · refine lv_iconst (v := 0) X.1 X.2.1 dX10_word_62 (by decide) ?_
        refine mm_ris X I dX10_word_63 h (fun M H locs I h => ?_)
        refine lv_iinc (v := (x1 + 1)) (lv' := [(1, .int (x1 + 1)), (0, .ref a0)]) X.1 X.2.1 dX10_word_64 hl (k := 1) rfl rfl (by decide) rfl (fun ls hl => ?_)
        refine lv_goto (tgt := 34) X.1 X.2.1 dX10_word_67 (by decide) ?_
        exact ih M _ _ _ _ _ I (lv_sub hl [1, 0] rfl) h
      · refine lv_aload_n X.1 X.2.1 dX10_word_53 rfl (lv_at hl 0 rfl) ?_
        refine mm_rgr X I fl_X10_25 dX10_word_54 h (fun v3 h => ?_)
        refine lv_iload_n X.1 X.2.1 dX10_word_57 rfl (lv_at hl 1 rfl) ?_
        refine mm_ria X I dX10_word_58 h (fun v4 h => ?_)
        refine lv_goto (tgt := 63) X.1 X.2.1 dX10_word_59 (by decide) ?_
        refine mm_ris X I dX10_word_63 h (fun M H locs I h => ?_)
        refine lv_iinc (v := (x1 + 1)) (lv' := [(1, .int (x1 + 1)), (0, .ref a0)]) X.1 X.2.1 dX10_word_64 hl (k := 1) rfl rfl (by decide) rfl (fun ls hl => ?_)
        refine lv_goto (tgt := 34) X.1 X.2.1 dX10_word_67 (by decide) ?_
        exact ih M _ _ _ _ _ I (lv_sub hl [1, 0] rfl) h
set_option maxHeartbeats 4000000 in
set_option maxRecDepth 100000 in
theorem kX10_word {l : Launch} {D : va_G} {dA : Nat → ClassId} {lo : Nat} {n : Nat} {M : mm_M} {a0 : Nat} (o : Int32 × mm_M) (h : pX10_word n M a0 = some o) : (∃ fs, M.2 a0 = some (mm_ob 10 fs)) ∧ mm_Met l D dA lo yX10_word cX10_word 2 (some .int) 6 139 0 0 [.ref a0] M (some (.int o.1)) o.2 := by
  unfold pX10_word at h
  obtain ⟨hob, h⟩ := mm_v_some h
  refine ⟨hob, mm_enter (by decide) (Nat.le_of_ble_eq_true rfl) (fun p e s m args below meth c ls X hr hlk hnm I hl => ?_)⟩
  have X : mm_C D dA lo cX10_word RX10 2 p s m args c := X
  have hl : lv_has ls 2 [(0, .ref a0)] := hl
  refine lv_aload_n X.1 X.2.1 dX10_word_0 rfl (lv_at hl 0 rfl) ?_
  refine mm_cVi X I hl (As := []) (ci := 10) md_X10_isStore mv_X10_isStore ml_X10_139 rfl (kX10_isStore (n := n)) (by decide) ⟨Nat.le_refl 0, Nat.le_refl 0⟩ rfl rfl (Nat.le_of_ble_eq_true rfl) dX10_word_1 h (fun v1 M H locs I h => ?_)
  refine mm_jeq (tgt := 17) X dX10_word_4 (by decide) h (fun h => ?_) (fun h => ?_)
  · refine lv_iconst (v := (-1)) X.1 X.2.1 dX10_word_17 (by decide) ?_
    exact mm_xi X I hr hlk dX10_word_18 h
  · refine lv_aload_n X.1 X.2.1 dX10_word_7 rfl (lv_at hl 0 rfl) ?_
    refine lv_bipush (v := 6) X.1 X.2.1 dX10_word_8 (by decide) ?_
    refine mm_cVi X I hl (As := [.int 6]) (ci := 10) md_X10_readAlone mv_X10_readAlone ml_X10_126 rfl (kX10_readAlone (n := n)) (by decide) ⟨Nat.le_refl 0, Nat.le_refl 0⟩ rfl rfl (Nat.le_of_ble_eq_true rfl) dX10_word_10 h (fun v2 M H locs I h => ?_)
    refine lv_iconst (v := (-1)) X.1 X.2.1 dX10_word_13 (by decide) ?_
    refine mm_keq (tgt := 19) X dX10_word_14 (by decide) h (fun h => ?_) (fun h => ?_)
    · refine lv_aload_n X.1 X.2.1 dX10_word_19 rfl (lv_at hl 0 rfl) ?_
      refine lv_iconst (v := 0) X.1 X.2.1 dX10_word_20 (by decide) ?_
      refine mm_rpi X I fl_X10_66 dX10_word_21 h (fun M H locs I h => ?_)
      refine lv_aload_n X.1 X.2.1 dX10_word_24 rfl (lv_at hl 0 rfl) ?_
      refine lv_aload_n X.1 X.2.1 dX10_word_25 rfl (lv_at hl 0 rfl) ?_
      refine mm_rgi X I fl_X10_117 dX10_word_26 h (fun v3 h => ?_)
      refine mm_rpi X I fl_X10_150 dX10_word_29 h (fun M H locs I h => ?_)
      refine lv_iconst (v := 0) X.1 X.2.1 dX10_word_32 (by decide) ?_
      refine lv_istore_n (lv' := [(1, .int 0), (0, .ref a0)]) X.1 X.2.1 dX10_word_33 rfl hl (by decide) rfl (fun ls hl => ?_)
      exact wpX10_word_l34 X hr hlk n  n M _ _ _ _ _ I (lv_sub hl [1, 0] rfl) h
    · refine lv_iconst (v := (-1)) X.1 X.2.1 dX10_word_17 (by decide) ?_
      exact mm_xi X I hr hlk dX10_word_18 h
set_option maxHeartbeats 4000000 in
set_option maxRecDepth 100000 in
theorem wpX10_countOf_l20 {p : Program} {l : Launch} {e : Env} {s : State} {m : MethodId} {args : Array Value} {below : List Frame} {meth : Method} {c : Code} {D : va_G} {dA : Nat → ClassId} {lo : Nat} (X : mm_C D dA lo cX10_countOf RX10 7 p s m args c) (hr : meth.sig.returnType = (some .int)) (hlk : meth.locks = false) (n : Nat) {o : Int32 × mm_M} {K6 : mm_M → Nat → Nat → Int32 → Int32 → Int32 → Int32 → Option (Int32 × mm_M)} (k6 : ∀ (M : mm_M) (a0 : Nat) (a1 : Nat) (x2 : Int32) (x3 : Int32) (x4 : Int32) (x5 : Int32) (H : Heap) (locs : List Loc) (ls : Array Slot), mm_I D dA lo s M H locs → lv_has ls 7 [(0, .ref a0), (1, .ref a1), (2, .int x2), (3, .int x3), (4, .int x4), (5, .int x5)] → K6 M a0 a1 x2 x3 x4 x5 = some o → W p l e (mm_rm 3 69 0 0) s m args below meth c H locs 0 0 (MQ below (mm_Q D dA lo (some (.int o.1)) o.2) args s 0 0 (mm_fr lo)) (F0 m 6 ls [])) (k : Nat) : ∀ (M : mm_M) (a0 : Nat) (a1 : Nat) (x2 : Int32) (x3 : Int32) (x4 : Int32) (x5 : Int32) (x6 : Int32) (H : Heap) (locs : List Loc) (ls : Array Slot), mm_I D dA lo s M H locs → lv_has ls 7 [(0, .ref a0), (1, .ref a1), (2, .int x2), (3, .int x3), (4, .int x4), (5, .int x5), (6, .int x6)] → pX10_countOf_l20 n K6 k M a0 a1 x2 x3 x4 x5 x6 = some o → W p l e (mm_rm 3 69 0 0) s m args below meth c H locs 0 0 (MQ below (mm_Q D dA lo (some (.int o.1)) o.2) args s 0 0 (mm_fr lo)) (F0 m 20 ls []) := by
  induction k with
  | zero =>
    intro M a0 a1 x2 x3 x4 x5 x6 H locs ls I hl h
    have h : (none : Option (Int32 × mm_M)) = some o := h
    cases h
  | succ k ih =>
    intro M a0 a1 x2 x3 x4 x5 x6 H locs ls I hl h
    have h : pX10_countOf_l20b n K6 (pX10_countOf_l20 n K6 k) M a0 a1 x2 x3 x4 x5 x6 = some o := h
    unfold pX10_countOf_l20b at h
    refine lv_iload X.1 X.2.1 dX10_countOf_20 (lv_at hl 6 rfl) ?_
    refine lv_aload_n X.1 X.2.1 dX10_countOf_22 rfl (lv_at hl 0 rfl) ?_
    refine lv_iload X.1 X.2.1 dX10_countOf_23 (lv_at hl 5 rfl) ?_
    refine mm_cVi X I hl (As := [.int x5]) (ci := 10) md_X10_longOf mv_X10_longOf ml_X10_136 rfl (kX10_longOf (n := n)) (by decide) ⟨Nat.le_refl 0, Nat.le_refl 0⟩ rfl rfl (Nat.le_of_ble_eq_true rfl) dX10_countOf_25 h (fun v1 M H locs I h => ?_)
    refine mm_kge (tgt := 61) X dX10_countOf_28 (by decide) h (fun h => ?_) (fun h => ?_)
    · refine lv_iinc (v := (x5 + 1)) (lv' := [(5, .int (x5 + 1)), (0, .ref a0), (1, .ref a1), (2, .int x2), (3, .int x3), (4, .int x4), (6, .int x6)]) X.1 X.2.1 dX10_countOf_61 hl (k := 5) rfl rfl (by decide) rfl (fun ls hl => ?_)
      refine lv_goto (tgt := 6) X.1 X.2.1 dX10_countOf_64 (by decide) ?_
      exact k6 M _ _ _ _ _ _ _ _ _ I (lv_sub hl [1, 2, 3, 4, 5, 0] rfl) h
    · refine lv_iload X.1 X.2.1 dX10_countOf_31 (lv_at hl 4 rfl) ?_
      refine lv_aload_n X.1 X.2.1 dX10_countOf_33 rfl (lv_at hl 0 rfl) ?_
      refine lv_aload_n X.1 X.2.1 dX10_countOf_34 rfl (lv_at hl 1 rfl) ?_
      refine lv_iload_n X.1 X.2.1 dX10_countOf_35 rfl (lv_at hl 2 rfl) ?_
      refine lv_iload_n X.1 X.2.1 dX10_countOf_36 rfl (lv_at hl 3 rfl) ?_
      refine lv_iload X.1 X.2.1 dX10_countOf_37 (lv_at hl 5 rfl) ?_
      refine lv_iload X.1 X.2.1 dX10_countOf_39 (lv_at hl 6 rfl) ?_
      refine mm_cVi X I hl (As := [.ref a1, .int x2, .int x3, .int x5, .int x6]) (ci := 10) md_X10_stands mv_X10_stands ml_X10_197 rfl (kX10_stands (n := n)) (by decide) ⟨Nat.le_refl 0, Nat.le_refl 0⟩ rfl rfl (Nat.le_of_ble_eq_true rfl) dX10_countOf_41 h (fun v2 M H locs I h => ?_)
      refine mm_jeq (tgt := 51) X dX10_countOf_44 (by decide) h (fun h => ?_) (fun h => ?_)
      · refine lv_iconst (v := 0) X.1 X.2.1 dX10_countOf_51 (by decide) ?_
        refine lv_iadd X.1 X.2.1 dX10_countOf_52 ?_
        refine lv_istore (lv' := [(4, .int (x4 + 0)), (0, .ref a0), (1, .ref a1), (2, .int x2), (3, .int x3), (5, .int x5), (6, .int x6)]) X.1 X.2.1 dX10_countOf_53 hl (by decide) rfl (fun ls hl => ?_)
        refine lv_iinc (v := (x6 + 1)) (lv' := [(6, .int (x6 + 1)), (4, .int (x4 + 0)), (0, .ref a0), (1, .ref a1), (2, .int x2), (3, .int x3), (5, .int x5)]) X.1 X.2.1 dX10_countOf_55 hl (k := 6) rfl rfl (by decide) rfl (fun ls hl => ?_)
        refine lv_goto (tgt := 20) X.1 X.2.1 dX10_countOf_58 (by decide) ?_
        exact ih M _ _ _ _ _ _ _ _ _ _ I (lv_sub hl [2, 3, 4, 5, 1, 6, 0] rfl) h
      · refine lv_iconst (v := 1) X.1 X.2.1 dX10_countOf_47 (by decide) ?_
        refine lv_goto (tgt := 52) X.1 X.2.1 dX10_countOf_48 (by decide) ?_
        refine lv_iadd X.1 X.2.1 dX10_countOf_52 ?_
        refine lv_istore (lv' := [(4, .int (x4 + 1)), (0, .ref a0), (1, .ref a1), (2, .int x2), (3, .int x3), (5, .int x5), (6, .int x6)]) X.1 X.2.1 dX10_countOf_53 hl (by decide) rfl (fun ls hl => ?_)
        refine lv_iinc (v := (x6 + 1)) (lv' := [(6, .int (x6 + 1)), (4, .int (x4 + 1)), (0, .ref a0), (1, .ref a1), (2, .int x2), (3, .int x3), (5, .int x5)]) X.1 X.2.1 dX10_countOf_55 hl (k := 6) rfl rfl (by decide) rfl (fun ls hl => ?_)
        refine lv_goto (tgt := 20) X.1 X.2.1 dX10_countOf_58 (by decide) ?_
        exact ih M _ _ _ _ _ _ _ _ _ _ I (lv_sub hl [2, 3, 4, 5, 1, 6, 0] rfl) h
set_option maxHeartbeats 4000000 in
set_option maxRecDepth 100000 in
theorem wpX10_countOf_l6 {p : Program} {l : Launch} {e : Env} {s : State} {m : MethodId} {args : Array Value} {below : List Frame} {meth : Method} {c : Code} {D : va_G} {dA : Nat → ClassId} {lo : Nat} (X : mm_C D dA lo cX10_countOf RX10 7 p s m args c) (hr : meth.sig.returnType = (some .int)) (hlk : meth.locks = false) (n : Nat) {o : Int32 × mm_M} (k : Nat) : ∀ (M : mm_M) (a0 : Nat) (a1 : Nat) (x2 : Int32) (x3 : Int32) (x4 : Int32) (x5 : Int32) (H : Heap) (locs : List Loc) (ls : Array Slot), mm_I D dA lo s M H locs → lv_has ls 7 [(0, .ref a0), (1, .ref a1), (2, .int x2), (3, .int x3), (4, .int x4), (5, .int x5)] → pX10_countOf_l6 n k M a0 a1 x2 x3 x4 x5 = some o → W p l e (mm_rm 3 69 0 0) s m args below meth c H locs 0 0 (MQ below (mm_Q D dA lo (some (.int o.1)) o.2) args s 0 0 (mm_fr lo)) (F0 m 6 ls []) := by
  induction k with
  | zero =>
    intro M a0 a1 x2 x3 x4 x5 H locs ls I hl h
    have h : (none : Option (Int32 × mm_M)) = some o := h
    cases h
  | succ k ih =>
    intro M a0 a1 x2 x3 x4 x5 H locs ls I hl h
    have h : pX10_countOf_l6b n (pX10_countOf_l6 n k) M a0 a1 x2 x3 x4 x5 = some o := h
    unfold pX10_countOf_l6b at h
    refine lv_iload X.1 X.2.1 dX10_countOf_6 (lv_at hl 5 rfl) ?_
    refine lv_aload_n X.1 X.2.1 dX10_countOf_8 rfl (lv_at hl 0 rfl) ?_
    refine mm_rgr X I fl_X10_28 dX10_countOf_9 h (fun v1 h => ?_)
    refine lv_iconst (v := 0) X.1 X.2.1 dX10_countOf_12 (by decide) ?_
    refine mm_ria X I dX10_countOf_13 h (fun v2 h => ?_)
    refine mm_kge (tgt := 67) X dX10_countOf_14 (by decide) h (fun h => ?_) (fun h => ?_)
    · refine lv_iload X.1 X.2.1 dX10_countOf_67 (lv_at hl 4 rfl) ?_
      exact mm_xi X I hr hlk dX10_countOf_69 h
    · refine lv_iconst (v := 0) X.1 X.2.1 dX10_countOf_17 (by decide) ?_
      refine lv_istore (lv' := [(6, .int 0), (0, .ref a0), (1, .ref a1), (2, .int x2), (3, .int x3), (4, .int x4), (5, .int x5)]) X.1 X.2.1 dX10_countOf_18 hl (by decide) rfl (fun ls hl => ?_)
      exact wpX10_countOf_l20 X hr hlk n ih n M _ _ _ _ _ _ _ _ _ _ I (lv_sub hl [1, 2, 3, 4, 5, 6, 0] rfl) h
set_option maxHeartbeats 4000000 in
set_option maxRecDepth 100000 in
theorem kX10_countOf {l : Launch} {D : va_G} {dA : Nat → ClassId} {lo : Nat} {n : Nat} {M : mm_M} {a0 : Nat} {a1 : Nat} {x2 : Int32} {x3 : Int32} (o : Int32 × mm_M) (h : pX10_countOf n M a0 a1 x2 x3 = some o) : (∃ fs, M.2 a0 = some (mm_ob 10 fs)) ∧ mm_Met l D dA lo yX10_countOf cX10_countOf 7 (some .int) 3 69 0 0 [.ref a0, .ref a1, .int x2, .int x3] M (some (.int o.1)) o.2 := by
  unfold pX10_countOf at h
  obtain ⟨hob, h⟩ := mm_v_some h
  refine ⟨hob, mm_enter (by decide) (Nat.le_of_ble_eq_true rfl) (fun p e s m args below meth c ls X hr hlk hnm I hl => ?_)⟩
  have X : mm_C D dA lo cX10_countOf RX10 7 p s m args c := X
  have hl : lv_has ls 7 [(0, .ref a0), (1, .ref a1), (2, .int x2), (3, .int x3)] := hl
  refine lv_iconst (v := 0) X.1 X.2.1 dX10_countOf_0 (by decide) ?_
  refine lv_istore (lv' := [(4, .int 0), (0, .ref a0), (1, .ref a1), (2, .int x2), (3, .int x3)]) X.1 X.2.1 dX10_countOf_1 hl (by decide) rfl (fun ls hl => ?_)
  refine lv_iconst (v := 0) X.1 X.2.1 dX10_countOf_3 (by decide) ?_
  refine lv_istore (lv' := [(5, .int 0), (4, .int 0), (0, .ref a0), (1, .ref a1), (2, .int x2), (3, .int x3)]) X.1 X.2.1 dX10_countOf_4 hl (by decide) rfl (fun ls hl => ?_)
  exact wpX10_countOf_l6 X hr hlk n  n M _ _ _ _ _ _ _ _ _ I (lv_sub hl [2, 3, 4, 5, 1, 0] rfl) h
set_option maxHeartbeats 4000000 in
set_option maxRecDepth 100000 in
theorem kX10_laysWord {l : Launch} {D : va_G} {dA : Nat → ClassId} {lo : Nat} {n : Nat} {M : mm_M} {a0 : Nat} (o : Int32 × mm_M) (h : pX10_laysWord n M a0 = some o) : (∃ fs, M.2 a0 = some (mm_ob 10 fs)) ∧ mm_Met l D dA lo yX10_laysWord cX10_laysWord 1 (some .boolean) 6 139 0 0 [.ref a0] M (some (.int o.1)) o.2 := by
  unfold pX10_laysWord at h
  obtain ⟨hob, h⟩ := mm_v_some h
  refine ⟨hob, mm_enter (by decide) (Nat.le_of_ble_eq_true rfl) (fun p e s m args below meth c ls X hr hlk hnm I hl => ?_)⟩
  have X : mm_C D dA lo cX10_laysWord RX10 1 p s m args c := X
  have hl : lv_has ls 1 [(0, .ref a0)] := hl
  refine lv_aload_n X.1 X.2.1 dX10_laysWord_0 rfl (lv_at hl 0 rfl) ?_
  refine mm_cVi X I hl (As := []) (ci := 10) md_X10_isStore mv_X10_isStore ml_X10_139 rfl (kX10_isStore (n := n)) (by decide) ⟨Nat.le_refl 0, Nat.le_refl 0⟩ rfl rfl (Nat.le_of_ble_eq_true rfl) dX10_laysWord_1 h (fun v1 M H locs I h => ?_)
  refine mm_jeq (tgt := 14) X dX10_laysWord_4 (by decide) h (fun h => ?_) (fun h => ?_)
  · refine lv_iconst (v := 0) X.1 X.2.1 dX10_laysWord_14 (by decide) ?_
    exact mm_xz0 X I hr hlk dX10_laysWord_15 h
  · refine lv_aload_n X.1 X.2.1 dX10_laysWord_7 rfl (lv_at hl 0 rfl) ?_
    refine mm_rgi X I fl_X10_150 dX10_laysWord_8 h (fun v2 h => ?_)
    refine mm_jne (tgt := 16) X dX10_laysWord_11 (by decide) h (fun h => ?_) (fun h => ?_)
    · refine lv_aload_n X.1 X.2.1 dX10_laysWord_16 rfl (lv_at hl 0 rfl) ?_
      refine lv_aload_n X.1 X.2.1 dX10_laysWord_17 rfl (lv_at hl 0 rfl) ?_
      refine mm_rgr X I fl_X10_34 dX10_laysWord_18 h (fun v3 h => ?_)
      refine lv_iconst (v := 0) X.1 X.2.1 dX10_laysWord_21 (by decide) ?_
      refine lv_aload_n X.1 X.2.1 dX10_laysWord_22 rfl (lv_at hl 0 rfl) ?_
      refine mm_rgi X I fl_X10_150 dX10_laysWord_23 h (fun v4 h => ?_)
      refine mm_cVv X I hl (As := [.ref v3, .int 0, .int v4]) (ci := 10) md_X10_laysHits mv_X10_laysHits ml_X10_166 rfl (kX10_laysHits (n := n)) (by decide) ⟨Nat.le_refl 0, Nat.le_refl 0⟩ rfl rfl (Nat.le_of_ble_eq_true rfl) dX10_laysWord_26 h (fun M H locs I h => ?_)
      refine lv_iconst (v := 1) X.1 X.2.1 dX10_laysWord_29 (by decide) ?_
      exact mm_xz1 X I hr hlk dX10_laysWord_30 h
    · refine lv_iconst (v := 0) X.1 X.2.1 dX10_laysWord_14 (by decide) ?_
      exact mm_xz0 X I hr hlk dX10_laysWord_15 h
set_option maxHeartbeats 4000000 in
set_option maxRecDepth 100000 in
theorem wpX10_comparesMark_b169 {p : Program} {l : Launch} {e : Env} {s : State} {m : MethodId} {args : Array Value} {below : List Frame} {meth : Method} {c : Code} {D : va_G} {dA : Nat → ClassId} {lo : Nat} (X : mm_C D dA lo cX10_comparesMark RX10 7 p s m args c) (hr : meth.sig.returnType = (some .int)) (hlk : meth.locks = false) (n : Nat) {o : Int32 × mm_M}  : ∀ (M : mm_M) (a0 : Nat) (x2 : Int32) (x4 : Int32) (s0 : Int32) (H : Heap) (locs : List Loc) (ls : Array Slot), mm_I D dA lo s M H locs → lv_has ls 7 [(0, .ref a0), (2, .int x2), (4, .int x4)] → pX10_comparesMark_b169 n M a0 x2 x4 s0 = some o → W p l e (mm_rm 3 65 0 0) s m args below meth c H locs 0 0 (MQ below (mm_Q D dA lo (some (.int o.1)) o.2) args s 0 0 (mm_fr lo)) (F0 m 169 ls [.int s0]) := by
  intro M a0 x2 x4 s0 H locs ls I hl h
  unfold pX10_comparesMark_b169 at h
  refine lv_istore (lv' := [(5, .int s0), (0, .ref a0), (2, .int x2), (4, .int x4)]) X.1 X.2.1 dX10_comparesMark_169 hl (by decide) rfl (fun ls hl => ?_)
  refine lv_iload X.1 X.2.1 dX10_comparesMark_171 (lv_at hl 0 rfl) ?_
  refine mm_jne (tgt := 193) X dX10_comparesMark_173 (by decide) h (fun h => ?_) (fun h => ?_)
  · refine lv_iload X.1 X.2.1 dX10_comparesMark_193 (lv_at hl 0 rfl) ?_
    exact mm_xi X I hr hlk dX10_comparesMark_195 h
  · refine lv_iload_n X.1 X.2.1 dX10_comparesMark_176 rfl (lv_at hl 2 rfl) ?_
    refine lv_aload_n X.1 X.2.1 dX10_comparesMark_177 rfl (lv_at hl 1 rfl) ?_
    refine mm_rgr X I fl_X10_28 dX10_comparesMark_178 h (fun v1 h => ?_)
    refine lv_iload X.1 X.2.1 dX10_comparesMark_181 (lv_at hl 3 rfl) ?_
    refine lv_bipush (v := 10) X.1 X.2.1 dX10_comparesMark_183 (by decide) ?_
    refine lv_iadd X.1 X.2.1 dX10_comparesMark_185 ?_
    refine mm_ria X I dX10_comparesMark_186 h (fun v2 h => ?_)
    refine mm_cSi X I hl (As := [.int x2, .int v2]) md_X10_order mv_X10_order ml_X10_184 (kX10_order (n := n)) (by decide) ⟨Nat.le_refl 0, Nat.le_refl 0⟩ rfl rfl (Nat.le_of_ble_eq_true rfl) dX10_comparesMark_187 h (fun v3 M H locs I h => ?_)
    refine lv_goto (tgt := 195) X.1 X.2.1 dX10_comparesMark_190 (by decide) ?_
    exact mm_xi X I hr hlk dX10_comparesMark_195 h
set_option maxHeartbeats 4000000 in
set_option maxRecDepth 100000 in
theorem wpX10_comparesMark_b141 {p : Program} {l : Launch} {e : Env} {s : State} {m : MethodId} {args : Array Value} {below : List Frame} {meth : Method} {c : Code} {D : va_G} {dA : Nat → ClassId} {lo : Nat} (X : mm_C D dA lo cX10_comparesMark RX10 7 p s m args c) (hr : meth.sig.returnType = (some .int)) (hlk : meth.locks = false) (n : Nat) {o : Int32 × mm_M}  : ∀ (M : mm_M) (a0 : Nat) (x1 : Int32) (x2 : Int32) (x4 : Int32) (x5 : Int32) (H : Heap) (locs : List Loc) (ls : Array Slot), mm_I D dA lo s M H locs → lv_has ls 7 [(0, .ref a0), (1, .int x1), (2, .int x2), (4, .int x4), (5, .int x5)] → pX10_comparesMark_b141 n M a0 x1 x2 x4 x5 = some o → W p l e (mm_rm 3 65 0 0) s m args below meth c H locs 0 0 (MQ below (mm_Q D dA lo (some (.int o.1)) o.2) args s 0 0 (mm_fr lo)) (F0 m 141 ls []) := by
  intro M a0 x1 x2 x4 x5 H locs ls I hl h
  unfold pX10_comparesMark_b141 at h
  refine lv_iload X.1 X.2.1 dX10_comparesMark_141 (lv_at hl 4 rfl) ?_
  refine mm_jne (tgt := 167) X dX10_comparesMark_143 (by decide) h (fun h => ?_) (fun h => ?_)
  · refine lv_iload X.1 X.2.1 dX10_comparesMark_167 (lv_at hl 4 rfl) ?_
    exact wpX10_comparesMark_b169 X hr hlk n  M _ _ _ _ _ _ _ I (lv_sub hl [0, 2, 3] rfl) h
  · refine lv_aload_n X.1 X.2.1 dX10_comparesMark_146 rfl (lv_at hl 0 rfl) ?_
    refine lv_iload_n X.1 X.2.1 dX10_comparesMark_147 rfl (lv_at hl 1 rfl) ?_
    refine mm_cVi X I hl (As := [.int x1]) (ci := 10) md_X10_numberOf mv_X10_numberOf ml_X10_190 rfl (kX10_numberOf (n := n)) (by decide) ⟨Nat.le_refl 0, Nat.le_refl 0⟩ rfl rfl (Nat.le_of_ble_eq_true rfl) dX10_comparesMark_148 h (fun v1 M H locs I h => ?_)
    refine lv_aload_n X.1 X.2.1 dX10_comparesMark_151 rfl (lv_at hl 0 rfl) ?_
    refine mm_rgr X I fl_X10_28 dX10_comparesMark_152 h (fun v2 h => ?_)
    refine lv_iload X.1 X.2.1 dX10_comparesMark_155 (lv_at hl 3 rfl) ?_
    refine lv_bipush (v := 9) X.1 X.2.1 dX10_comparesMark_157 (by decide) ?_
    refine lv_iadd X.1 X.2.1 dX10_comparesMark_159 ?_
    refine mm_ria X I dX10_comparesMark_160 h (fun v3 h => ?_)
    refine mm_cSi X I hl (As := [.int v1, .int v3]) md_X10_order mv_X10_order ml_X10_184 (kX10_order (n := n)) (by decide) ⟨Nat.le_refl 0, Nat.le_refl 0⟩ rfl rfl (Nat.le_of_ble_eq_true rfl) dX10_comparesMark_161 h (fun v4 M H locs I h => ?_)
    refine lv_goto (tgt := 169) X.1 X.2.1 dX10_comparesMark_164 (by decide) ?_
    exact wpX10_comparesMark_b169 X hr hlk n  M _ _ _ _ _ _ _ I (lv_sub hl [0, 2, 3] rfl) h
set_option maxHeartbeats 4000000 in
set_option maxRecDepth 100000 in
theorem wpX10_comparesMark_l78 {p : Program} {l : Launch} {e : Env} {s : State} {m : MethodId} {args : Array Value} {below : List Frame} {meth : Method} {c : Code} {D : va_G} {dA : Nat → ClassId} {lo : Nat} (X : mm_C D dA lo cX10_comparesMark RX10 7 p s m args c) (hr : meth.sig.returnType = (some .int)) (hlk : meth.locks = false) (n : Nat) {o : Int32 × mm_M} (k : Nat) : ∀ (M : mm_M) (a0 : Nat) (x1 : Int32) (x2 : Int32) (x4 : Int32) (x5 : Int32) (x6 : Int32) (H : Heap) (locs : List Loc) (ls : Array Slot), mm_I D dA lo s M H locs → lv_has ls 7 [(0, .ref a0), (1, .int x1), (2, .int x2), (4, .int x4), (5, .int x5), (6, .int x6)] → pX10_comparesMark_l78 n k M a0 x1 x2 x4 x5 x6 = some o → W p l e (mm_rm 3 65 0 0) s m args below meth c H locs 0 0 (MQ below (mm_Q D dA lo (some (.int o.1)) o.2) args s 0 0 (mm_fr lo)) (F0 m 78 ls []) := by
  induction k with
  | zero =>
    intro M a0 x1 x2 x4 x5 x6 H locs ls I hl h
    have h : (none : Option (Int32 × mm_M)) = some o := h
    cases h
  | succ k ih =>
    intro M a0 x1 x2 x4 x5 x6 H locs ls I hl h
    have h : pX10_comparesMark_l78b n (pX10_comparesMark_l78 n k) M a0 x1 x2 x4 x5 x6 = some o := h
    unfold pX10_comparesMark_l78b at h
    refine lv_iload X.1 X.2.1 dX10_comparesMark_78 (lv_at hl 5 rfl) ?_
    refine lv_bipush (v := 20) X.1 X.2.1 dX10_comparesMark_80 (by decide) ?_
    refine mm_kgt (tgt := 141) X dX10_comparesMark_82 (by decide) h (fun h => ?_) (fun h => ?_)
    · exact wpX10_comparesMark_b141 X hr hlk n  M _ _ _ _ _ _ _ _ I (lv_sub hl [0, 1, 2, 3, 4] rfl) h
    · refine lv_iload X.1 X.2.1 dX10_comparesMark_85 (lv_at hl 4 rfl) ?_
      refine mm_jne (tgt := 141) X dX10_comparesMark_87 (by decide) h (fun h => ?_) (fun h => ?_)
      · exact wpX10_comparesMark_b141 X hr hlk n  M _ _ _ _ _ _ _ _ I (lv_sub hl [0, 1, 2, 3, 4] rfl) h
      · refine lv_aload_n X.1 X.2.1 dX10_comparesMark_90 rfl (lv_at hl 0 rfl) ?_
        refine lv_iload_n X.1 X.2.1 dX10_comparesMark_91 rfl (lv_at hl 1 rfl) ?_
        refine lv_iload_n X.1 X.2.1 dX10_comparesMark_92 rfl (lv_at hl 2 rfl) ?_
        refine lv_iload X.1 X.2.1 dX10_comparesMark_93 (lv_at hl 5 rfl) ?_
        refine mm_cVi X I hl (As := [.int x1, .int x2, .int x6]) (ci := 10) md_X10_before mv_X10_before ml_X10_187 rfl (kX10_before (n := n)) (by decide) ⟨Nat.le_refl 0, Nat.le_refl 0⟩ rfl rfl (Nat.le_of_ble_eq_true rfl) dX10_comparesMark_95 h (fun v1 M H locs I h => ?_)
        refine lv_iload X.1 X.2.1 dX10_comparesMark_98 (lv_at hl 5 rfl) ?_
        refine lv_aload_n X.1 X.2.1 dX10_comparesMark_100 rfl (lv_at hl 0 rfl) ?_
        refine mm_rgr X I fl_X10_28 dX10_comparesMark_101 h (fun v2 h => ?_)
        refine lv_iload X.1 X.2.1 dX10_comparesMark_104 (lv_at hl 3 rfl) ?_
        refine lv_bipush (v := 32) X.1 X.2.1 dX10_comparesMark_106 (by decide) ?_
        refine lv_iadd X.1 X.2.1 dX10_comparesMark_108 ?_
        refine mm_ria X I dX10_comparesMark_109 h (fun v3 h => ?_)
        refine mm_kge (tgt := 129) X dX10_comparesMark_110 (by decide) h (fun h => ?_) (fun h => ?_)
        · refine lv_iconst (v := (-1)) X.1 X.2.1 dX10_comparesMark_129 (by decide) ?_
          refine mm_cSi X I hl (As := [.int v1, .int (-1)]) md_X10_order mv_X10_order ml_X10_184 (kX10_order (n := n)) (by decide) ⟨Nat.le_refl 0, Nat.le_refl 0⟩ rfl rfl (Nat.le_of_ble_eq_true rfl) dX10_comparesMark_130 h (fun v4 M H locs I h => ?_)
          refine lv_istore (lv' := [(5, .int v4), (0, .ref a0), (1, .int x1), (2, .int x2), (4, .int x4), (6, .int x6)]) X.1 X.2.1 dX10_comparesMark_133 hl (by decide) rfl (fun ls hl => ?_)
          refine lv_iinc (v := (x6 + 1)) (lv' := [(6, .int (x6 + 1)), (5, .int v4), (0, .ref a0), (1, .int x1), (2, .int x2), (4, .int x4)]) X.1 X.2.1 dX10_comparesMark_135 hl (k := 5) rfl rfl (by decide) rfl (fun ls hl => ?_)
          refine lv_goto (tgt := 78) X.1 X.2.1 dX10_comparesMark_138 (by decide) ?_
          exact ih M _ _ _ _ _ _ _ _ _ I (lv_sub hl [2, 3, 4, 5, 1, 0] rfl) h
        · refine lv_aload_n X.1 X.2.1 dX10_comparesMark_113 rfl (lv_at hl 0 rfl) ?_
          refine mm_rgr X I fl_X10_28 dX10_comparesMark_114 h (fun v5 h => ?_)
          refine lv_iload X.1 X.2.1 dX10_comparesMark_117 (lv_at hl 3 rfl) ?_
          refine lv_bipush (v := 33) X.1 X.2.1 dX10_comparesMark_119 (by decide) ?_
          refine lv_iadd X.1 X.2.1 dX10_comparesMark_121 ?_
          refine lv_iload X.1 X.2.1 dX10_comparesMark_122 (lv_at hl 5 rfl) ?_
          refine lv_iadd X.1 X.2.1 dX10_comparesMark_124 ?_
          refine mm_ria X I dX10_comparesMark_125 h (fun v6 h => ?_)
          refine lv_goto (tgt := 130) X.1 X.2.1 dX10_comparesMark_126 (by decide) ?_
          refine mm_cSi X I hl (As := [.int v1, .int v6]) md_X10_order mv_X10_order ml_X10_184 (kX10_order (n := n)) (by decide) ⟨Nat.le_refl 0, Nat.le_refl 0⟩ rfl rfl (Nat.le_of_ble_eq_true rfl) dX10_comparesMark_130 h (fun v7 M H locs I h => ?_)
          refine lv_istore (lv' := [(5, .int v7), (0, .ref a0), (1, .int x1), (2, .int x2), (4, .int x4), (6, .int x6)]) X.1 X.2.1 dX10_comparesMark_133 hl (by decide) rfl (fun ls hl => ?_)
          refine lv_iinc (v := (x6 + 1)) (lv' := [(6, .int (x6 + 1)), (5, .int v7), (0, .ref a0), (1, .int x1), (2, .int x2), (4, .int x4)]) X.1 X.2.1 dX10_comparesMark_135 hl (k := 5) rfl rfl (by decide) rfl (fun ls hl => ?_)
          refine lv_goto (tgt := 78) X.1 X.2.1 dX10_comparesMark_138 (by decide) ?_
          exact ih M _ _ _ _ _ _ _ _ _ I (lv_sub hl [2, 3, 4, 5, 1, 0] rfl) h
set_option maxHeartbeats 4000000 in
set_option maxRecDepth 100000 in
theorem wpX10_comparesMark_l12 {p : Program} {l : Launch} {e : Env} {s : State} {m : MethodId} {args : Array Value} {below : List Frame} {meth : Method} {c : Code} {D : va_G} {dA : Nat → ClassId} {lo : Nat} (X : mm_C D dA lo cX10_comparesMark RX10 7 p s m args c) (hr : meth.sig.returnType = (some .int)) (hlk : meth.locks = false) (n : Nat) {o : Int32 × mm_M} (k : Nat) : ∀ (M : mm_M) (a0 : Nat) (x1 : Int32) (x2 : Int32) (x4 : Int32) (x5 : Int32) (x6 : Int32) (H : Heap) (locs : List Loc) (ls : Array Slot), mm_I D dA lo s M H locs → lv_has ls 7 [(0, .ref a0), (1, .int x1), (2, .int x2), (4, .int x4), (5, .int x5), (6, .int x6)] → pX10_comparesMark_l12 n k M a0 x1 x2 x4 x5 x6 = some o → W p l e (mm_rm 3 65 0 0) s m args below meth c H locs 0 0 (MQ below (mm_Q D dA lo (some (.int o.1)) o.2) args s 0 0 (mm_fr lo)) (F0 m 12 ls []) := by
  induction k with
  | zero =>
    intro M a0 x1 x2 x4 x5 x6 H locs ls I hl h
    have h : (none : Option (Int32 × mm_M)) = some o := h
    cases h
  | succ k ih =>
    intro M a0 x1 x2 x4 x5 x6 H locs ls I hl h
    have h : pX10_comparesMark_l12b n (pX10_comparesMark_l12 n k) M a0 x1 x2 x4 x5 x6 = some o := h
    unfold pX10_comparesMark_l12b at h
    refine lv_iload X.1 X.2.1 dX10_comparesMark_12 (lv_at hl 5 rfl) ?_
    refine lv_bipush (v := 20) X.1 X.2.1 dX10_comparesMark_14 (by decide) ?_
    refine mm_kgt (tgt := 75) X dX10_comparesMark_16 (by decide) h (fun h => ?_) (fun h => ?_)
    · refine lv_iconst (v := 0) X.1 X.2.1 dX10_comparesMark_75 (by decide) ?_
      refine lv_istore (lv' := [(6, .int 0), (0, .ref a0), (1, .int x1), (2, .int x2), (4, .int x4), (5, .int x5)]) X.1 X.2.1 dX10_comparesMark_76 hl (by decide) rfl (fun ls hl => ?_)
      exact wpX10_comparesMark_l78 X hr hlk n  n M _ _ _ _ _ _ _ _ _ I (lv_sub hl [1, 2, 3, 4, 5, 0] rfl) h
    · refine lv_iload X.1 X.2.1 dX10_comparesMark_19 (lv_at hl 4 rfl) ?_
      refine mm_jne (tgt := 75) X dX10_comparesMark_21 (by decide) h (fun h => ?_) (fun h => ?_)
      · refine lv_iconst (v := 0) X.1 X.2.1 dX10_comparesMark_75 (by decide) ?_
        refine lv_istore (lv' := [(6, .int 0), (0, .ref a0), (1, .int x1), (2, .int x2), (4, .int x4), (5, .int x5)]) X.1 X.2.1 dX10_comparesMark_76 hl (by decide) rfl (fun ls hl => ?_)
        exact wpX10_comparesMark_l78 X hr hlk n  n M _ _ _ _ _ _ _ _ _ I (lv_sub hl [1, 2, 3, 4, 5, 0] rfl) h
      · refine lv_aload_n X.1 X.2.1 dX10_comparesMark_24 rfl (lv_at hl 0 rfl) ?_
        refine lv_iload_n X.1 X.2.1 dX10_comparesMark_25 rfl (lv_at hl 1 rfl) ?_
        refine lv_iload_n X.1 X.2.1 dX10_comparesMark_26 rfl (lv_at hl 2 rfl) ?_
        refine lv_iload X.1 X.2.1 dX10_comparesMark_27 (lv_at hl 5 rfl) ?_
        refine mm_cVi X I hl (As := [.int x1, .int x2, .int x6]) (ci := 10) md_X10_following mv_X10_following ml_X10_180 rfl (kX10_following (n := n)) (by decide) ⟨Nat.le_refl 0, Nat.le_refl 0⟩ rfl rfl (Nat.le_of_ble_eq_true rfl) dX10_comparesMark_29 h (fun v1 M H locs I h => ?_)
        refine lv_iload X.1 X.2.1 dX10_comparesMark_32 (lv_at hl 5 rfl) ?_
        refine lv_aload_n X.1 X.2.1 dX10_comparesMark_34 rfl (lv_at hl 0 rfl) ?_
        refine mm_rgr X I fl_X10_28 dX10_comparesMark_35 h (fun v2 h => ?_)
        refine lv_iload X.1 X.2.1 dX10_comparesMark_38 (lv_at hl 3 rfl) ?_
        refine lv_bipush (v := 11) X.1 X.2.1 dX10_comparesMark_40 (by decide) ?_
        refine lv_iadd X.1 X.2.1 dX10_comparesMark_42 ?_
        refine mm_ria X I dX10_comparesMark_43 h (fun v3 h => ?_)
        refine mm_kge (tgt := 63) X dX10_comparesMark_44 (by decide) h (fun h => ?_) (fun h => ?_)
        · refine lv_iconst (v := (-1)) X.1 X.2.1 dX10_comparesMark_63 (by decide) ?_
          refine mm_cSi X I hl (As := [.int v1, .int (-1)]) md_X10_order mv_X10_order ml_X10_184 (kX10_order (n := n)) (by decide) ⟨Nat.le_refl 0, Nat.le_refl 0⟩ rfl rfl (Nat.le_of_ble_eq_true rfl) dX10_comparesMark_64 h (fun v4 M H locs I h => ?_)
          refine lv_istore (lv' := [(5, .int v4), (0, .ref a0), (1, .int x1), (2, .int x2), (4, .int x4), (6, .int x6)]) X.1 X.2.1 dX10_comparesMark_67 hl (by decide) rfl (fun ls hl => ?_)
          refine lv_iinc (v := (x6 + 1)) (lv' := [(6, .int (x6 + 1)), (5, .int v4), (0, .ref a0), (1, .int x1), (2, .int x2), (4, .int x4)]) X.1 X.2.1 dX10_comparesMark_69 hl (k := 5) rfl rfl (by decide) rfl (fun ls hl => ?_)
          refine lv_goto (tgt := 12) X.1 X.2.1 dX10_comparesMark_72 (by decide) ?_
          exact ih M _ _ _ _ _ _ _ _ _ I (lv_sub hl [2, 3, 4, 5, 1, 0] rfl) h
        · refine lv_aload_n X.1 X.2.1 dX10_comparesMark_47 rfl (lv_at hl 0 rfl) ?_
          refine mm_rgr X I fl_X10_28 dX10_comparesMark_48 h (fun v5 h => ?_)
          refine lv_iload X.1 X.2.1 dX10_comparesMark_51 (lv_at hl 3 rfl) ?_
          refine lv_bipush (v := 12) X.1 X.2.1 dX10_comparesMark_53 (by decide) ?_
          refine lv_iadd X.1 X.2.1 dX10_comparesMark_55 ?_
          refine lv_iload X.1 X.2.1 dX10_comparesMark_56 (lv_at hl 5 rfl) ?_
          refine lv_iadd X.1 X.2.1 dX10_comparesMark_58 ?_
          refine mm_ria X I dX10_comparesMark_59 h (fun v6 h => ?_)
          refine lv_goto (tgt := 64) X.1 X.2.1 dX10_comparesMark_60 (by decide) ?_
          refine mm_cSi X I hl (As := [.int v1, .int v6]) md_X10_order mv_X10_order ml_X10_184 (kX10_order (n := n)) (by decide) ⟨Nat.le_refl 0, Nat.le_refl 0⟩ rfl rfl (Nat.le_of_ble_eq_true rfl) dX10_comparesMark_64 h (fun v7 M H locs I h => ?_)
          refine lv_istore (lv' := [(5, .int v7), (0, .ref a0), (1, .int x1), (2, .int x2), (4, .int x4), (6, .int x6)]) X.1 X.2.1 dX10_comparesMark_67 hl (by decide) rfl (fun ls hl => ?_)
          refine lv_iinc (v := (x6 + 1)) (lv' := [(6, .int (x6 + 1)), (5, .int v7), (0, .ref a0), (1, .int x1), (2, .int x2), (4, .int x4)]) X.1 X.2.1 dX10_comparesMark_69 hl (k := 5) rfl rfl (by decide) rfl (fun ls hl => ?_)
          refine lv_goto (tgt := 12) X.1 X.2.1 dX10_comparesMark_72 (by decide) ?_
          exact ih M _ _ _ _ _ _ _ _ _ I (lv_sub hl [2, 3, 4, 5, 1, 0] rfl) h
set_option maxHeartbeats 4000000 in
set_option maxRecDepth 100000 in
theorem kX10_comparesMark {l : Launch} {D : va_G} {dA : Nat → ClassId} {lo : Nat} {n : Nat} {M : mm_M} {a0 : Nat} {x1 : Int32} {x2 : Int32} {x3 : Int32} (o : Int32 × mm_M) (h : pX10_comparesMark n M a0 x1 x2 x3 = some o) : (∃ fs, M.2 a0 = some (mm_ob 10 fs)) ∧ mm_Met l D dA lo yX10_comparesMark cX10_comparesMark 7 (some .int) 3 65 0 0 [.ref a0, .int x1, .int x2, .int x3] M (some (.int o.1)) o.2 := by
  unfold pX10_comparesMark at h
  obtain ⟨hob, h⟩ := mm_v_some h
  refine ⟨hob, mm_enter (by decide) (Nat.le_of_ble_eq_true rfl) (fun p e s m args below meth c ls X hr hlk hnm I hl => ?_)⟩
  have X : mm_C D dA lo cX10_comparesMark RX10 7 p s m args c := X
  have hl : lv_has ls 7 [(0, .ref a0), (1, .int x1), (2, .int x2), (3, .int x3)] := hl
  refine lv_iload_n X.1 X.2.1 dX10_comparesMark_0 rfl (lv_at hl 3 rfl) ?_
  refine mm_cSi X I hl (As := [.int x3]) md_X10_cursorAt mv_X10_cursorAt ml_X10_143 (kX10_cursorAt (n := n)) (by decide) ⟨Nat.le_refl 0, Nat.le_refl 0⟩ rfl rfl (Nat.le_of_ble_eq_true rfl) dX10_comparesMark_1 h (fun v1 M H locs I h => ?_)
  refine lv_istore (lv' := [(4, .int v1), (0, .ref a0), (1, .int x1), (2, .int x2), (3, .int x3)]) X.1 X.2.1 dX10_comparesMark_4 hl (by decide) rfl (fun ls hl => ?_)
  refine lv_iconst (v := 0) X.1 X.2.1 dX10_comparesMark_6 (by decide) ?_
  refine lv_istore (lv' := [(5, .int 0), (4, .int v1), (0, .ref a0), (1, .int x1), (2, .int x2), (3, .int x3)]) X.1 X.2.1 dX10_comparesMark_7 hl (by decide) rfl (fun ls hl => ?_)
  refine lv_iconst (v := 0) X.1 X.2.1 dX10_comparesMark_9 (by decide) ?_
  refine lv_istore (lv' := [(6, .int 0), (5, .int 0), (4, .int v1), (0, .ref a0), (1, .int x1), (2, .int x2), (3, .int x3)]) X.1 X.2.1 dX10_comparesMark_10 hl (by decide) rfl (fun ls hl => ?_)
  exact wpX10_comparesMark_l12 X hr hlk n  n M _ _ _ _ _ _ _ _ _ I (lv_sub hl [3, 4, 5, 2, 1, 0] rfl) h
set_option maxHeartbeats 4000000 in
set_option maxRecDepth 100000 in
theorem wpX10_firstLeft_l26 {p : Program} {l : Launch} {e : Env} {s : State} {m : MethodId} {args : Array Value} {below : List Frame} {meth : Method} {c : Code} {D : va_G} {dA : Nat → ClassId} {lo : Nat} (X : mm_C D dA lo cX10_firstLeft RX10 4 p s m args c) (hr : meth.sig.returnType = (some .int)) (hlk : meth.locks = false) (n : Nat) {o : Int32 × mm_M} (k : Nat) : ∀ (M : mm_M) (a0 : Nat) (x1 : Int32) (x2 : Int32) (x3 : Int32) (H : Heap) (locs : List Loc) (ls : Array Slot), mm_I D dA lo s M H locs → lv_has ls 4 [(0, .ref a0), (1, .int x1), (2, .int x2), (3, .int x3)] → pX10_firstLeft_l26 n k M a0 x1 x2 x3 = some o → W p l e (mm_rm 6 139 0 0) s m args below meth c H locs 0 0 (MQ below (mm_Q D dA lo (some (.int o.1)) o.2) args s 0 0 (mm_fr lo)) (F0 m 26 ls []) := by
  induction k with
  | zero =>
    intro M a0 x1 x2 x3 H locs ls I hl h
    have h : (none : Option (Int32 × mm_M)) = some o := h
    cases h
  | succ k ih =>
    intro M a0 x1 x2 x3 H locs ls I hl h
    have h : pX10_firstLeft_l26b n (pX10_firstLeft_l26 n k) M a0 x1 x2 x3 = some o := h
    unfold pX10_firstLeft_l26b at h
    refine lv_aload_n X.1 X.2.1 dX10_firstLeft_26 rfl (lv_at hl 0 rfl) ?_
    refine mm_rgr X I fl_X10_28 dX10_firstLeft_27 h (fun v1 h => ?_)
    refine lv_iload_n X.1 X.2.1 dX10_firstLeft_30 rfl (lv_at hl 2 rfl) ?_
    refine lv_bipush (v := 8) X.1 X.2.1 dX10_firstLeft_31 (by decide) ?_
    refine lv_iadd X.1 X.2.1 dX10_firstLeft_33 ?_
    refine mm_ria X I dX10_firstLeft_34 h (fun v2 h => ?_)
    refine lv_iconst (v := 1) X.1 X.2.1 dX10_firstLeft_35 (by decide) ?_
    refine mm_kne (tgt := 73) X dX10_firstLeft_36 (by decide) h (fun h => ?_) (fun h => ?_)
    · refine lv_iload_n X.1 X.2.1 dX10_firstLeft_73 rfl (lv_at hl 3 rfl) ?_
      exact mm_xi X I hr hlk dX10_firstLeft_74 h
    · refine lv_iload_n X.1 X.2.1 dX10_firstLeft_39 rfl (lv_at hl 3 rfl) ?_
      refine lv_aload_n X.1 X.2.1 dX10_firstLeft_40 rfl (lv_at hl 0 rfl) ?_
      refine mm_rgi X I fl_X10_170 dX10_firstLeft_41 h (fun v3 h => ?_)
      refine mm_kge (tgt := 73) X dX10_firstLeft_44 (by decide) h (fun h => ?_) (fun h => ?_)
      · refine lv_iload_n X.1 X.2.1 dX10_firstLeft_73 rfl (lv_at hl 3 rfl) ?_
        exact mm_xi X I hr hlk dX10_firstLeft_74 h
      · refine lv_aload_n X.1 X.2.1 dX10_firstLeft_47 rfl (lv_at hl 0 rfl) ?_
        refine lv_aload_n X.1 X.2.1 dX10_firstLeft_48 rfl (lv_at hl 0 rfl) ?_
        refine mm_rgr X I fl_X10_37 dX10_firstLeft_49 h (fun v4 h => ?_)
        refine lv_iload_n X.1 X.2.1 dX10_firstLeft_52 rfl (lv_at hl 3 rfl) ?_
        refine mm_ria X I dX10_firstLeft_53 h (fun v5 h => ?_)
        refine lv_aload_n X.1 X.2.1 dX10_firstLeft_54 rfl (lv_at hl 0 rfl) ?_
        refine mm_rgr X I fl_X10_40 dX10_firstLeft_55 h (fun v6 h => ?_)
        refine lv_iload_n X.1 X.2.1 dX10_firstLeft_58 rfl (lv_at hl 3 rfl) ?_
        refine mm_ria X I dX10_firstLeft_59 h (fun v7 h => ?_)
        refine lv_iload_n X.1 X.2.1 dX10_firstLeft_60 rfl (lv_at hl 1 rfl) ?_
        refine mm_cVi X I hl (As := [.int v5, .int v7, .int x1]) (ci := 10) md_X10_comparesMark mv_X10_comparesMark ml_X10_205 rfl (kX10_comparesMark (n := n)) (by decide) ⟨Nat.le_refl 0, Nat.le_refl 0⟩ rfl rfl (Nat.le_of_ble_eq_true rfl) dX10_firstLeft_61 h (fun v8 M H locs I h => ?_)
        refine mm_jgt (tgt := 73) X dX10_firstLeft_64 (by decide) h (fun h => ?_) (fun h => ?_)
        · refine lv_iload_n X.1 X.2.1 dX10_firstLeft_73 rfl (lv_at hl 3 rfl) ?_
          exact mm_xi X I hr hlk dX10_firstLeft_74 h
        · refine lv_iinc (v := (x3 + 1)) (lv' := [(3, .int (x3 + 1)), (0, .ref a0), (1, .int x1), (2, .int x2)]) X.1 X.2.1 dX10_firstLeft_67 hl (k := 3) rfl rfl (by decide) rfl (fun ls hl => ?_)
          refine lv_goto (tgt := 26) X.1 X.2.1 dX10_firstLeft_70 (by decide) ?_
          exact ih M _ _ _ _ _ _ _ I (lv_sub hl [1, 2, 3, 0] rfl) h
set_option maxHeartbeats 4000000 in
set_option maxRecDepth 100000 in
theorem kX10_firstLeft {l : Launch} {D : va_G} {dA : Nat → ClassId} {lo : Nat} {n : Nat} {M : mm_M} {a0 : Nat} {x1 : Int32} (o : Int32 × mm_M) (h : pX10_firstLeft n M a0 x1 = some o) : (∃ fs, M.2 a0 = some (mm_ob 10 fs)) ∧ mm_Met l D dA lo yX10_firstLeft cX10_firstLeft 4 (some .int) 6 139 0 0 [.ref a0, .int x1] M (some (.int o.1)) o.2 := by
  unfold pX10_firstLeft at h
  obtain ⟨hob, h⟩ := mm_v_some h
  refine ⟨hob, mm_enter (by decide) (Nat.le_of_ble_eq_true rfl) (fun p e s m args below meth c ls X hr hlk hnm I hl => ?_)⟩
  have X : mm_C D dA lo cX10_firstLeft RX10 4 p s m args c := X
  have hl : lv_has ls 4 [(0, .ref a0), (1, .int x1)] := hl
  refine lv_iload_n X.1 X.2.1 dX10_firstLeft_0 rfl (lv_at hl 1 rfl) ?_
  refine mm_cSi X I hl (As := [.int x1]) md_X10_cursorAt mv_X10_cursorAt ml_X10_143 (kX10_cursorAt (n := n)) (by decide) ⟨Nat.le_refl 0, Nat.le_refl 0⟩ rfl rfl (Nat.le_of_ble_eq_true rfl) dX10_firstLeft_1 h (fun v1 M H locs I h => ?_)
  refine lv_istore_n (lv' := [(2, .int v1), (0, .ref a0), (1, .int x1)]) X.1 X.2.1 dX10_firstLeft_4 rfl hl (by decide) rfl (fun ls hl => ?_)
  refine lv_aload_n X.1 X.2.1 dX10_firstLeft_5 rfl (lv_at hl 1 rfl) ?_
  refine lv_aload_n X.1 X.2.1 dX10_firstLeft_6 rfl (lv_at hl 1 rfl) ?_
  refine mm_rgr X I fl_X10_28 dX10_firstLeft_7 h (fun v2 h => ?_)
  refine lv_iload_n X.1 X.2.1 dX10_firstLeft_10 rfl (lv_at hl 0 rfl) ?_
  refine lv_iconst (v := 1) X.1 X.2.1 dX10_firstLeft_11 (by decide) ?_
  refine lv_iadd X.1 X.2.1 dX10_firstLeft_12 ?_
  refine lv_aload_n X.1 X.2.1 dX10_firstLeft_13 rfl (lv_at hl 1 rfl) ?_
  refine mm_rgr X I fl_X10_28 dX10_firstLeft_14 h (fun v3 h => ?_)
  refine lv_iload_n X.1 X.2.1 dX10_firstLeft_17 rfl (lv_at hl 0 rfl) ?_
  refine lv_iconst (v := 0) X.1 X.2.1 dX10_firstLeft_18 (by decide) ?_
  refine lv_iadd X.1 X.2.1 dX10_firstLeft_19 ?_
  refine mm_ria X I dX10_firstLeft_20 h (fun v4 h => ?_)
  refine mm_cVv X I hl (As := [.ref v2, .int (v1 + 1), .int v4]) (ci := 10) md_X10_laysHits mv_X10_laysHits ml_X10_166 rfl (kX10_laysHits (n := n)) (by decide) ⟨Nat.le_refl 0, Nat.le_refl 0⟩ rfl rfl (Nat.le_of_ble_eq_true rfl) dX10_firstLeft_21 h (fun M H locs I h => ?_)
  refine lv_iconst (v := 0) X.1 X.2.1 dX10_firstLeft_24 (by decide) ?_
  refine lv_istore_n (lv' := [(3, .int 0), (2, .int v1), (0, .ref a0), (1, .int x1)]) X.1 X.2.1 dX10_firstLeft_25 rfl hl (by decide) rfl (fun ls hl => ?_)
  exact wpX10_firstLeft_l26 X hr hlk n  n M _ _ _ _ _ _ _ I (lv_sub hl [2, 3, 1, 0] rfl) h
set_option maxHeartbeats 4000000 in
set_option maxRecDepth 100000 in
theorem kX10_leftOf {l : Launch} {D : va_G} {dA : Nat → ClassId} {lo : Nat} {n : Nat} {M : mm_M} {a0 : Nat} {x1 : Int32} (o : Int32 × mm_M) (h : pX10_leftOf n M a0 x1 = some o) : (∃ fs, M.2 a0 = some (mm_ob 10 fs)) ∧ mm_Met l D dA lo yX10_leftOf cX10_leftOf 3 (some .int) 7 162 0 0 [.ref a0, .int x1] M (some (.int o.1)) o.2 := by
  unfold pX10_leftOf at h
  obtain ⟨hob, h⟩ := mm_v_some h
  refine ⟨hob, mm_enter (by decide) (Nat.le_of_ble_eq_true rfl) (fun p e s m args below meth c ls X hr hlk hnm I hl => ?_)⟩
  have X : mm_C D dA lo cX10_leftOf RX10 3 p s m args c := X
  have hl : lv_has ls 3 [(0, .ref a0), (1, .int x1)] := hl
  refine lv_aload_n X.1 X.2.1 dX10_leftOf_0 rfl (lv_at hl 0 rfl) ?_
  refine lv_iload_n X.1 X.2.1 dX10_leftOf_1 rfl (lv_at hl 1 rfl) ?_
  refine mm_cVi X I hl (As := [.int x1]) (ci := 10) md_X10_firstLeft mv_X10_firstLeft ml_X10_208 rfl (kX10_firstLeft (n := n)) (by decide) ⟨Nat.le_refl 0, Nat.le_refl 0⟩ rfl rfl (Nat.le_of_ble_eq_true rfl) dX10_leftOf_2 h (fun v1 M H locs I h => ?_)
  refine lv_istore_n (lv' := [(2, .int v1), (0, .ref a0), (1, .int x1)]) X.1 X.2.1 dX10_leftOf_5 rfl hl (by decide) rfl (fun ls hl => ?_)
  refine lv_aload_n X.1 X.2.1 dX10_leftOf_6 rfl (lv_at hl 1 rfl) ?_
  refine mm_rgi X I fl_X10_170 dX10_leftOf_7 h (fun v2 h => ?_)
  refine lv_iload_n X.1 X.2.1 dX10_leftOf_10 rfl (lv_at hl 0 rfl) ?_
  refine lv_isub X.1 X.2.1 dX10_leftOf_11 ?_
  exact mm_xi X I hr hlk dX10_leftOf_12 h
set_option maxHeartbeats 4000000 in
set_option maxRecDepth 100000 in
theorem wpX10_marks_l79 {p : Program} {l : Launch} {e : Env} {s : State} {m : MethodId} {args : Array Value} {below : List Frame} {meth : Method} {c : Code} {D : va_G} {dA : Nat → ClassId} {lo : Nat} (X : mm_C D dA lo cX10_marks RX10 6 p s m args c) (hr : meth.sig.returnType = none) (hlk : meth.locks = false) (n : Nat) {o : mm_M} (k : Nat) : ∀ (M : mm_M) (a0 : Nat) (x2 : Int32) (x3 : Int32) (x4 : Int32) (x5 : Int32) (H : Heap) (locs : List Loc) (ls : Array Slot), mm_I D dA lo s M H locs → lv_has ls 6 [(0, .ref a0), (2, .int x2), (3, .int x3), (4, .int x4), (5, .int x5)] → pX10_marks_l79 n k M a0 x2 x3 x4 x5 = some o → W p l e (mm_rm 3 65 0 0) s m args below meth c H locs 0 0 (MQ below (mm_Q D dA lo none o) args s 0 0 (mm_fr lo)) (F0 m 79 ls []) := by
  induction k with
  | zero =>
    intro M a0 x2 x3 x4 x5 H locs ls I hl h
    have h : (none : Option (mm_M)) = some o := h
    cases h
  | succ k ih =>
    intro M a0 x2 x3 x4 x5 H locs ls I hl h
    have h : pX10_marks_l79b n (pX10_marks_l79 n k) M a0 x2 x3 x4 x5 = some o := h
    unfold pX10_marks_l79b at h
    refine lv_iload X.1 X.2.1 dX10_marks_79 (lv_at hl 4 rfl) ?_
    refine lv_bipush (v := 20) X.1 X.2.1 dX10_marks_81 (by decide) ?_
    refine mm_kge (tgt := 142) X dX10_marks_83 (by decide) h (fun h => ?_) (fun h => ?_)
    · exact mm_xv X I hr hlk dX10_marks_142 h
    · refine lv_aload_n X.1 X.2.1 dX10_marks_86 rfl (lv_at hl 0 rfl) ?_
      refine mm_rgr X I fl_X10_28 dX10_marks_87 h (fun v1 h => ?_)
      refine lv_iload X.1 X.2.1 dX10_marks_90 (lv_at hl 3 rfl) ?_
      refine lv_bipush (v := 12) X.1 X.2.1 dX10_marks_92 (by decide) ?_
      refine lv_iadd X.1 X.2.1 dX10_marks_94 ?_
      refine lv_iload X.1 X.2.1 dX10_marks_95 (lv_at hl 4 rfl) ?_
      refine lv_iadd X.1 X.2.1 dX10_marks_97 ?_
      refine lv_iconst (v := 0) X.1 X.2.1 dX10_marks_98 (by decide) ?_
      refine lv_aload_n X.1 X.2.1 dX10_marks_99 rfl (lv_at hl 0 rfl) ?_
      refine lv_iload_n X.1 X.2.1 dX10_marks_100 rfl (lv_at hl 1 rfl) ?_
      refine lv_iload_n X.1 X.2.1 dX10_marks_101 rfl (lv_at hl 2 rfl) ?_
      refine lv_iload X.1 X.2.1 dX10_marks_102 (lv_at hl 4 rfl) ?_
      refine mm_cVi X I hl (As := [.int x2, .int x3, .int x5]) (ci := 10) md_X10_following mv_X10_following ml_X10_180 rfl (kX10_following (n := n)) (by decide) ⟨Nat.le_refl 0, Nat.le_refl 0⟩ rfl rfl (Nat.le_of_ble_eq_true rfl) dX10_marks_104 h (fun v2 M H locs I h => ?_)
      refine mm_rmax X hl ml_X10_211 (by decide) (Nat.le_of_ble_eq_true rfl) (by decide) (by decide) dX10_marks_107 ?_
      refine mm_ris X I dX10_marks_110 h (fun M H locs I h => ?_)
      refine lv_aload_n X.1 X.2.1 dX10_marks_111 rfl (lv_at hl 0 rfl) ?_
      refine mm_rgr X I fl_X10_28 dX10_marks_112 h (fun v3 h => ?_)
      refine lv_iload X.1 X.2.1 dX10_marks_115 (lv_at hl 3 rfl) ?_
      refine lv_bipush (v := 33) X.1 X.2.1 dX10_marks_117 (by decide) ?_
      refine lv_iadd X.1 X.2.1 dX10_marks_119 ?_
      refine lv_iload X.1 X.2.1 dX10_marks_120 (lv_at hl 4 rfl) ?_
      refine lv_iadd X.1 X.2.1 dX10_marks_122 ?_
      refine lv_iconst (v := 0) X.1 X.2.1 dX10_marks_123 (by decide) ?_
      refine lv_aload_n X.1 X.2.1 dX10_marks_124 rfl (lv_at hl 0 rfl) ?_
      refine lv_iload_n X.1 X.2.1 dX10_marks_125 rfl (lv_at hl 1 rfl) ?_
      refine lv_iload_n X.1 X.2.1 dX10_marks_126 rfl (lv_at hl 2 rfl) ?_
      refine lv_iload X.1 X.2.1 dX10_marks_127 (lv_at hl 4 rfl) ?_
      refine mm_cVi X I hl (As := [.int x2, .int x3, .int x5]) (ci := 10) md_X10_before mv_X10_before ml_X10_187 rfl (kX10_before (n := n)) (by decide) ⟨Nat.le_refl 0, Nat.le_refl 0⟩ rfl rfl (Nat.le_of_ble_eq_true rfl) dX10_marks_129 h (fun v4 M H locs I h => ?_)
      refine mm_rmax X hl ml_X10_211 (by decide) (Nat.le_of_ble_eq_true rfl) (by decide) (by decide) dX10_marks_132 ?_
      refine mm_ris X I dX10_marks_135 h (fun M H locs I h => ?_)
      refine lv_iinc (v := (x5 + 1)) (lv' := [(5, .int (x5 + 1)), (0, .ref a0), (2, .int x2), (3, .int x3), (4, .int x4)]) X.1 X.2.1 dX10_marks_136 hl (k := 4) rfl rfl (by decide) rfl (fun ls hl => ?_)
      refine lv_goto (tgt := 79) X.1 X.2.1 dX10_marks_139 (by decide) ?_
      exact ih M _ _ _ _ _ _ _ _ I (lv_sub hl [1, 2, 3, 4, 0] rfl) h
set_option maxHeartbeats 4000000 in
set_option maxRecDepth 100000 in
theorem kX10_marks {l : Launch} {D : va_G} {dA : Nat → ClassId} {lo : Nat} {n : Nat} {M : mm_M} {a0 : Nat} {x1 : Int32} {x2 : Int32} {x3 : Int32} (o : mm_M) (h : pX10_marks n M a0 x1 x2 x3 = some o) : (∃ fs, M.2 a0 = some (mm_ob 10 fs)) ∧ mm_Met l D dA lo yX10_marks cX10_marks 6 none 3 65 0 0 [.ref a0, .int x1, .int x2, .int x3] M none o := by
  unfold pX10_marks at h
  obtain ⟨hob, h⟩ := mm_v_some h
  refine ⟨hob, mm_enter (by decide) (Nat.le_of_ble_eq_true rfl) (fun p e s m args below meth c ls X hr hlk hnm I hl => ?_)⟩
  have X : mm_C D dA lo cX10_marks RX10 6 p s m args c := X
  have hl : lv_has ls 6 [(0, .ref a0), (1, .int x1), (2, .int x2), (3, .int x3)] := hl
  refine lv_iload_n X.1 X.2.1 dX10_marks_0 rfl (lv_at hl 1 rfl) ?_
  refine mm_cSi X I hl (As := [.int x1]) md_X10_cursorAt mv_X10_cursorAt ml_X10_143 (kX10_cursorAt (n := n)) (by decide) ⟨Nat.le_refl 0, Nat.le_refl 0⟩ rfl rfl (Nat.le_of_ble_eq_true rfl) dX10_marks_1 h (fun v1 M H locs I h => ?_)
  refine lv_istore (lv' := [(4, .int v1), (0, .ref a0), (1, .int x1), (2, .int x2), (3, .int x3)]) X.1 X.2.1 dX10_marks_4 hl (by decide) rfl (fun ls hl => ?_)
  refine lv_aload_n X.1 X.2.1 dX10_marks_6 rfl (lv_at hl 1 rfl) ?_
  refine mm_rgr X I fl_X10_28 dX10_marks_7 h (fun v2 h => ?_)
  refine lv_iload X.1 X.2.1 dX10_marks_10 (lv_at hl 0 rfl) ?_
  refine lv_bipush (v := 8) X.1 X.2.1 dX10_marks_12 (by decide) ?_
  refine lv_iadd X.1 X.2.1 dX10_marks_14 ?_
  refine lv_iconst (v := 1) X.1 X.2.1 dX10_marks_15 (by decide) ?_
  refine mm_ris X I dX10_marks_16 h (fun M H locs I h => ?_)
  refine lv_aload_n X.1 X.2.1 dX10_marks_17 rfl (lv_at hl 1 rfl) ?_
  refine mm_rgr X I fl_X10_28 dX10_marks_18 h (fun v3 h => ?_)
  refine lv_iload X.1 X.2.1 dX10_marks_21 (lv_at hl 0 rfl) ?_
  refine lv_bipush (v := 9) X.1 X.2.1 dX10_marks_23 (by decide) ?_
  refine lv_iadd X.1 X.2.1 dX10_marks_25 ?_
  refine lv_aload_n X.1 X.2.1 dX10_marks_26 rfl (lv_at hl 1 rfl) ?_
  refine lv_iload_n X.1 X.2.1 dX10_marks_27 rfl (lv_at hl 3 rfl) ?_
  refine mm_cVi X I hl (As := [.int x2]) (ci := 10) md_X10_numberOf mv_X10_numberOf ml_X10_190 rfl (kX10_numberOf (n := n)) (by decide) ⟨Nat.le_refl 0, Nat.le_refl 0⟩ rfl rfl (Nat.le_of_ble_eq_true rfl) dX10_marks_28 h (fun v4 M H locs I h => ?_)
  refine mm_ris X I dX10_marks_31 h (fun M H locs I h => ?_)
  refine lv_aload_n X.1 X.2.1 dX10_marks_32 rfl (lv_at hl 1 rfl) ?_
  refine mm_rgr X I fl_X10_28 dX10_marks_33 h (fun v5 h => ?_)
  refine lv_iload X.1 X.2.1 dX10_marks_36 (lv_at hl 0 rfl) ?_
  refine lv_bipush (v := 10) X.1 X.2.1 dX10_marks_38 (by decide) ?_
  refine lv_iadd X.1 X.2.1 dX10_marks_40 ?_
  refine lv_iload_n X.1 X.2.1 dX10_marks_41 rfl (lv_at hl 4 rfl) ?_
  refine mm_ris X I dX10_marks_42 h (fun M H locs I h => ?_)
  refine lv_aload_n X.1 X.2.1 dX10_marks_43 rfl (lv_at hl 1 rfl) ?_
  refine mm_rgr X I fl_X10_28 dX10_marks_44 h (fun v6 h => ?_)
  refine lv_iload X.1 X.2.1 dX10_marks_47 (lv_at hl 0 rfl) ?_
  refine lv_bipush (v := 11) X.1 X.2.1 dX10_marks_49 (by decide) ?_
  refine lv_iadd X.1 X.2.1 dX10_marks_51 ?_
  refine lv_aload_n X.1 X.2.1 dX10_marks_52 rfl (lv_at hl 1 rfl) ?_
  refine lv_iload_n X.1 X.2.1 dX10_marks_53 rfl (lv_at hl 3 rfl) ?_
  refine mm_cVi X I hl (As := [.int x2]) (ci := 10) md_X10_longOf mv_X10_longOf ml_X10_136 rfl (kX10_longOf (n := n)) (by decide) ⟨Nat.le_refl 0, Nat.le_refl 0⟩ rfl rfl (Nat.le_of_ble_eq_true rfl) dX10_marks_54 h (fun v7 M H locs I h => ?_)
  refine lv_iload_n X.1 X.2.1 dX10_marks_57 rfl (lv_at hl 4 rfl) ?_
  refine lv_isub X.1 X.2.1 dX10_marks_58 ?_
  refine lv_aload_n X.1 X.2.1 dX10_marks_59 rfl (lv_at hl 1 rfl) ?_
  refine mm_rgi X I fl_X10_173 dX10_marks_60 h (fun v8 h => ?_)
  refine lv_isub X.1 X.2.1 dX10_marks_63 ?_
  refine mm_ris X I dX10_marks_64 h (fun M H locs I h => ?_)
  refine lv_aload_n X.1 X.2.1 dX10_marks_65 rfl (lv_at hl 1 rfl) ?_
  refine mm_rgr X I fl_X10_28 dX10_marks_66 h (fun v9 h => ?_)
  refine lv_iload X.1 X.2.1 dX10_marks_69 (lv_at hl 0 rfl) ?_
  refine lv_bipush (v := 32) X.1 X.2.1 dX10_marks_71 (by decide) ?_
  refine lv_iadd X.1 X.2.1 dX10_marks_73 ?_
  refine lv_iload_n X.1 X.2.1 dX10_marks_74 rfl (lv_at hl 4 rfl) ?_
  refine mm_ris X I dX10_marks_75 h (fun M H locs I h => ?_)
  refine lv_iconst (v := 0) X.1 X.2.1 dX10_marks_76 (by decide) ?_
  refine lv_istore (lv' := [(5, .int 0), (4, .int v1), (0, .ref a0), (1, .int x1), (2, .int x2), (3, .int x3)]) X.1 X.2.1 dX10_marks_77 hl (by decide) rfl (fun ls hl => ?_)
  exact wpX10_marks_l79 X hr hlk n  n M _ _ _ _ _ _ _ _ I (lv_sub hl [2, 4, 5, 1, 0] rfl) h
set_option maxHeartbeats 4000000 in
set_option maxRecDepth 100000 in
theorem wpX10_pagesNow_b124 {p : Program} {l : Launch} {e : Env} {s : State} {m : MethodId} {args : Array Value} {below : List Frame} {meth : Method} {c : Code} {D : va_G} {dA : Nat → ClassId} {lo : Nat} (X : mm_C D dA lo cX10_pagesNow RX10 6 p s m args c) (hr : meth.sig.returnType = (some .int)) (hlk : meth.locks = false) (n : Nat) {o : Int32 × mm_M}  : ∀ (M : mm_M) (a0 : Nat) (x1 : Int32) (x3 : Int32) (x4 : Int32) (H : Heap) (locs : List Loc) (ls : Array Slot), mm_I D dA lo s M H locs → lv_has ls 6 [(0, .ref a0), (1, .int x1), (3, .int x3), (4, .int x4)] → pX10_pagesNow_b124 n M a0 x1 x3 x4 = some o → W p l e (mm_rm 7 162 0 0) s m args below meth c H locs 0 0 (MQ below (mm_Q D dA lo (some (.int o.1)) o.2) args s 0 0 (mm_fr lo)) (F0 m 124 ls []) := by
  intro M a0 x1 x3 x4 H locs ls I hl h
  unfold pX10_pagesNow_b124 at h
  refine lv_iload X.1 X.2.1 dX10_pagesNow_124 (lv_at hl 3 rfl) ?_
  refine mm_jle (tgt := 156) X dX10_pagesNow_126 (by decide) h (fun h => ?_) (fun h => ?_)
  · refine lv_iload X.1 X.2.1 dX10_pagesNow_156 (lv_at hl 3 rfl) ?_
    exact mm_xi X I hr hlk dX10_pagesNow_158 h
  · refine lv_aload_n X.1 X.2.1 dX10_pagesNow_129 rfl (lv_at hl 0 rfl) ?_
    refine lv_iload_n X.1 X.2.1 dX10_pagesNow_130 rfl (lv_at hl 1 rfl) ?_
    refine lv_aload_n X.1 X.2.1 dX10_pagesNow_131 rfl (lv_at hl 0 rfl) ?_
    refine mm_rgr X I fl_X10_37 dX10_pagesNow_132 h (fun v1 h => ?_)
    refine lv_iload_n X.1 X.2.1 dX10_pagesNow_135 rfl (lv_at hl 2 rfl) ?_
    refine lv_iload X.1 X.2.1 dX10_pagesNow_136 (lv_at hl 3 rfl) ?_
    refine lv_iadd X.1 X.2.1 dX10_pagesNow_138 ?_
    refine lv_iconst (v := 1) X.1 X.2.1 dX10_pagesNow_139 (by decide) ?_
    refine lv_isub X.1 X.2.1 dX10_pagesNow_140 ?_
    refine mm_ria X I dX10_pagesNow_141 h (fun v2 h => ?_)
    refine lv_aload_n X.1 X.2.1 dX10_pagesNow_142 rfl (lv_at hl 0 rfl) ?_
    refine mm_rgr X I fl_X10_40 dX10_pagesNow_143 h (fun v3 h => ?_)
    refine lv_iload_n X.1 X.2.1 dX10_pagesNow_146 rfl (lv_at hl 2 rfl) ?_
    refine lv_iload X.1 X.2.1 dX10_pagesNow_147 (lv_at hl 3 rfl) ?_
    refine lv_iadd X.1 X.2.1 dX10_pagesNow_149 ?_
    refine lv_iconst (v := 1) X.1 X.2.1 dX10_pagesNow_150 (by decide) ?_
    refine lv_isub X.1 X.2.1 dX10_pagesNow_151 ?_
    refine mm_ria X I dX10_pagesNow_152 h (fun v4 h => ?_)
    refine mm_cVv X I hl (As := [.int x1, .int v2, .int v4]) (ci := 10) md_X10_marks mv_X10_marks ml_X10_219 rfl (kX10_marks (n := n)) (by decide) ⟨Nat.le_refl 0, Nat.le_refl 0⟩ rfl rfl (Nat.le_of_ble_eq_true rfl) dX10_pagesNow_153 h (fun M H locs I h => ?_)
    refine lv_iload X.1 X.2.1 dX10_pagesNow_156 (lv_at hl 3 rfl) ?_
    exact mm_xi X I hr hlk dX10_pagesNow_158 h
set_option maxHeartbeats 4000000 in
set_option maxRecDepth 100000 in
theorem wpX10_pagesNow_l59 {p : Program} {l : Launch} {e : Env} {s : State} {m : MethodId} {args : Array Value} {below : List Frame} {meth : Method} {c : Code} {D : va_G} {dA : Nat → ClassId} {lo : Nat} (X : mm_C D dA lo cX10_pagesNow RX10 6 p s m args c) (hr : meth.sig.returnType = (some .int)) (hlk : meth.locks = false) (n : Nat) {o : Int32 × mm_M} (k : Nat) : ∀ (M : mm_M) (a0 : Nat) (x1 : Int32) (x2 : Int32) (x3 : Int32) (x4 : Int32) (x5 : Int32) (H : Heap) (locs : List Loc) (ls : Array Slot), mm_I D dA lo s M H locs → lv_has ls 6 [(0, .ref a0), (1, .int x1), (2, .int x2), (3, .int x3), (4, .int x4), (5, .int x5)] → pX10_pagesNow_l59 n k M a0 x1 x2 x3 x4 x5 = some o → W p l e (mm_rm 7 162 0 0) s m args below meth c H locs 0 0 (MQ below (mm_Q D dA lo (some (.int o.1)) o.2) args s 0 0 (mm_fr lo)) (F0 m 59 ls []) := by
  induction k with
  | zero =>
    intro M a0 x1 x2 x3 x4 x5 H locs ls I hl h
    have h : (none : Option (Int32 × mm_M)) = some o := h
    cases h
  | succ k ih =>
    intro M a0 x1 x2 x3 x4 x5 H locs ls I hl h
    have h : pX10_pagesNow_l59b n (pX10_pagesNow_l59 n k) M a0 x1 x2 x3 x4 x5 = some o := h
    unfold pX10_pagesNow_l59b at h
    refine lv_iload X.1 X.2.1 dX10_pagesNow_59 (lv_at hl 5 rfl) ?_
    refine lv_iload X.1 X.2.1 dX10_pagesNow_61 (lv_at hl 4 rfl) ?_
    refine mm_kge (tgt := 124) X dX10_pagesNow_63 (by decide) h (fun h => ?_) (fun h => ?_)
    · exact wpX10_pagesNow_b124 X hr hlk n  M _ _ _ _ _ _ _ I (lv_sub hl [0, 1, 3, 4] rfl) h
    · refine lv_aload_n X.1 X.2.1 dX10_pagesNow_66 rfl (lv_at hl 0 rfl) ?_
      refine mm_rgr X I fl_X10_28 dX10_pagesNow_67 h (fun v1 h => ?_)
      refine lv_iload_n X.1 X.2.1 dX10_pagesNow_70 rfl (lv_at hl 2 rfl) ?_
      refine lv_bipush (v := 55) X.1 X.2.1 dX10_pagesNow_71 (by decide) ?_
      refine lv_iadd X.1 X.2.1 dX10_pagesNow_73 ?_
      refine lv_iconst (v := 2) X.1 X.2.1 dX10_pagesNow_74 (by decide) ?_
      refine lv_iload X.1 X.2.1 dX10_pagesNow_75 (lv_at hl 5 rfl) ?_
      refine lv_imul X.1 X.2.1 dX10_pagesNow_77 ?_
      refine lv_iadd X.1 X.2.1 dX10_pagesNow_78 ?_
      refine lv_aload_n X.1 X.2.1 dX10_pagesNow_79 rfl (lv_at hl 0 rfl) ?_
      refine lv_aload_n X.1 X.2.1 dX10_pagesNow_80 rfl (lv_at hl 0 rfl) ?_
      refine mm_rgr X I fl_X10_37 dX10_pagesNow_81 h (fun v2 h => ?_)
      refine lv_iload_n X.1 X.2.1 dX10_pagesNow_84 rfl (lv_at hl 3 rfl) ?_
      refine lv_iload X.1 X.2.1 dX10_pagesNow_85 (lv_at hl 5 rfl) ?_
      refine lv_iadd X.1 X.2.1 dX10_pagesNow_87 ?_
      refine mm_ria X I dX10_pagesNow_88 h (fun v3 h => ?_)
      refine mm_cVi X I hl (As := [.int v3]) (ci := 10) md_X10_numberOf mv_X10_numberOf ml_X10_190 rfl (kX10_numberOf (n := n)) (by decide) ⟨Nat.le_refl 0, Nat.le_refl 0⟩ rfl rfl (Nat.le_of_ble_eq_true rfl) dX10_pagesNow_89 h (fun v4 M H locs I h => ?_)
      refine mm_ris X I dX10_pagesNow_92 h (fun M H locs I h => ?_)
      refine lv_aload_n X.1 X.2.1 dX10_pagesNow_93 rfl (lv_at hl 0 rfl) ?_
      refine mm_rgr X I fl_X10_28 dX10_pagesNow_94 h (fun v5 h => ?_)
      refine lv_iload_n X.1 X.2.1 dX10_pagesNow_97 rfl (lv_at hl 2 rfl) ?_
      refine lv_bipush (v := 55) X.1 X.2.1 dX10_pagesNow_98 (by decide) ?_
      refine lv_iadd X.1 X.2.1 dX10_pagesNow_100 ?_
      refine lv_iconst (v := 2) X.1 X.2.1 dX10_pagesNow_101 (by decide) ?_
      refine lv_iload X.1 X.2.1 dX10_pagesNow_102 (lv_at hl 5 rfl) ?_
      refine lv_imul X.1 X.2.1 dX10_pagesNow_104 ?_
      refine lv_iadd X.1 X.2.1 dX10_pagesNow_105 ?_
      refine lv_iconst (v := 1) X.1 X.2.1 dX10_pagesNow_106 (by decide) ?_
      refine lv_iadd X.1 X.2.1 dX10_pagesNow_107 ?_
      refine lv_aload_n X.1 X.2.1 dX10_pagesNow_108 rfl (lv_at hl 0 rfl) ?_
      refine mm_rgr X I fl_X10_40 dX10_pagesNow_109 h (fun v6 h => ?_)
      refine lv_iload_n X.1 X.2.1 dX10_pagesNow_112 rfl (lv_at hl 3 rfl) ?_
      refine lv_iload X.1 X.2.1 dX10_pagesNow_113 (lv_at hl 5 rfl) ?_
      refine lv_iadd X.1 X.2.1 dX10_pagesNow_115 ?_
      refine mm_ria X I dX10_pagesNow_116 h (fun v7 h => ?_)
      refine mm_ris X I dX10_pagesNow_117 h (fun M H locs I h => ?_)
      refine lv_iinc (v := (x5 + 1)) (lv' := [(5, .int (x5 + 1)), (0, .ref a0), (1, .int x1), (2, .int x2), (3, .int x3), (4, .int x4)]) X.1 X.2.1 dX10_pagesNow_118 hl (k := 5) rfl rfl (by decide) rfl (fun ls hl => ?_)
      refine lv_goto (tgt := 59) X.1 X.2.1 dX10_pagesNow_121 (by decide) ?_
      exact ih M _ _ _ _ _ _ _ _ _ I (lv_sub hl [1, 2, 3, 4, 5, 0] rfl) h
set_option maxHeartbeats 4000000 in
set_option maxRecDepth 100000 in
theorem kX10_pagesNow {l : Launch} {D : va_G} {dA : Nat → ClassId} {lo : Nat} {n : Nat} {M : mm_M} {a0 : Nat} {x1 : Int32} (o : Int32 × mm_M) (h : pX10_pagesNow n M a0 x1 = some o) : (∃ fs, M.2 a0 = some (mm_ob 10 fs)) ∧ mm_Met l D dA lo yX10_pagesNow cX10_pagesNow 6 (some .int) 7 162 0 0 [.ref a0, .int x1] M (some (.int o.1)) o.2 := by
  unfold pX10_pagesNow at h
  obtain ⟨hob, h⟩ := mm_v_some h
  refine ⟨hob, mm_enter (by decide) (Nat.le_of_ble_eq_true rfl) (fun p e s m args below meth c ls X hr hlk hnm I hl => ?_)⟩
  have X : mm_C D dA lo cX10_pagesNow RX10 6 p s m args c := X
  have hl : lv_has ls 6 [(0, .ref a0), (1, .int x1)] := hl
  refine lv_iload_n X.1 X.2.1 dX10_pagesNow_0 rfl (lv_at hl 1 rfl) ?_
  refine mm_cSi X I hl (As := [.int x1]) md_X10_cursorAt mv_X10_cursorAt ml_X10_143 (kX10_cursorAt (n := n)) (by decide) ⟨Nat.le_refl 0, Nat.le_refl 0⟩ rfl rfl (Nat.le_of_ble_eq_true rfl) dX10_pagesNow_1 h (fun v1 M H locs I h => ?_)
  refine lv_istore_n (lv' := [(2, .int v1), (0, .ref a0), (1, .int x1)]) X.1 X.2.1 dX10_pagesNow_4 rfl hl (by decide) rfl (fun ls hl => ?_)
  refine lv_aload_n X.1 X.2.1 dX10_pagesNow_5 rfl (lv_at hl 1 rfl) ?_
  refine lv_iload_n X.1 X.2.1 dX10_pagesNow_6 rfl (lv_at hl 2 rfl) ?_
  refine mm_cVi X I hl (As := [.int x1]) (ci := 10) md_X10_firstLeft mv_X10_firstLeft ml_X10_208 rfl (kX10_firstLeft (n := n)) (by decide) ⟨Nat.le_refl 0, Nat.le_refl 0⟩ rfl rfl (Nat.le_of_ble_eq_true rfl) dX10_pagesNow_7 h (fun v2 M H locs I h => ?_)
  refine lv_istore_n (lv' := [(3, .int v2), (2, .int v1), (0, .ref a0), (1, .int x1)]) X.1 X.2.1 dX10_pagesNow_10 rfl hl (by decide) rfl (fun ls hl => ?_)
  refine lv_aload_n X.1 X.2.1 dX10_pagesNow_11 rfl (lv_at hl 2 rfl) ?_
  refine mm_rgr X I fl_X10_28 dX10_pagesNow_12 h (fun v3 h => ?_)
  refine lv_iload_n X.1 X.2.1 dX10_pagesNow_15 rfl (lv_at hl 1 rfl) ?_
  refine lv_bipush (v := 7) X.1 X.2.1 dX10_pagesNow_16 (by decide) ?_
  refine lv_iadd X.1 X.2.1 dX10_pagesNow_18 ?_
  refine mm_ria X I dX10_pagesNow_19 h (fun v4 h => ?_)
  refine lv_aload_n X.1 X.2.1 dX10_pagesNow_20 rfl (lv_at hl 2 rfl) ?_
  refine mm_rgi X I fl_X10_170 dX10_pagesNow_21 h (fun v5 h => ?_)
  refine lv_iload_n X.1 X.2.1 dX10_pagesNow_24 rfl (lv_at hl 0 rfl) ?_
  refine lv_isub X.1 X.2.1 dX10_pagesNow_25 ?_
  refine mm_rmin X hl ml_X10_216 (by decide) (Nat.le_of_ble_eq_true rfl) (by decide) (by decide) dX10_pagesNow_26 ?_
  refine lv_istore (lv' := [(4, .int (mm_min v4 (v5 - v2))), (3, .int v2), (2, .int v1), (0, .ref a0), (1, .int x1)]) X.1 X.2.1 dX10_pagesNow_29 hl (by decide) rfl (fun ls hl => ?_)
  refine lv_aload_n X.1 X.2.1 dX10_pagesNow_31 rfl (lv_at hl 3 rfl) ?_
  refine mm_rgr X I fl_X10_28 dX10_pagesNow_32 h (fun v6 h => ?_)
  refine lv_iload_n X.1 X.2.1 dX10_pagesNow_35 rfl (lv_at hl 2 rfl) ?_
  refine lv_bipush (v := 53) X.1 X.2.1 dX10_pagesNow_36 (by decide) ?_
  refine lv_iadd X.1 X.2.1 dX10_pagesNow_38 ?_
  refine lv_iload X.1 X.2.1 dX10_pagesNow_39 (lv_at hl 0 rfl) ?_
  refine mm_ris X I dX10_pagesNow_41 h (fun M H locs I h => ?_)
  refine lv_aload_n X.1 X.2.1 dX10_pagesNow_42 rfl (lv_at hl 3 rfl) ?_
  refine mm_rgr X I fl_X10_28 dX10_pagesNow_43 h (fun v7 h => ?_)
  refine lv_iload_n X.1 X.2.1 dX10_pagesNow_46 rfl (lv_at hl 2 rfl) ?_
  refine lv_bipush (v := 54) X.1 X.2.1 dX10_pagesNow_47 (by decide) ?_
  refine lv_iadd X.1 X.2.1 dX10_pagesNow_49 ?_
  refine lv_dup2_11 X.1 X.2.1 dX10_pagesNow_50 rfl rfl ?_
  refine mm_ria X I dX10_pagesNow_51 h (fun v8 h => ?_)
  refine lv_iload X.1 X.2.1 dX10_pagesNow_52 (lv_at hl 0 rfl) ?_
  refine lv_iadd X.1 X.2.1 dX10_pagesNow_54 ?_
  refine mm_ris X I dX10_pagesNow_55 h (fun M H locs I h => ?_)
  refine lv_iconst (v := 0) X.1 X.2.1 dX10_pagesNow_56 (by decide) ?_
  refine lv_istore (lv' := [(5, .int 0), (4, .int (mm_min v4 (v5 - v2))), (3, .int v2), (2, .int v1), (0, .ref a0), (1, .int x1)]) X.1 X.2.1 dX10_pagesNow_57 hl (by decide) rfl (fun ls hl => ?_)
  exact wpX10_pagesNow_l59 X hr hlk n  n M _ _ _ _ _ _ _ _ _ I (lv_sub hl [4, 5, 3, 2, 1, 0] rfl) h
set_option maxHeartbeats 4000000 in
set_option maxRecDepth 100000 in
theorem wpX10_rewindsNow_l8 {p : Program} {l : Launch} {e : Env} {s : State} {m : MethodId} {args : Array Value} {below : List Frame} {meth : Method} {c : Code} {D : va_G} {dA : Nat → ClassId} {lo : Nat} (X : mm_C D dA lo cX10_rewindsNow RX10 4 p s m args c) (hr : meth.sig.returnType = (some .int)) (hlk : meth.locks = false) (n : Nat) {o : Int32 × mm_M} (k : Nat) : ∀ (M : mm_M) (a0 : Nat) (x1 : Int32) (x2 : Int32) (x3 : Int32) (H : Heap) (locs : List Loc) (ls : Array Slot), mm_I D dA lo s M H locs → lv_has ls 4 [(0, .ref a0), (1, .int x1), (2, .int x2), (3, .int x3)] → pX10_rewindsNow_l8 n k M a0 x1 x2 x3 = some o → W p l e (mm_rm 8 184 0 0) s m args below meth c H locs 0 0 (MQ below (mm_Q D dA lo (some (.int o.1)) o.2) args s 0 0 (mm_fr lo)) (F0 m 8 ls []) := by
  induction k with
  | zero =>
    intro M a0 x1 x2 x3 H locs ls I hl h
    have h : (none : Option (Int32 × mm_M)) = some o := h
    cases h
  | succ k ih =>
    intro M a0 x1 x2 x3 H locs ls I hl h
    have h : pX10_rewindsNow_l8b n (pX10_rewindsNow_l8 n k) M a0 x1 x2 x3 = some o := h
    unfold pX10_rewindsNow_l8b at h
    refine lv_iload_n X.1 X.2.1 dX10_rewindsNow_8 rfl (lv_at hl 3 rfl) ?_
    refine lv_bipush (v := 73) X.1 X.2.1 dX10_rewindsNow_9 (by decide) ?_
    refine mm_kge (tgt := 29) X dX10_rewindsNow_11 (by decide) h (fun h => ?_) (fun h => ?_)
    · refine lv_aload_n X.1 X.2.1 dX10_rewindsNow_29 rfl (lv_at hl 0 rfl) ?_
      refine lv_iload_n X.1 X.2.1 dX10_rewindsNow_30 rfl (lv_at hl 1 rfl) ?_
      refine mm_cVi X I hl (As := [.int x1]) (ci := 10) md_X10_leftOf mv_X10_leftOf ml_X10_223 rfl (kX10_leftOf (n := n)) (by decide) ⟨Nat.le_refl 0, Nat.le_refl 0⟩ rfl rfl (Nat.le_of_ble_eq_true rfl) dX10_rewindsNow_31 h (fun v1 M H locs I h => ?_)
      exact mm_xi X I hr hlk dX10_rewindsNow_34 h
    · refine lv_aload_n X.1 X.2.1 dX10_rewindsNow_14 rfl (lv_at hl 0 rfl) ?_
      refine mm_rgr X I fl_X10_28 dX10_rewindsNow_15 h (fun v2 h => ?_)
      refine lv_iload_n X.1 X.2.1 dX10_rewindsNow_18 rfl (lv_at hl 2 rfl) ?_
      refine lv_iload_n X.1 X.2.1 dX10_rewindsNow_19 rfl (lv_at hl 3 rfl) ?_
      refine lv_iadd X.1 X.2.1 dX10_rewindsNow_20 ?_
      refine lv_iconst (v := 0) X.1 X.2.1 dX10_rewindsNow_21 (by decide) ?_
      refine mm_ris X I dX10_rewindsNow_22 h (fun M H locs I h => ?_)
      refine lv_iinc (v := (x3 + 1)) (lv' := [(3, .int (x3 + 1)), (0, .ref a0), (1, .int x1), (2, .int x2)]) X.1 X.2.1 dX10_rewindsNow_23 hl (k := 3) rfl rfl (by decide) rfl (fun ls hl => ?_)
      refine lv_goto (tgt := 8) X.1 X.2.1 dX10_rewindsNow_26 (by decide) ?_
      exact ih M _ _ _ _ _ _ _ I (lv_sub hl [1, 2, 3, 0] rfl) h
set_option maxHeartbeats 4000000 in
set_option maxRecDepth 100000 in
theorem kX10_rewindsNow {l : Launch} {D : va_G} {dA : Nat → ClassId} {lo : Nat} {n : Nat} {M : mm_M} {a0 : Nat} {x1 : Int32} (o : Int32 × mm_M) (h : pX10_rewindsNow n M a0 x1 = some o) : (∃ fs, M.2 a0 = some (mm_ob 10 fs)) ∧ mm_Met l D dA lo yX10_rewindsNow cX10_rewindsNow 4 (some .int) 8 184 0 0 [.ref a0, .int x1] M (some (.int o.1)) o.2 := by
  unfold pX10_rewindsNow at h
  obtain ⟨hob, h⟩ := mm_v_some h
  refine ⟨hob, mm_enter (by decide) (Nat.le_of_ble_eq_true rfl) (fun p e s m args below meth c ls X hr hlk hnm I hl => ?_)⟩
  have X : mm_C D dA lo cX10_rewindsNow RX10 4 p s m args c := X
  have hl : lv_has ls 4 [(0, .ref a0), (1, .int x1)] := hl
  refine lv_iload_n X.1 X.2.1 dX10_rewindsNow_0 rfl (lv_at hl 1 rfl) ?_
  refine mm_cSi X I hl (As := [.int x1]) md_X10_cursorAt mv_X10_cursorAt ml_X10_143 (kX10_cursorAt (n := n)) (by decide) ⟨Nat.le_refl 0, Nat.le_refl 0⟩ rfl rfl (Nat.le_of_ble_eq_true rfl) dX10_rewindsNow_1 h (fun v1 M H locs I h => ?_)
  refine lv_istore_n (lv' := [(2, .int v1), (0, .ref a0), (1, .int x1)]) X.1 X.2.1 dX10_rewindsNow_4 rfl hl (by decide) rfl (fun ls hl => ?_)
  refine lv_bipush (v := 8) X.1 X.2.1 dX10_rewindsNow_5 (by decide) ?_
  refine lv_istore_n (lv' := [(3, .int 8), (2, .int v1), (0, .ref a0), (1, .int x1)]) X.1 X.2.1 dX10_rewindsNow_7 rfl hl (by decide) rfl (fun ls hl => ?_)
  exact wpX10_rewindsNow_l8 X hr hlk n  n M _ _ _ _ _ _ _ I (lv_sub hl [2, 3, 1, 0] rfl) h
set_option maxHeartbeats 4000000 in
set_option maxRecDepth 100000 in
theorem wpX10_laysNow_l58 {p : Program} {l : Launch} {e : Env} {s : State} {m : MethodId} {args : Array Value} {below : List Frame} {meth : Method} {c : Code} {D : va_G} {dA : Nat → ClassId} {lo : Nat} (X : mm_C D dA lo cX10_laysNow RX10 8 p s m args c) (hr : meth.sig.returnType = (some .int)) (hlk : meth.locks = false) (n : Nat) {o : Int32 × mm_M} (k : Nat) : ∀ (M : mm_M) (a0 : Nat) (x1 : Int32) (a3 : Nat) (x4 : Int32) (x5 : Int32) (x6 : Int32) (x7 : Int32) (H : Heap) (locs : List Loc) (ls : Array Slot), mm_I D dA lo s M H locs → lv_has ls 8 [(0, .ref a0), (1, .int x1), (3, .ref a3), (4, .int x4), (5, .int x5), (6, .int x6), (7, .int x7)] → pX10_laysNow_l58 n k M a0 x1 a3 x4 x5 x6 x7 = some o → W p l e (mm_rm 8 184 0 0) s m args below meth c H locs 0 0 (MQ below (mm_Q D dA lo (some (.int o.1)) o.2) args s 0 0 (mm_fr lo)) (F0 m 58 ls []) := by
  induction k with
  | zero =>
    intro M a0 x1 a3 x4 x5 x6 x7 H locs ls I hl h
    have h : (none : Option (Int32 × mm_M)) = some o := h
    cases h
  | succ k ih =>
    intro M a0 x1 a3 x4 x5 x6 x7 H locs ls I hl h
    have h : pX10_laysNow_l58b n (pX10_laysNow_l58 n k) M a0 x1 a3 x4 x5 x6 x7 = some o := h
    unfold pX10_laysNow_l58b at h
    refine lv_iload X.1 X.2.1 dX10_laysNow_58 (lv_at hl 6 rfl) ?_
    refine lv_iload X.1 X.2.1 dX10_laysNow_60 (lv_at hl 4 rfl) ?_
    refine mm_kge (tgt := 90) X dX10_laysNow_62 (by decide) h (fun h => ?_) (fun h => ?_)
    · refine lv_aload_n X.1 X.2.1 dX10_laysNow_90 rfl (lv_at hl 0 rfl) ?_
      refine lv_iload_n X.1 X.2.1 dX10_laysNow_91 rfl (lv_at hl 1 rfl) ?_
      refine mm_cVi X I hl (As := [.int x1]) (ci := 10) md_X10_leftOf mv_X10_leftOf ml_X10_223 rfl (kX10_leftOf (n := n)) (by decide) ⟨Nat.le_refl 0, Nat.le_refl 0⟩ rfl rfl (Nat.le_of_ble_eq_true rfl) dX10_laysNow_92 h (fun v1 M H locs I h => ?_)
      exact mm_xi X I hr hlk dX10_laysNow_95 h
    · refine lv_aload_n X.1 X.2.1 dX10_laysNow_65 rfl (lv_at hl 0 rfl) ?_
      refine mm_rgr X I fl_X10_28 dX10_laysNow_66 h (fun v2 h => ?_)
      refine lv_iload X.1 X.2.1 dX10_laysNow_69 (lv_at hl 5 rfl) ?_
      refine lv_iconst (v := 1) X.1 X.2.1 dX10_laysNow_71 (by decide) ?_
      refine lv_iadd X.1 X.2.1 dX10_laysNow_72 ?_
      refine lv_iload X.1 X.2.1 dX10_laysNow_73 (lv_at hl 6 rfl) ?_
      refine lv_iadd X.1 X.2.1 dX10_laysNow_75 ?_
      refine lv_aload_n X.1 X.2.1 dX10_laysNow_76 rfl (lv_at hl 2 rfl) ?_
      refine lv_iload X.1 X.2.1 dX10_laysNow_77 (lv_at hl 3 rfl) ?_
      refine lv_iload X.1 X.2.1 dX10_laysNow_79 (lv_at hl 6 rfl) ?_
      refine lv_iadd X.1 X.2.1 dX10_laysNow_81 ?_
      refine mm_ria X I dX10_laysNow_82 h (fun v3 h => ?_)
      refine mm_ris X I dX10_laysNow_83 h (fun M H locs I h => ?_)
      refine lv_iinc (v := (x7 + 1)) (lv' := [(7, .int (x7 + 1)), (0, .ref a0), (1, .int x1), (3, .ref a3), (4, .int x4), (5, .int x5), (6, .int x6)]) X.1 X.2.1 dX10_laysNow_84 hl (k := 6) rfl rfl (by decide) rfl (fun ls hl => ?_)
      refine lv_goto (tgt := 58) X.1 X.2.1 dX10_laysNow_87 (by decide) ?_
      exact ih M _ _ _ _ _ _ _ _ _ _ I (lv_sub hl [1, 2, 3, 4, 5, 6, 0] rfl) h
set_option maxHeartbeats 4000000 in
set_option maxRecDepth 100000 in
theorem wpX10_laysNow_b33 {p : Program} {l : Launch} {e : Env} {s : State} {m : MethodId} {args : Array Value} {below : List Frame} {meth : Method} {c : Code} {D : va_G} {dA : Nat → ClassId} {lo : Nat} (X : mm_C D dA lo cX10_laysNow RX10 8 p s m args c) (hr : meth.sig.returnType = (some .int)) (hlk : meth.locks = false) (n : Nat) {o : Int32 × mm_M}  : ∀ (M : mm_M) (a0 : Nat) (x1 : Int32) (x2 : Int32) (a3 : Nat) (x4 : Int32) (x5 : Int32) (x6 : Int32) (H : Heap) (locs : List Loc) (ls : Array Slot), mm_I D dA lo s M H locs → lv_has ls 8 [(0, .ref a0), (1, .int x1), (2, .int x2), (3, .ref a3), (4, .int x4), (5, .int x5), (6, .int x6)] → pX10_laysNow_b33 n M a0 x1 x2 a3 x4 x5 x6 = some o → W p l e (mm_rm 8 184 0 0) s m args below meth c H locs 0 0 (MQ below (mm_Q D dA lo (some (.int o.1)) o.2) args s 0 0 (mm_fr lo)) (F0 m 33 ls []) := by
  intro M a0 x1 x2 a3 x4 x5 x6 H locs ls I hl h
  unfold pX10_laysNow_b33 at h
  refine lv_aload_n X.1 X.2.1 dX10_laysNow_33 rfl (lv_at hl 0 rfl) ?_
  refine mm_rgr X I fl_X10_28 dX10_laysNow_34 h (fun v1 h => ?_)
  refine lv_iload X.1 X.2.1 dX10_laysNow_37 (lv_at hl 6 rfl) ?_
  refine lv_iconst (v := 0) X.1 X.2.1 dX10_laysNow_39 (by decide) ?_
  refine lv_iadd X.1 X.2.1 dX10_laysNow_40 ?_
  refine lv_iload X.1 X.2.1 dX10_laysNow_41 (lv_at hl 5 rfl) ?_
  refine mm_ris X I dX10_laysNow_43 h (fun M H locs I h => ?_)
  refine lv_aload_n X.1 X.2.1 dX10_laysNow_44 rfl (lv_at hl 0 rfl) ?_
  refine mm_rgr X I fl_X10_28 dX10_laysNow_45 h (fun v2 h => ?_)
  refine lv_iload X.1 X.2.1 dX10_laysNow_48 (lv_at hl 6 rfl) ?_
  refine lv_bipush (v := 7) X.1 X.2.1 dX10_laysNow_50 (by decide) ?_
  refine lv_iadd X.1 X.2.1 dX10_laysNow_52 ?_
  refine lv_iload_n X.1 X.2.1 dX10_laysNow_53 rfl (lv_at hl 2 rfl) ?_
  refine mm_ris X I dX10_laysNow_54 h (fun M H locs I h => ?_)
  refine lv_iconst (v := 0) X.1 X.2.1 dX10_laysNow_55 (by decide) ?_
  refine lv_istore (lv' := [(7, .int 0), (0, .ref a0), (1, .int x1), (2, .int x2), (3, .ref a3), (4, .int x4), (5, .int x5), (6, .int x6)]) X.1 X.2.1 dX10_laysNow_56 hl (by decide) rfl (fun ls hl => ?_)
  exact wpX10_laysNow_l58 X hr hlk n  n M _ _ _ _ _ _ _ _ _ _ I (lv_sub hl [1, 2, 4, 5, 6, 7, 0] rfl) h
set_option maxHeartbeats 4000000 in
set_option maxRecDepth 100000 in
theorem wpX10_laysNow_l9 {p : Program} {l : Launch} {e : Env} {s : State} {m : MethodId} {args : Array Value} {below : List Frame} {meth : Method} {c : Code} {D : va_G} {dA : Nat → ClassId} {lo : Nat} (X : mm_C D dA lo cX10_laysNow RX10 8 p s m args c) (hr : meth.sig.returnType = (some .int)) (hlk : meth.locks = false) (n : Nat) {o : Int32 × mm_M} (k : Nat) : ∀ (M : mm_M) (a0 : Nat) (x1 : Int32) (x2 : Int32) (a3 : Nat) (x4 : Int32) (x5 : Int32) (x6 : Int32) (x7 : Int32) (H : Heap) (locs : List Loc) (ls : Array Slot), mm_I D dA lo s M H locs → lv_has ls 8 [(0, .ref a0), (1, .int x1), (2, .int x2), (3, .ref a3), (4, .int x4), (5, .int x5), (6, .int x6), (7, .int x7)] → pX10_laysNow_l9 n k M a0 x1 x2 a3 x4 x5 x6 x7 = some o → W p l e (mm_rm 8 184 0 0) s m args below meth c H locs 0 0 (MQ below (mm_Q D dA lo (some (.int o.1)) o.2) args s 0 0 (mm_fr lo)) (F0 m 9 ls []) := by
  induction k with
  | zero =>
    intro M a0 x1 x2 a3 x4 x5 x6 x7 H locs ls I hl h
    have h : (none : Option (Int32 × mm_M)) = some o := h
    cases h
  | succ k ih =>
    intro M a0 x1 x2 a3 x4 x5 x6 x7 H locs ls I hl h
    have h : pX10_laysNow_l9b n (pX10_laysNow_l9 n k) M a0 x1 x2 a3 x4 x5 x6 x7 = some o := h
    unfold pX10_laysNow_l9b at h
    refine lv_iload X.1 X.2.1 dX10_laysNow_9 (lv_at hl 7 rfl) ?_
    refine lv_bipush (v := 73) X.1 X.2.1 dX10_laysNow_11 (by decide) ?_
    refine mm_kge (tgt := 33) X dX10_laysNow_13 (by decide) h (fun h => ?_) (fun h => ?_)
    · exact wpX10_laysNow_b33 X hr hlk n  M _ _ _ _ _ _ _ _ _ _ I (lv_sub hl [0, 1, 2, 3, 4, 5, 6] rfl) h
    · refine lv_aload_n X.1 X.2.1 dX10_laysNow_16 rfl (lv_at hl 0 rfl) ?_
      refine mm_rgr X I fl_X10_28 dX10_laysNow_17 h (fun v1 h => ?_)
      refine lv_iload X.1 X.2.1 dX10_laysNow_20 (lv_at hl 6 rfl) ?_
      refine lv_iload X.1 X.2.1 dX10_laysNow_22 (lv_at hl 7 rfl) ?_
      refine lv_iadd X.1 X.2.1 dX10_laysNow_24 ?_
      refine lv_iconst (v := 0) X.1 X.2.1 dX10_laysNow_25 (by decide) ?_
      refine mm_ris X I dX10_laysNow_26 h (fun M H locs I h => ?_)
      refine lv_iinc (v := (x7 + 1)) (lv' := [(7, .int (x7 + 1)), (0, .ref a0), (1, .int x1), (2, .int x2), (3, .ref a3), (4, .int x4), (5, .int x5), (6, .int x6)]) X.1 X.2.1 dX10_laysNow_27 hl (k := 7) rfl rfl (by decide) rfl (fun ls hl => ?_)
      refine lv_goto (tgt := 9) X.1 X.2.1 dX10_laysNow_30 (by decide) ?_
      exact ih M _ _ _ _ _ _ _ _ _ _ _ I (lv_sub hl [1, 2, 3, 4, 5, 6, 7, 0] rfl) h
set_option maxHeartbeats 4000000 in
set_option maxRecDepth 100000 in
theorem kX10_laysNow {l : Launch} {D : va_G} {dA : Nat → ClassId} {lo : Nat} {n : Nat} {M : mm_M} {a0 : Nat} {x1 : Int32} {x2 : Int32} {a3 : Nat} {x4 : Int32} {x5 : Int32} (o : Int32 × mm_M) (h : pX10_laysNow n M a0 x1 x2 a3 x4 x5 = some o) : (∃ fs, M.2 a0 = some (mm_ob 10 fs)) ∧ mm_Met l D dA lo yX10_laysNow cX10_laysNow 8 (some .int) 8 184 0 0 [.ref a0, .int x1, .int x2, .ref a3, .int x4, .int x5] M (some (.int o.1)) o.2 := by
  unfold pX10_laysNow at h
  obtain ⟨hob, h⟩ := mm_v_some h
  refine ⟨hob, mm_enter (by decide) (Nat.le_of_ble_eq_true rfl) (fun p e s m args below meth c ls X hr hlk hnm I hl => ?_)⟩
  have X : mm_C D dA lo cX10_laysNow RX10 8 p s m args c := X
  have hl : lv_has ls 8 [(0, .ref a0), (1, .int x1), (2, .int x2), (3, .ref a3), (4, .int x4), (5, .int x5)] := hl
  refine lv_iload_n X.1 X.2.1 dX10_laysNow_0 rfl (lv_at hl 1 rfl) ?_
  refine mm_cSi X I hl (As := [.int x1]) md_X10_cursorAt mv_X10_cursorAt ml_X10_143 (kX10_cursorAt (n := n)) (by decide) ⟨Nat.le_refl 0, Nat.le_refl 0⟩ rfl rfl (Nat.le_of_ble_eq_true rfl) dX10_laysNow_1 h (fun v1 M H locs I h => ?_)
  refine lv_istore (lv' := [(6, .int v1), (0, .ref a0), (1, .int x1), (2, .int x2), (3, .ref a3), (4, .int x4), (5, .int x5)]) X.1 X.2.1 dX10_laysNow_4 hl (by decide) rfl (fun ls hl => ?_)
  refine lv_iconst (v := 0) X.1 X.2.1 dX10_laysNow_6 (by decide) ?_
  refine lv_istore (lv' := [(7, .int 0), (6, .int v1), (0, .ref a0), (1, .int x1), (2, .int x2), (3, .ref a3), (4, .int x4), (5, .int x5)]) X.1 X.2.1 dX10_laysNow_7 hl (by decide) rfl (fun ls hl => ?_)
  exact wpX10_laysNow_l9 X hr hlk n  n M _ _ _ _ _ _ _ _ _ _ _ I (lv_sub hl [2, 3, 4, 5, 6, 7, 1, 0] rfl) h
set_option maxHeartbeats 4000000 in
set_option maxRecDepth 100000 in
theorem kX10_isLike {l : Launch} {D : va_G} {dA : Nat → ClassId} {lo : Nat} {n : Nat} {M : mm_M} {a0 : Nat} {x1 : Int32} {a2 : Nat} {x3 : Int32} {x4 : Int32} (o : Int32 × mm_M) (h : pX10_isLike n M a0 x1 a2 x3 x4 = some o) : (∃ fs, M.2 a0 = some (mm_ob 10 fs)) ∧ mm_Met l D dA lo yX10_isLike cX10_isLike 5 (some .boolean) 3 69 0 0 [.ref a0, .int x1, .ref a2, .int x3, .int x4] M (some (.int o.1)) o.2 := by
  unfold pX10_isLike at h
  obtain ⟨hob, h⟩ := mm_v_some h
  refine ⟨hob, mm_enter (by decide) (Nat.le_of_ble_eq_true rfl) (fun p e s m args below meth c ls X hr hlk hnm I hl => ?_)⟩
  have X : mm_C D dA lo cX10_isLike RX10 5 p s m args c := X
  have hl : lv_has ls 5 [(0, .ref a0), (1, .int x1), (2, .ref a2), (3, .int x3), (4, .int x4)] := hl
  refine lv_aload_n X.1 X.2.1 dX10_isLike_0 rfl (lv_at hl 0 rfl) ?_
  refine lv_iload_n X.1 X.2.1 dX10_isLike_1 rfl (lv_at hl 1 rfl) ?_
  refine mm_cVi X I hl (As := [.int x1]) (ci := 10) md_X10_longOf mv_X10_longOf ml_X10_136 rfl (kX10_longOf (n := n)) (by decide) ⟨Nat.le_refl 0, Nat.le_refl 0⟩ rfl rfl (Nat.le_of_ble_eq_true rfl) dX10_isLike_2 h (fun v1 M H locs I h => ?_)
  refine lv_iload X.1 X.2.1 dX10_isLike_5 (lv_at hl 4 rfl) ?_
  refine mm_kne (tgt := 27) X dX10_isLike_7 (by decide) h (fun h => ?_) (fun h => ?_)
  · refine lv_iconst (v := 0) X.1 X.2.1 dX10_isLike_27 (by decide) ?_
    exact mm_xz0 X I hr hlk dX10_isLike_28 h
  · refine lv_aload_n X.1 X.2.1 dX10_isLike_10 rfl (lv_at hl 0 rfl) ?_
    refine lv_aload_n X.1 X.2.1 dX10_isLike_11 rfl (lv_at hl 2 rfl) ?_
    refine lv_iload_n X.1 X.2.1 dX10_isLike_12 rfl (lv_at hl 3 rfl) ?_
    refine lv_iload X.1 X.2.1 dX10_isLike_13 (lv_at hl 4 rfl) ?_
    refine lv_iload_n X.1 X.2.1 dX10_isLike_15 rfl (lv_at hl 1 rfl) ?_
    refine lv_iconst (v := 0) X.1 X.2.1 dX10_isLike_16 (by decide) ?_
    refine mm_cVi X I hl (As := [.ref a2, .int x3, .int x4, .int x1, .int 0]) (ci := 10) md_X10_stands mv_X10_stands ml_X10_197 rfl (kX10_stands (n := n)) (by decide) ⟨Nat.le_refl 0, Nat.le_refl 0⟩ rfl rfl (Nat.le_of_ble_eq_true rfl) dX10_isLike_17 h (fun v2 M H locs I h => ?_)
    refine mm_jeq (tgt := 27) X dX10_isLike_20 (by decide) h (fun h => ?_) (fun h => ?_)
    · refine lv_iconst (v := 0) X.1 X.2.1 dX10_isLike_27 (by decide) ?_
      exact mm_xz0 X I hr hlk dX10_isLike_28 h
    · refine lv_iconst (v := 1) X.1 X.2.1 dX10_isLike_23 (by decide) ?_
      refine lv_goto (tgt := 28) X.1 X.2.1 dX10_isLike_24 (by decide) ?_
      exact mm_xz1 X I hr hlk dX10_isLike_28 h
set_option maxHeartbeats 4000000 in
set_option maxRecDepth 100000 in
theorem kX10_whySet {l : Launch} {D : va_G} {dA : Nat → ClassId} {lo : Nat} {n : Nat} {M : mm_M} {a0 : Nat} {x1 : Int32} {a2 : Nat} {x3 : Int32} {x4 : Int32} (o : Int32 × mm_M) (h : pX10_whySet n M a0 x1 a2 x3 x4 = some o) : (∃ fs, M.2 a0 = some (mm_ob 10 fs)) ∧ mm_Met l D dA lo yX10_whySet cX10_whySet 5 (some .int) 4 93 0 0 [.ref a0, .int x1, .ref a2, .int x3, .int x4] M (some (.int o.1)) o.2 := by
  unfold pX10_whySet at h
  obtain ⟨hob, h⟩ := mm_v_some h
  refine ⟨hob, mm_enter (by decide) (Nat.le_of_ble_eq_true rfl) (fun p e s m args below meth c ls X hr hlk hnm I hl => ?_)⟩
  have X : mm_C D dA lo cX10_whySet RX10 5 p s m args c := X
  have hl : lv_has ls 5 [(0, .ref a0), (1, .int x1), (2, .ref a2), (3, .int x3), (4, .int x4)] := hl
  refine lv_aload_n X.1 X.2.1 dX10_whySet_0 rfl (lv_at hl 0 rfl) ?_
  refine lv_iload_n X.1 X.2.1 dX10_whySet_1 rfl (lv_at hl 1 rfl) ?_
  refine mm_cVi X I hl (As := [.int x1]) (ci := 10) md_X10_isLine mv_X10_isLine ml_X10_132 rfl (kX10_isLine (n := n)) (by decide) ⟨Nat.le_refl 0, Nat.le_refl 0⟩ rfl rfl (Nat.le_of_ble_eq_true rfl) dX10_whySet_2 h (fun v1 M H locs I h => ?_)
  refine mm_jne (tgt := 12) X dX10_whySet_5 (by decide) h (fun h => ?_) (fun h => ?_)
  · refine lv_iload X.1 X.2.1 dX10_whySet_12 (lv_at hl 4 rfl) ?_
    refine mm_jne (tgt := 21) X dX10_whySet_14 (by decide) h (fun h => ?_) (fun h => ?_)
    · refine lv_aload_n X.1 X.2.1 dX10_whySet_21 rfl (lv_at hl 0 rfl) ?_
      refine lv_iload_n X.1 X.2.1 dX10_whySet_22 rfl (lv_at hl 1 rfl) ?_
      refine lv_aload_n X.1 X.2.1 dX10_whySet_23 rfl (lv_at hl 2 rfl) ?_
      refine lv_iload_n X.1 X.2.1 dX10_whySet_24 rfl (lv_at hl 3 rfl) ?_
      refine lv_iload X.1 X.2.1 dX10_whySet_25 (lv_at hl 4 rfl) ?_
      refine mm_cVi X I hl (As := [.int x1, .ref a2, .int x3, .int x4]) (ci := 10) md_X10_isLike mv_X10_isLike ml_X10_226 rfl (kX10_isLike (n := n)) (by decide) ⟨Nat.le_refl 0, Nat.le_refl 0⟩ rfl rfl (Nat.le_of_ble_eq_true rfl) dX10_whySet_27 h (fun v2 M H locs I h => ?_)
      refine mm_jeq (tgt := 37) X dX10_whySet_30 (by decide) h (fun h => ?_) (fun h => ?_)
      · refine lv_iconst (v := (-1)) X.1 X.2.1 dX10_whySet_37 (by decide) ?_
        exact mm_xi X I hr hlk dX10_whySet_38 h
      · refine lv_iconst (v := 2) X.1 X.2.1 dX10_whySet_33 (by decide) ?_
        refine lv_goto (tgt := 38) X.1 X.2.1 dX10_whySet_34 (by decide) ?_
        exact mm_xi X I hr hlk dX10_whySet_38 h
    · refine lv_iconst (v := 1) X.1 X.2.1 dX10_whySet_17 (by decide) ?_
      refine lv_goto (tgt := 38) X.1 X.2.1 dX10_whySet_18 (by decide) ?_
      exact mm_xi X I hr hlk dX10_whySet_38 h
  · refine lv_iconst (v := 0) X.1 X.2.1 dX10_whySet_8 (by decide) ?_
    refine lv_goto (tgt := 38) X.1 X.2.1 dX10_whySet_9 (by decide) ?_
    exact mm_xi X I hr hlk dX10_whySet_38 h
set_option maxHeartbeats 4000000 in
set_option maxRecDepth 100000 in
theorem kX10_whyPut {l : Launch} {D : va_G} {dA : Nat → ClassId} {lo : Nat} {n : Nat} {M : mm_M} {a0 : Nat} {x1 : Int32} {x2 : Int32} (o : Int32 × mm_M) (h : pX10_whyPut n M a0 x1 x2 = some o) : (∃ fs, M.2 a0 = some (mm_ob 10 fs)) ∧ mm_Met l D dA lo yX10_whyPut cX10_whyPut 3 (some .int) 1 22 0 0 [.ref a0, .int x1, .int x2] M (some (.int o.1)) o.2 := by
  unfold pX10_whyPut at h
  obtain ⟨hob, h⟩ := mm_v_some h
  refine ⟨hob, mm_enter (by decide) (Nat.le_of_ble_eq_true rfl) (fun p e s m args below meth c ls X hr hlk hnm I hl => ?_)⟩
  have X : mm_C D dA lo cX10_whyPut RX10 3 p s m args c := X
  have hl : lv_has ls 3 [(0, .ref a0), (1, .int x1), (2, .int x2)] := hl
  refine lv_aload_n X.1 X.2.1 dX10_whyPut_0 rfl (lv_at hl 0 rfl) ?_
  refine mm_cVi X I hl (As := []) (ci := 10) md_X10_isStore mv_X10_isStore ml_X10_139 rfl (kX10_isStore (n := n)) (by decide) ⟨Nat.le_refl 0, Nat.le_refl 0⟩ rfl rfl (Nat.le_of_ble_eq_true rfl) dX10_whyPut_1 h (fun v1 M H locs I h => ?_)
  refine mm_jeq (tgt := 21) X dX10_whyPut_4 (by decide) h (fun h => ?_) (fun h => ?_)
  · refine lv_iconst (v := 0) X.1 X.2.1 dX10_whyPut_21 (by decide) ?_
    refine lv_goto (tgt := 49) X.1 X.2.1 dX10_whyPut_22 (by decide) ?_
    exact mm_xi X I hr hlk dX10_whyPut_49 h
  · refine lv_iload_n X.1 X.2.1 dX10_whyPut_7 rfl (lv_at hl 1 rfl) ?_
    refine lv_iconst (v := 0) X.1 X.2.1 dX10_whyPut_8 (by decide) ?_
    refine lv_aload_n X.1 X.2.1 dX10_whyPut_9 rfl (lv_at hl 0 rfl) ?_
    refine mm_rgr X I fl_X10_28 dX10_whyPut_10 h (fun v2 h => ?_)
    refine lv_iconst (v := 0) X.1 X.2.1 dX10_whyPut_13 (by decide) ?_
    refine mm_ria X I dX10_whyPut_14 h (fun v3 h => ?_)
    refine mm_cSi X I hl (As := [.int x1, .int 0, .int v3]) md_X10_in mv_X10_in ml_X10_69 (kX10_in (n := n)) (by decide) ⟨Nat.le_refl 0, Nat.le_refl 0⟩ rfl rfl (Nat.le_of_ble_eq_true rfl) dX10_whyPut_15 h (fun v4 M H locs I h => ?_)
    refine mm_jne (tgt := 25) X dX10_whyPut_18 (by decide) h (fun h => ?_) (fun h => ?_)
    · refine lv_iload_n X.1 X.2.1 dX10_whyPut_25 rfl (lv_at hl 2 rfl) ?_
      refine mm_jne (tgt := 33) X dX10_whyPut_26 (by decide) h (fun h => ?_) (fun h => ?_)
      · refine lv_aload_n X.1 X.2.1 dX10_whyPut_33 rfl (lv_at hl 0 rfl) ?_
        refine mm_rgr X I fl_X10_28 dX10_whyPut_34 h (fun v5 h => ?_)
        refine lv_iconst (v := 0) X.1 X.2.1 dX10_whyPut_37 (by decide) ?_
        refine mm_ria X I dX10_whyPut_38 h (fun v6 h => ?_)
        refine lv_bipush (v := 10) X.1 X.2.1 dX10_whyPut_39 (by decide) ?_
        refine mm_kne (tgt := 48) X dX10_whyPut_41 (by decide) h (fun h => ?_) (fun h => ?_)
        · refine lv_iconst (v := (-1)) X.1 X.2.1 dX10_whyPut_48 (by decide) ?_
          exact mm_xi X I hr hlk dX10_whyPut_49 h
        · refine lv_iconst (v := 3) X.1 X.2.1 dX10_whyPut_44 (by decide) ?_
          refine lv_goto (tgt := 49) X.1 X.2.1 dX10_whyPut_45 (by decide) ?_
          exact mm_xi X I hr hlk dX10_whyPut_49 h
      · refine lv_iconst (v := 1) X.1 X.2.1 dX10_whyPut_29 (by decide) ?_
        refine lv_goto (tgt := 49) X.1 X.2.1 dX10_whyPut_30 (by decide) ?_
        exact mm_xi X I hr hlk dX10_whyPut_49 h
    · refine lv_iconst (v := 0) X.1 X.2.1 dX10_whyPut_21 (by decide) ?_
      refine lv_goto (tgt := 49) X.1 X.2.1 dX10_whyPut_22 (by decide) ?_
      exact mm_xi X I hr hlk dX10_whyPut_49 h
set_option maxHeartbeats 4000000 in
set_option maxRecDepth 100000 in
theorem kX10_whyLay {l : Launch} {D : va_G} {dA : Nat → ClassId} {lo : Nat} {n : Nat} {M : mm_M} {a0 : Nat} {x1 : Int32} {x2 : Int32} {x3 : Int32} (o : Int32 × mm_M) (h : pX10_whyLay n M a0 x1 x2 x3 = some o) : (∃ fs, M.2 a0 = some (mm_ob 10 fs)) ∧ mm_Met l D dA lo yX10_whyLay cX10_whyLay 4 (some .int) 1 22 0 0 [.ref a0, .int x1, .int x2, .int x3] M (some (.int o.1)) o.2 := by
  unfold pX10_whyLay at h
  obtain ⟨hob, h⟩ := mm_v_some h
  refine ⟨hob, mm_enter (by decide) (Nat.le_of_ble_eq_true rfl) (fun p e s m args below meth c ls X hr hlk hnm I hl => ?_)⟩
  have X : mm_C D dA lo cX10_whyLay RX10 4 p s m args c := X
  have hl : lv_has ls 4 [(0, .ref a0), (1, .int x1), (2, .int x2), (3, .int x3)] := hl
  refine lv_aload_n X.1 X.2.1 dX10_whyLay_0 rfl (lv_at hl 0 rfl) ?_
  refine mm_cVi X I hl (As := []) (ci := 10) md_X10_isStore mv_X10_isStore ml_X10_139 rfl (kX10_isStore (n := n)) (by decide) ⟨Nat.le_refl 0, Nat.le_refl 0⟩ rfl rfl (Nat.le_of_ble_eq_true rfl) dX10_whyLay_1 h (fun v1 M H locs I h => ?_)
  refine mm_jeq (tgt := 16) X dX10_whyLay_4 (by decide) h (fun h => ?_) (fun h => ?_)
  · refine lv_iconst (v := 0) X.1 X.2.1 dX10_whyLay_16 (by decide) ?_
    refine lv_goto (tgt := 39) X.1 X.2.1 dX10_whyLay_17 (by decide) ?_
    exact mm_xi X I hr hlk dX10_whyLay_39 h
  · refine lv_iload_n X.1 X.2.1 dX10_whyLay_7 rfl (lv_at hl 1 rfl) ?_
    refine lv_iconst (v := 0) X.1 X.2.1 dX10_whyLay_8 (by decide) ?_
    refine lv_iconst (v := 2) X.1 X.2.1 dX10_whyLay_9 (by decide) ?_
    refine mm_cSi X I hl (As := [.int x1, .int 0, .int 2]) md_X10_in mv_X10_in ml_X10_69 (kX10_in (n := n)) (by decide) ⟨Nat.le_refl 0, Nat.le_refl 0⟩ rfl rfl (Nat.le_of_ble_eq_true rfl) dX10_whyLay_10 h (fun v2 M H locs I h => ?_)
    refine mm_jne (tgt := 20) X dX10_whyLay_13 (by decide) h (fun h => ?_) (fun h => ?_)
    · refine lv_iload_n X.1 X.2.1 dX10_whyLay_20 rfl (lv_at hl 2 rfl) ?_
      refine lv_iconst (v := 1) X.1 X.2.1 dX10_whyLay_21 (by decide) ?_
      refine lv_bipush (v := 9) X.1 X.2.1 dX10_whyLay_22 (by decide) ?_
      refine mm_cSi X I hl (As := [.int x2, .int 1, .int 9]) md_X10_in mv_X10_in ml_X10_69 (kX10_in (n := n)) (by decide) ⟨Nat.le_refl 0, Nat.le_refl 0⟩ rfl rfl (Nat.le_of_ble_eq_true rfl) dX10_whyLay_24 h (fun v3 M H locs I h => ?_)
      refine mm_jeq (tgt := 34) X dX10_whyLay_27 (by decide) h (fun h => ?_) (fun h => ?_)
      · refine lv_iconst (v := 1) X.1 X.2.1 dX10_whyLay_34 (by decide) ?_
        refine lv_goto (tgt := 39) X.1 X.2.1 dX10_whyLay_35 (by decide) ?_
        exact mm_xi X I hr hlk dX10_whyLay_39 h
      · refine lv_iload_n X.1 X.2.1 dX10_whyLay_30 rfl (lv_at hl 3 rfl) ?_
        refine mm_jne (tgt := 38) X dX10_whyLay_31 (by decide) h (fun h => ?_) (fun h => ?_)
        · refine lv_iconst (v := (-1)) X.1 X.2.1 dX10_whyLay_38 (by decide) ?_
          exact mm_xi X I hr hlk dX10_whyLay_39 h
        · refine lv_iconst (v := 1) X.1 X.2.1 dX10_whyLay_34 (by decide) ?_
          refine lv_goto (tgt := 39) X.1 X.2.1 dX10_whyLay_35 (by decide) ?_
          exact mm_xi X I hr hlk dX10_whyLay_39 h
    · refine lv_iconst (v := 0) X.1 X.2.1 dX10_whyLay_16 (by decide) ?_
      refine lv_goto (tgt := 39) X.1 X.2.1 dX10_whyLay_17 (by decide) ?_
      exact mm_xi X I hr hlk dX10_whyLay_39 h
set_option maxHeartbeats 4000000 in
set_option maxRecDepth 100000 in
theorem kX10_whySplit {l : Launch} {D : va_G} {dA : Nat → ClassId} {lo : Nat} {n : Nat} {M : mm_M} {a0 : Nat} {x1 : Int32} {x2 : Int32} (o : Int32 × mm_M) (h : pX10_whySplit n M a0 x1 x2 = some o) : (∃ fs, M.2 a0 = some (mm_ob 10 fs)) ∧ mm_Met l D dA lo yX10_whySplit cX10_whySplit 3 (some .int) 2 43 0 0 [.ref a0, .int x1, .int x2] M (some (.int o.1)) o.2 := by
  unfold pX10_whySplit at h
  obtain ⟨hob, h⟩ := mm_v_some h
  refine ⟨hob, mm_enter (by decide) (Nat.le_of_ble_eq_true rfl) (fun p e s m args below meth c ls X hr hlk hnm I hl => ?_)⟩
  have X : mm_C D dA lo cX10_whySplit RX10 3 p s m args c := X
  have hl : lv_has ls 3 [(0, .ref a0), (1, .int x1), (2, .int x2)] := hl
  refine lv_aload_n X.1 X.2.1 dX10_whySplit_0 rfl (lv_at hl 0 rfl) ?_
  refine lv_iload_n X.1 X.2.1 dX10_whySplit_1 rfl (lv_at hl 1 rfl) ?_
  refine mm_cVi X I hl (As := [.int x1]) (ci := 10) md_X10_isLine mv_X10_isLine ml_X10_132 rfl (kX10_isLine (n := n)) (by decide) ⟨Nat.le_refl 0, Nat.le_refl 0⟩ rfl rfl (Nat.le_of_ble_eq_true rfl) dX10_whySplit_2 h (fun v1 M H locs I h => ?_)
  refine mm_jne (tgt := 12) X dX10_whySplit_5 (by decide) h (fun h => ?_) (fun h => ?_)
  · refine lv_iload_n X.1 X.2.1 dX10_whySplit_12 rfl (lv_at hl 2 rfl) ?_
    refine lv_iconst (v := 1) X.1 X.2.1 dX10_whySplit_13 (by decide) ?_
    refine lv_aload_n X.1 X.2.1 dX10_whySplit_14 rfl (lv_at hl 0 rfl) ?_
    refine lv_iload_n X.1 X.2.1 dX10_whySplit_15 rfl (lv_at hl 1 rfl) ?_
    refine mm_cVi X I hl (As := [.int x1]) (ci := 10) md_X10_longOf mv_X10_longOf ml_X10_136 rfl (kX10_longOf (n := n)) (by decide) ⟨Nat.le_refl 0, Nat.le_refl 0⟩ rfl rfl (Nat.le_of_ble_eq_true rfl) dX10_whySplit_16 h (fun v2 M H locs I h => ?_)
    refine lv_iconst (v := 1) X.1 X.2.1 dX10_whySplit_19 (by decide) ?_
    refine lv_isub X.1 X.2.1 dX10_whySplit_20 ?_
    refine mm_cSi X I hl (As := [.int x2, .int 1, .int (v2 - 1)]) md_X10_in mv_X10_in ml_X10_69 (kX10_in (n := n)) (by decide) ⟨Nat.le_refl 0, Nat.le_refl 0⟩ rfl rfl (Nat.le_of_ble_eq_true rfl) dX10_whySplit_21 h (fun v3 M H locs I h => ?_)
    refine mm_jne (tgt := 31) X dX10_whySplit_24 (by decide) h (fun h => ?_) (fun h => ?_)
    · refine lv_aload_n X.1 X.2.1 dX10_whySplit_31 rfl (lv_at hl 0 rfl) ?_
      refine mm_rgr X I fl_X10_28 dX10_whySplit_32 h (fun v4 h => ?_)
      refine lv_iconst (v := 0) X.1 X.2.1 dX10_whySplit_35 (by decide) ?_
      refine mm_ria X I dX10_whySplit_36 h (fun v5 h => ?_)
      refine lv_bipush (v := 10) X.1 X.2.1 dX10_whySplit_37 (by decide) ?_
      refine mm_kne (tgt := 46) X dX10_whySplit_39 (by decide) h (fun h => ?_) (fun h => ?_)
      · refine lv_iconst (v := (-1)) X.1 X.2.1 dX10_whySplit_46 (by decide) ?_
        exact mm_xi X I hr hlk dX10_whySplit_47 h
      · refine lv_iconst (v := 3) X.1 X.2.1 dX10_whySplit_42 (by decide) ?_
        refine lv_goto (tgt := 47) X.1 X.2.1 dX10_whySplit_43 (by decide) ?_
        exact mm_xi X I hr hlk dX10_whySplit_47 h
    · refine lv_iconst (v := 1) X.1 X.2.1 dX10_whySplit_27 (by decide) ?_
      refine lv_goto (tgt := 47) X.1 X.2.1 dX10_whySplit_28 (by decide) ?_
      exact mm_xi X I hr hlk dX10_whySplit_47 h
  · refine lv_iconst (v := 0) X.1 X.2.1 dX10_whySplit_8 (by decide) ?_
    refine lv_goto (tgt := 47) X.1 X.2.1 dX10_whySplit_9 (by decide) ?_
    exact mm_xi X I hr hlk dX10_whySplit_47 h
set_option maxHeartbeats 4000000 in
set_option maxRecDepth 100000 in
theorem kX10_whyJoin {l : Launch} {D : va_G} {dA : Nat → ClassId} {lo : Nat} {n : Nat} {M : mm_M} {a0 : Nat} {x1 : Int32} (o : Int32 × mm_M) (h : pX10_whyJoin n M a0 x1 = some o) : (∃ fs, M.2 a0 = some (mm_ob 10 fs)) ∧ mm_Met l D dA lo yX10_whyJoin cX10_whyJoin 2 (some .int) 2 43 0 0 [.ref a0, .int x1] M (some (.int o.1)) o.2 := by
  unfold pX10_whyJoin at h
  obtain ⟨hob, h⟩ := mm_v_some h
  refine ⟨hob, mm_enter (by decide) (Nat.le_of_ble_eq_true rfl) (fun p e s m args below meth c ls X hr hlk hnm I hl => ?_)⟩
  have X : mm_C D dA lo cX10_whyJoin RX10 2 p s m args c := X
  have hl : lv_has ls 2 [(0, .ref a0), (1, .int x1)] := hl
  refine lv_aload_n X.1 X.2.1 dX10_whyJoin_0 rfl (lv_at hl 0 rfl) ?_
  refine lv_iload_n X.1 X.2.1 dX10_whyJoin_1 rfl (lv_at hl 1 rfl) ?_
  refine mm_cVi X I hl (As := [.int x1]) (ci := 10) md_X10_isLine mv_X10_isLine ml_X10_132 rfl (kX10_isLine (n := n)) (by decide) ⟨Nat.le_refl 0, Nat.le_refl 0⟩ rfl rfl (Nat.le_of_ble_eq_true rfl) dX10_whyJoin_2 h (fun v1 M H locs I h => ?_)
  refine mm_jeq (tgt := 18) X dX10_whyJoin_5 (by decide) h (fun h => ?_) (fun h => ?_)
  · refine lv_iconst (v := 0) X.1 X.2.1 dX10_whyJoin_18 (by decide) ?_
    refine lv_goto (tgt := 45) X.1 X.2.1 dX10_whyJoin_19 (by decide) ?_
    exact mm_xi X I hr hlk dX10_whyJoin_45 h
  · refine lv_aload_n X.1 X.2.1 dX10_whyJoin_8 rfl (lv_at hl 0 rfl) ?_
    refine lv_iload_n X.1 X.2.1 dX10_whyJoin_9 rfl (lv_at hl 1 rfl) ?_
    refine lv_iconst (v := 1) X.1 X.2.1 dX10_whyJoin_10 (by decide) ?_
    refine lv_iadd X.1 X.2.1 dX10_whyJoin_11 ?_
    refine mm_cVi X I hl (As := [.int (x1 + 1)]) (ci := 10) md_X10_isLine mv_X10_isLine ml_X10_132 rfl (kX10_isLine (n := n)) (by decide) ⟨Nat.le_refl 0, Nat.le_refl 0⟩ rfl rfl (Nat.le_of_ble_eq_true rfl) dX10_whyJoin_12 h (fun v2 M H locs I h => ?_)
    refine mm_jne (tgt := 22) X dX10_whyJoin_15 (by decide) h (fun h => ?_) (fun h => ?_)
    · refine lv_aload_n X.1 X.2.1 dX10_whyJoin_22 rfl (lv_at hl 0 rfl) ?_
      refine lv_iload_n X.1 X.2.1 dX10_whyJoin_23 rfl (lv_at hl 1 rfl) ?_
      refine mm_cVi X I hl (As := [.int x1]) (ci := 10) md_X10_longOf mv_X10_longOf ml_X10_136 rfl (kX10_longOf (n := n)) (by decide) ⟨Nat.le_refl 0, Nat.le_refl 0⟩ rfl rfl (Nat.le_of_ble_eq_true rfl) dX10_whyJoin_24 h (fun v3 M H locs I h => ?_)
      refine lv_aload_n X.1 X.2.1 dX10_whyJoin_27 rfl (lv_at hl 0 rfl) ?_
      refine lv_iload_n X.1 X.2.1 dX10_whyJoin_28 rfl (lv_at hl 1 rfl) ?_
      refine lv_iconst (v := 1) X.1 X.2.1 dX10_whyJoin_29 (by decide) ?_
      refine lv_iadd X.1 X.2.1 dX10_whyJoin_30 ?_
      refine mm_cVi X I hl (As := [.int (x1 + 1)]) (ci := 10) md_X10_longOf mv_X10_longOf ml_X10_136 rfl (kX10_longOf (n := n)) (by decide) ⟨Nat.le_refl 0, Nat.le_refl 0⟩ rfl rfl (Nat.le_of_ble_eq_true rfl) dX10_whyJoin_31 h (fun v4 M H locs I h => ?_)
      refine lv_iadd X.1 X.2.1 dX10_whyJoin_34 ?_
      refine lv_bipush (v := 20) X.1 X.2.1 dX10_whyJoin_35 (by decide) ?_
      refine mm_kle (tgt := 44) X dX10_whyJoin_37 (by decide) h (fun h => ?_) (fun h => ?_)
      · refine lv_iconst (v := (-1)) X.1 X.2.1 dX10_whyJoin_44 (by decide) ?_
        exact mm_xi X I hr hlk dX10_whyJoin_45 h
      · refine lv_iconst (v := 3) X.1 X.2.1 dX10_whyJoin_40 (by decide) ?_
        refine lv_goto (tgt := 45) X.1 X.2.1 dX10_whyJoin_41 (by decide) ?_
        exact mm_xi X I hr hlk dX10_whyJoin_45 h
    · refine lv_iconst (v := 0) X.1 X.2.1 dX10_whyJoin_18 (by decide) ?_
      refine lv_goto (tgt := 45) X.1 X.2.1 dX10_whyJoin_19 (by decide) ?_
      exact mm_xi X I hr hlk dX10_whyJoin_45 h
set_option maxHeartbeats 4000000 in
set_option maxRecDepth 100000 in
theorem kX10_whyNot {l : Launch} {D : va_G} {dA : Nat → ClassId} {lo : Nat} {n : Nat} {M : mm_M} {a0 : Nat} {x1 : Int32} {x2 : Int32} {x3 : Int32} {a4 : Nat} {x5 : Int32} {x6 : Int32} (o : Int32 × mm_M) (h : pX10_whyNot n M a0 x1 x2 x3 a4 x5 x6 = some o) : (∃ fs, M.2 a0 = some (mm_ob 10 fs)) ∧ mm_Met l D dA lo yX10_whyNot cX10_whyNot 7 (some .int) 5 117 0 0 [.ref a0, .int x1, .int x2, .int x3, .ref a4, .int x5, .int x6] M (some (.int o.1)) o.2 := by
  unfold pX10_whyNot at h
  obtain ⟨hob, h⟩ := mm_v_some h
  refine ⟨hob, mm_enter (by decide) (Nat.le_of_ble_eq_true rfl) (fun p e s m args below meth c ls X hr hlk hnm I hl => ?_)⟩
  have X : mm_C D dA lo cX10_whyNot RX10 7 p s m args c := X
  have hl : lv_has ls 7 [(0, .ref a0), (1, .int x1), (2, .int x2), (3, .int x3), (4, .ref a4), (5, .int x5), (6, .int x6)] := hl
  refine lv_iload_n X.1 X.2.1 dX10_whyNot_0 rfl (lv_at hl 1 rfl) ?_
  by_cases z1_0 : x1 = 0
  · have h := mm_t z1_0 h
    refine lv_tableIn (tgt := 52) (off := 51) X.1 X.2.1 dX10_whyNot_1 (by rw [z1_0]; decide) (by rw [z1_0]; decide) (by rw [z1_0]; rfl) (by decide) ?_
    refine lv_aload_n X.1 X.2.1 dX10_whyNot_52 rfl (lv_at hl 0 rfl) ?_
    refine lv_iload_n X.1 X.2.1 dX10_whyNot_53 rfl (lv_at hl 2 rfl) ?_
    refine lv_aload X.1 X.2.1 dX10_whyNot_54 (lv_at hl 4 rfl) ?_
    refine lv_iload X.1 X.2.1 dX10_whyNot_56 (lv_at hl 5 rfl) ?_
    refine lv_iload X.1 X.2.1 dX10_whyNot_58 (lv_at hl 6 rfl) ?_
    refine mm_cVi X I hl (As := [.int x2, .ref a4, .int x5, .int x6]) (ci := 10) md_X10_whySet mv_X10_whySet ml_X10_230 rfl (kX10_whySet (n := n)) (by decide) ⟨Nat.le_refl 0, Nat.le_refl 0⟩ rfl rfl (Nat.le_of_ble_eq_true rfl) dX10_whyNot_60 h (fun v2 M H locs I h => ?_)
    exact mm_xi X I hr hlk dX10_whyNot_63 h
  · have h := mm_f z1_0 h
    by_cases z1_1 : x1 = 1
    · have h := mm_t z1_1 h
      refine lv_tableIn (tgt := 64) (off := 63) X.1 X.2.1 dX10_whyNot_1 (by rw [z1_1]; decide) (by rw [z1_1]; decide) (by rw [z1_1]; rfl) (by decide) ?_
      refine lv_aload_n X.1 X.2.1 dX10_whyNot_64 rfl (lv_at hl 0 rfl) ?_
      refine lv_iload_n X.1 X.2.1 dX10_whyNot_65 rfl (lv_at hl 2 rfl) ?_
      refine lv_iload X.1 X.2.1 dX10_whyNot_66 (lv_at hl 6 rfl) ?_
      refine mm_cVi X I hl (As := [.int x2, .int x6]) (ci := 10) md_X10_whyPut mv_X10_whyPut ml_X10_234 rfl (kX10_whyPut (n := n)) (by decide) ⟨Nat.le_refl 0, Nat.le_refl 0⟩ rfl rfl (Nat.le_of_ble_eq_true rfl) dX10_whyNot_68 h (fun v3 M H locs I h => ?_)
      exact mm_xi X I hr hlk dX10_whyNot_71 h
    · have h := mm_f z1_1 h
      by_cases z1_2 : x1 = 2
      · have h := mm_t z1_2 h
        refine lv_tableIn (tgt := 72) (off := 71) X.1 X.2.1 dX10_whyNot_1 (by rw [z1_2]; decide) (by rw [z1_2]; decide) (by rw [z1_2]; rfl) (by decide) ?_
        refine lv_aload_n X.1 X.2.1 dX10_whyNot_72 rfl (lv_at hl 0 rfl) ?_
        refine lv_iload_n X.1 X.2.1 dX10_whyNot_73 rfl (lv_at hl 2 rfl) ?_
        refine mm_cVi X I hl (As := [.int x2]) (ci := 10) md_X10_isLine mv_X10_isLine ml_X10_132 rfl (kX10_isLine (n := n)) (by decide) ⟨Nat.le_refl 0, Nat.le_refl 0⟩ rfl rfl (Nat.le_of_ble_eq_true rfl) dX10_whyNot_74 h (fun v4 M H locs I h => ?_)
        refine mm_jne (tgt := 84) X dX10_whyNot_77 (by decide) h (fun h => ?_) (fun h => ?_)
        · refine lv_aload_n X.1 X.2.1 dX10_whyNot_84 rfl (lv_at hl 0 rfl) ?_
          refine mm_rgr X I fl_X10_28 dX10_whyNot_85 h (fun v5 h => ?_)
          refine lv_iconst (v := 0) X.1 X.2.1 dX10_whyNot_88 (by decide) ?_
          refine mm_ria X I dX10_whyNot_89 h (fun v6 h => ?_)
          refine lv_iconst (v := 1) X.1 X.2.1 dX10_whyNot_90 (by decide) ?_
          refine mm_kne (tgt := 98) X dX10_whyNot_91 (by decide) h (fun h => ?_) (fun h => ?_)
          · refine lv_iconst (v := (-1)) X.1 X.2.1 dX10_whyNot_98 (by decide) ?_
            exact mm_xi X I hr hlk dX10_whyNot_99 h
          · refine lv_iconst (v := 2) X.1 X.2.1 dX10_whyNot_94 (by decide) ?_
            refine lv_goto (tgt := 99) X.1 X.2.1 dX10_whyNot_95 (by decide) ?_
            exact mm_xi X I hr hlk dX10_whyNot_99 h
        · refine lv_iconst (v := 0) X.1 X.2.1 dX10_whyNot_80 (by decide) ?_
          refine lv_goto (tgt := 99) X.1 X.2.1 dX10_whyNot_81 (by decide) ?_
          exact mm_xi X I hr hlk dX10_whyNot_99 h
      · have h := mm_f z1_2 h
        by_cases z1_3 : x1 = 3
        · have h := mm_t z1_3 h
          refine lv_tableIn (tgt := 100) (off := 99) X.1 X.2.1 dX10_whyNot_1 (by rw [z1_3]; decide) (by rw [z1_3]; decide) (by rw [z1_3]; rfl) (by decide) ?_
          refine lv_aload_n X.1 X.2.1 dX10_whyNot_100 rfl (lv_at hl 0 rfl) ?_
          refine lv_iload_n X.1 X.2.1 dX10_whyNot_101 rfl (lv_at hl 2 rfl) ?_
          refine mm_cVi X I hl (As := [.int x2]) (ci := 10) md_X10_isLine mv_X10_isLine ml_X10_132 rfl (kX10_isLine (n := n)) (by decide) ⟨Nat.le_refl 0, Nat.le_refl 0⟩ rfl rfl (Nat.le_of_ble_eq_true rfl) dX10_whyNot_102 h (fun v7 M H locs I h => ?_)
          refine mm_jeq (tgt := 116) X dX10_whyNot_105 (by decide) h (fun h => ?_) (fun h => ?_)
          · refine lv_iconst (v := 0) X.1 X.2.1 dX10_whyNot_116 (by decide) ?_
            refine lv_goto (tgt := 130) X.1 X.2.1 dX10_whyNot_117 (by decide) ?_
            exact mm_xi X I hr hlk dX10_whyNot_130 h
          · refine lv_aload_n X.1 X.2.1 dX10_whyNot_108 rfl (lv_at hl 0 rfl) ?_
            refine lv_iload_n X.1 X.2.1 dX10_whyNot_109 rfl (lv_at hl 3 rfl) ?_
            refine mm_cVi X I hl (As := [.int x3]) (ci := 10) md_X10_isLine mv_X10_isLine ml_X10_132 rfl (kX10_isLine (n := n)) (by decide) ⟨Nat.le_refl 0, Nat.le_refl 0⟩ rfl rfl (Nat.le_of_ble_eq_true rfl) dX10_whyNot_110 h (fun v8 M H locs I h => ?_)
            refine mm_jne (tgt := 120) X dX10_whyNot_113 (by decide) h (fun h => ?_) (fun h => ?_)
            · refine lv_iload_n X.1 X.2.1 dX10_whyNot_120 rfl (lv_at hl 2 rfl) ?_
              refine lv_iload_n X.1 X.2.1 dX10_whyNot_121 rfl (lv_at hl 3 rfl) ?_
              refine mm_kne (tgt := 129) X dX10_whyNot_122 (by decide) h (fun h => ?_) (fun h => ?_)
              · refine lv_iconst (v := (-1)) X.1 X.2.1 dX10_whyNot_129 (by decide) ?_
                exact mm_xi X I hr hlk dX10_whyNot_130 h
              · refine lv_iconst (v := 2) X.1 X.2.1 dX10_whyNot_125 (by decide) ?_
                refine lv_goto (tgt := 130) X.1 X.2.1 dX10_whyNot_126 (by decide) ?_
                exact mm_xi X I hr hlk dX10_whyNot_130 h
            · refine lv_iconst (v := 0) X.1 X.2.1 dX10_whyNot_116 (by decide) ?_
              refine lv_goto (tgt := 130) X.1 X.2.1 dX10_whyNot_117 (by decide) ?_
              exact mm_xi X I hr hlk dX10_whyNot_130 h
        · have h := mm_f z1_3 h
          by_cases z1_4 : x1 = 4
          · have h := mm_t z1_4 h
            refine lv_tableIn (tgt := 131) (off := 130) X.1 X.2.1 dX10_whyNot_1 (by rw [z1_4]; decide) (by rw [z1_4]; decide) (by rw [z1_4]; rfl) (by decide) ?_
            refine lv_aload_n X.1 X.2.1 dX10_whyNot_131 rfl (lv_at hl 0 rfl) ?_
            refine lv_iload_n X.1 X.2.1 dX10_whyNot_132 rfl (lv_at hl 2 rfl) ?_
            refine lv_iload_n X.1 X.2.1 dX10_whyNot_133 rfl (lv_at hl 3 rfl) ?_
            refine lv_iload X.1 X.2.1 dX10_whyNot_134 (lv_at hl 6 rfl) ?_
            refine mm_cVi X I hl (As := [.int x2, .int x3, .int x6]) (ci := 10) md_X10_whyLay mv_X10_whyLay ml_X10_237 rfl (kX10_whyLay (n := n)) (by decide) ⟨Nat.le_refl 0, Nat.le_refl 0⟩ rfl rfl (Nat.le_of_ble_eq_true rfl) dX10_whyNot_136 h (fun v9 M H locs I h => ?_)
            exact mm_xi X I hr hlk dX10_whyNot_139 h
          · have h := mm_f z1_4 h
            by_cases z1_5 : x1 = 5
            · have h := mm_t z1_5 h
              refine lv_tableIn (tgt := 140) (off := 139) X.1 X.2.1 dX10_whyNot_1 (by rw [z1_5]; decide) (by rw [z1_5]; decide) (by rw [z1_5]; rfl) (by decide) ?_
              refine lv_aload_n X.1 X.2.1 dX10_whyNot_140 rfl (lv_at hl 0 rfl) ?_
              refine lv_iload_n X.1 X.2.1 dX10_whyNot_141 rfl (lv_at hl 2 rfl) ?_
              refine mm_cVi X I hl (As := [.int x2]) (ci := 10) md_X10_isCursor mv_X10_isCursor ml_X10_240 rfl (kX10_isCursor (n := n)) (by decide) ⟨Nat.le_refl 0, Nat.le_refl 0⟩ rfl rfl (Nat.le_of_ble_eq_true rfl) dX10_whyNot_142 h (fun v10 M H locs I h => ?_)
              refine mm_jeq (tgt := 152) X dX10_whyNot_145 (by decide) h (fun h => ?_) (fun h => ?_)
              · refine lv_iconst (v := 0) X.1 X.2.1 dX10_whyNot_152 (by decide) ?_
                exact mm_xi X I hr hlk dX10_whyNot_153 h
              · refine lv_iconst (v := (-1)) X.1 X.2.1 dX10_whyNot_148 (by decide) ?_
                refine lv_goto (tgt := 153) X.1 X.2.1 dX10_whyNot_149 (by decide) ?_
                exact mm_xi X I hr hlk dX10_whyNot_153 h
            · have h := mm_f z1_5 h
              by_cases z1_7 : x1 = 7
              · have h := mm_t z1_7 h
                refine lv_tableIn (tgt := 154) (off := 153) X.1 X.2.1 dX10_whyNot_1 (by rw [z1_7]; decide) (by rw [z1_7]; decide) (by rw [z1_7]; rfl) (by decide) ?_
                refine lv_aload_n X.1 X.2.1 dX10_whyNot_154 rfl (lv_at hl 0 rfl) ?_
                refine lv_iload_n X.1 X.2.1 dX10_whyNot_155 rfl (lv_at hl 2 rfl) ?_
                refine lv_iload_n X.1 X.2.1 dX10_whyNot_156 rfl (lv_at hl 3 rfl) ?_
                refine mm_cVi X I hl (As := [.int x2, .int x3]) (ci := 10) md_X10_whySplit mv_X10_whySplit ml_X10_243 rfl (kX10_whySplit (n := n)) (by decide) ⟨Nat.le_refl 0, Nat.le_refl 0⟩ rfl rfl (Nat.le_of_ble_eq_true rfl) dX10_whyNot_157 h (fun v11 M H locs I h => ?_)
                exact mm_xi X I hr hlk dX10_whyNot_160 h
              · have h := mm_f z1_7 h
                by_cases z1_8 : x1 = 8
                · have h := mm_t z1_8 h
                  refine lv_tableIn (tgt := 161) (off := 160) X.1 X.2.1 dX10_whyNot_1 (by rw [z1_8]; decide) (by rw [z1_8]; decide) (by rw [z1_8]; rfl) (by decide) ?_
                  refine lv_aload_n X.1 X.2.1 dX10_whyNot_161 rfl (lv_at hl 0 rfl) ?_
                  refine lv_iload_n X.1 X.2.1 dX10_whyNot_162 rfl (lv_at hl 2 rfl) ?_
                  refine mm_cVi X I hl (As := [.int x2]) (ci := 10) md_X10_whyJoin mv_X10_whyJoin ml_X10_246 rfl (kX10_whyJoin (n := n)) (by decide) ⟨Nat.le_refl 0, Nat.le_refl 0⟩ rfl rfl (Nat.le_of_ble_eq_true rfl) dX10_whyNot_163 h (fun v12 M H locs I h => ?_)
                  exact mm_xi X I hr hlk dX10_whyNot_166 h
                · have h := mm_f z1_8 h
                  have z1_q0 : ¬ Int32.toInt x1 = 0 := fun q => z1_0 (Int32.toInt_inj.mp q)
                  have z1_q1 : ¬ Int32.toInt x1 = 1 := fun q => z1_1 (Int32.toInt_inj.mp q)
                  have z1_q2 : ¬ Int32.toInt x1 = 2 := fun q => z1_2 (Int32.toInt_inj.mp q)
                  have z1_q3 : ¬ Int32.toInt x1 = 3 := fun q => z1_3 (Int32.toInt_inj.mp q)
                  have z1_q4 : ¬ Int32.toInt x1 = 4 := fun q => z1_4 (Int32.toInt_inj.mp q)
                  have z1_q5 : ¬ Int32.toInt x1 = 5 := fun q => z1_5 (Int32.toInt_inj.mp q)
                  have z1_q7 : ¬ Int32.toInt x1 = 7 := fun q => z1_7 (Int32.toInt_inj.mp q)
                  have z1_q8 : ¬ Int32.toInt x1 = 8 := fun q => z1_8 (Int32.toInt_inj.mp q)
                  refine mm_tdef (tgt := 167) X dX10_whyNot_1 (by decide) (fun i hi hq => ?_) (by decide) ?_
                  · rcases (show i = 0 ∨ i = 1 ∨ i = 2 ∨ i = 3 ∨ i = 4 ∨ i = 5 ∨ i = 6 ∨ i = 7 ∨ i = 8 by simp at hi; omega) with rfl | rfl | rfl | rfl | rfl | rfl | rfl | rfl | rfl
                    · exact absurd hq (by omega)
                    · exact absurd hq (by omega)
                    · exact absurd hq (by omega)
                    · exact absurd hq (by omega)
                    · exact absurd hq (by omega)
                    · exact absurd hq (by omega)
                    · rfl
                    · exact absurd hq (by omega)
                    · exact absurd hq (by omega)
                  · refine lv_aload_n X.1 X.2.1 dX10_whyNot_167 rfl (lv_at hl 0 rfl) ?_
                    refine lv_iload_n X.1 X.2.1 dX10_whyNot_168 rfl (lv_at hl 2 rfl) ?_
                    refine mm_cVi X I hl (As := [.int x2]) (ci := 10) md_X10_isCursor mv_X10_isCursor ml_X10_240 rfl (kX10_isCursor (n := n)) (by decide) ⟨Nat.le_refl 0, Nat.le_refl 0⟩ rfl rfl (Nat.le_of_ble_eq_true rfl) dX10_whyNot_169 h (fun v13 M H locs I h => ?_)
                    refine mm_jne (tgt := 179) X dX10_whyNot_172 (by decide) h (fun h => ?_) (fun h => ?_)
                    · refine lv_aload_n X.1 X.2.1 dX10_whyNot_179 rfl (lv_at hl 0 rfl) ?_
                      refine mm_rgr X I fl_X10_28 dX10_whyNot_180 h (fun v14 h => ?_)
                      refine lv_iload_n X.1 X.2.1 dX10_whyNot_183 rfl (lv_at hl 2 rfl) ?_
                      refine mm_cSi X I hl (As := [.int x2]) md_X10_cursorAt mv_X10_cursorAt ml_X10_143 (kX10_cursorAt (n := n)) (by decide) ⟨Nat.le_refl 0, Nat.le_refl 0⟩ rfl rfl (Nat.le_of_ble_eq_true rfl) dX10_whyNot_184 h (fun v15 M H locs I h => ?_)
                      refine lv_bipush (v := 8) X.1 X.2.1 dX10_whyNot_187 (by decide) ?_
                      refine lv_iadd X.1 X.2.1 dX10_whyNot_189 ?_
                      refine mm_ria X I dX10_whyNot_190 h (fun v16 h => ?_)
                      refine mm_jne (tgt := 198) X dX10_whyNot_191 (by decide) h (fun h => ?_) (fun h => ?_)
                      · refine lv_iconst (v := (-1)) X.1 X.2.1 dX10_whyNot_198 (by decide) ?_
                        exact mm_xi X I hr hlk dX10_whyNot_199 h
                      · refine lv_iconst (v := 2) X.1 X.2.1 dX10_whyNot_194 (by decide) ?_
                        refine lv_goto (tgt := 199) X.1 X.2.1 dX10_whyNot_195 (by decide) ?_
                        exact mm_xi X I hr hlk dX10_whyNot_199 h
                    · refine lv_iconst (v := 0) X.1 X.2.1 dX10_whyNot_175 (by decide) ?_
                      refine lv_goto (tgt := 199) X.1 X.2.1 dX10_whyNot_176 (by decide) ?_
                      exact mm_xi X I hr hlk dX10_whyNot_199 h
set_option maxHeartbeats 4000000 in
set_option maxRecDepth 100000 in
theorem wpX10_copiesLine_l2 {p : Program} {l : Launch} {e : Env} {s : State} {m : MethodId} {args : Array Value} {below : List Frame} {meth : Method} {c : Code} {D : va_G} {dA : Nat → ClassId} {lo : Nat} (X : mm_C D dA lo cX10_copiesLine RX10 4 p s m args c) (hr : meth.sig.returnType = none) (hlk : meth.locks = false) (n : Nat) {o : mm_M} (k : Nat) : ∀ (M : mm_M) (a0 : Nat) (x1 : Int32) (x2 : Int32) (x3 : Int32) (H : Heap) (locs : List Loc) (ls : Array Slot), mm_I D dA lo s M H locs → lv_has ls 4 [(0, .ref a0), (1, .int x1), (2, .int x2), (3, .int x3)] → pX10_copiesLine_l2 n k M a0 x1 x2 x3 = some o → W p l e (mm_rm 1 20 0 0) s m args below meth c H locs 0 0 (MQ below (mm_Q D dA lo none o) args s 0 0 (mm_fr lo)) (F0 m 2 ls []) := by
  induction k with
  | zero =>
    intro M a0 x1 x2 x3 H locs ls I hl h
    have h : (none : Option (mm_M)) = some o := h
    cases h
  | succ k ih =>
    intro M a0 x1 x2 x3 H locs ls I hl h
    have h : pX10_copiesLine_l2b n (pX10_copiesLine_l2 n k) M a0 x1 x2 x3 = some o := h
    unfold pX10_copiesLine_l2b at h
    refine lv_iload_n X.1 X.2.1 dX10_copiesLine_2 rfl (lv_at hl 3 rfl) ?_
    refine lv_bipush (v := 22) X.1 X.2.1 dX10_copiesLine_3 (by decide) ?_
    refine mm_kge (tgt := 36) X dX10_copiesLine_5 (by decide) h (fun h => ?_) (fun h => ?_)
    · exact mm_xv X I hr hlk dX10_copiesLine_36 h
    · refine lv_aload_n X.1 X.2.1 dX10_copiesLine_8 rfl (lv_at hl 0 rfl) ?_
      refine mm_rgr X I fl_X10_28 dX10_copiesLine_9 h (fun v1 h => ?_)
      refine lv_iload_n X.1 X.2.1 dX10_copiesLine_12 rfl (lv_at hl 2 rfl) ?_
      refine mm_cSi X I hl (As := [.int x2]) md_X10_lineAt mv_X10_lineAt ml_X10_129 (kX10_lineAt (n := n)) (by decide) ⟨Nat.le_refl 0, Nat.le_refl 0⟩ rfl rfl (Nat.le_of_ble_eq_true rfl) dX10_copiesLine_13 h (fun v2 M H locs I h => ?_)
      refine lv_iload_n X.1 X.2.1 dX10_copiesLine_16 rfl (lv_at hl 3 rfl) ?_
      refine lv_iadd X.1 X.2.1 dX10_copiesLine_17 ?_
      refine lv_aload_n X.1 X.2.1 dX10_copiesLine_18 rfl (lv_at hl 0 rfl) ?_
      refine mm_rgr X I fl_X10_28 dX10_copiesLine_19 h (fun v3 h => ?_)
      refine lv_iload_n X.1 X.2.1 dX10_copiesLine_22 rfl (lv_at hl 1 rfl) ?_
      refine mm_cSi X I hl (As := [.int x1]) md_X10_lineAt mv_X10_lineAt ml_X10_129 (kX10_lineAt (n := n)) (by decide) ⟨Nat.le_refl 0, Nat.le_refl 0⟩ rfl rfl (Nat.le_of_ble_eq_true rfl) dX10_copiesLine_23 h (fun v4 M H locs I h => ?_)
      refine lv_iload_n X.1 X.2.1 dX10_copiesLine_26 rfl (lv_at hl 3 rfl) ?_
      refine lv_iadd X.1 X.2.1 dX10_copiesLine_27 ?_
      refine mm_ria X I dX10_copiesLine_28 h (fun v5 h => ?_)
      refine mm_ris X I dX10_copiesLine_29 h (fun M H locs I h => ?_)
      refine lv_iinc (v := (x3 + 1)) (lv' := [(3, .int (x3 + 1)), (0, .ref a0), (1, .int x1), (2, .int x2)]) X.1 X.2.1 dX10_copiesLine_30 hl (k := 3) rfl rfl (by decide) rfl (fun ls hl => ?_)
      refine lv_goto (tgt := 2) X.1 X.2.1 dX10_copiesLine_33 (by decide) ?_
      exact ih M _ _ _ _ _ _ _ I (lv_sub hl [1, 2, 3, 0] rfl) h
set_option maxHeartbeats 4000000 in
set_option maxRecDepth 100000 in
theorem kX10_copiesLine {l : Launch} {D : va_G} {dA : Nat → ClassId} {lo : Nat} {n : Nat} {M : mm_M} {a0 : Nat} {x1 : Int32} {x2 : Int32} (o : mm_M) (h : pX10_copiesLine n M a0 x1 x2 = some o) : (∃ fs, M.2 a0 = some (mm_ob 10 fs)) ∧ mm_Met l D dA lo yX10_copiesLine cX10_copiesLine 4 none 1 20 0 0 [.ref a0, .int x1, .int x2] M none o := by
  unfold pX10_copiesLine at h
  obtain ⟨hob, h⟩ := mm_v_some h
  refine ⟨hob, mm_enter (by decide) (Nat.le_of_ble_eq_true rfl) (fun p e s m args below meth c ls X hr hlk hnm I hl => ?_)⟩
  have X : mm_C D dA lo cX10_copiesLine RX10 4 p s m args c := X
  have hl : lv_has ls 4 [(0, .ref a0), (1, .int x1), (2, .int x2)] := hl
  refine lv_iconst (v := 0) X.1 X.2.1 dX10_copiesLine_0 (by decide) ?_
  refine lv_istore_n (lv' := [(3, .int 0), (0, .ref a0), (1, .int x1), (2, .int x2)]) X.1 X.2.1 dX10_copiesLine_1 rfl hl (by decide) rfl (fun ls hl => ?_)
  exact wpX10_copiesLine_l2 X hr hlk n  n M _ _ _ _ _ _ _ I (lv_sub hl [1, 2, 3, 0] rfl) h
set_option maxHeartbeats 4000000 in
set_option maxRecDepth 100000 in
theorem wpX10_putsNow_b30 {p : Program} {l : Launch} {e : Env} {s : State} {m : MethodId} {args : Array Value} {below : List Frame} {meth : Method} {c : Code} {D : va_G} {dA : Nat → ClassId} {lo : Nat} (X : mm_C D dA lo cX10_putsNow RX10 6 p s m args c) (hr : meth.sig.returnType = (some .int)) (hlk : meth.locks = false) (n : Nat) {o : Int32 × mm_M}  : ∀ (M : mm_M) (a0 : Nat) (x1 : Int32) (a2 : Nat) (x3 : Int32) (x4 : Int32) (H : Heap) (locs : List Loc) (ls : Array Slot), mm_I D dA lo s M H locs → lv_has ls 6 [(0, .ref a0), (1, .int x1), (2, .ref a2), (3, .int x3), (4, .int x4)] → pX10_putsNow_b30 n M a0 x1 a2 x3 x4 = some o → W p l e (mm_rm 2 45 0 0) s m args below meth c H locs 0 0 (MQ below (mm_Q D dA lo (some (.int o.1)) o.2) args s 0 0 (mm_fr lo)) (F0 m 30 ls []) := by
  intro M a0 x1 a2 x3 x4 H locs ls I hl h
  unfold pX10_putsNow_b30 at h
  refine lv_aload_n X.1 X.2.1 dX10_putsNow_30 rfl (lv_at hl 0 rfl) ?_
  refine mm_rgr X I fl_X10_28 dX10_putsNow_31 h (fun v1 h => ?_)
  refine lv_iconst (v := 0) X.1 X.2.1 dX10_putsNow_34 (by decide) ?_
  refine lv_dup2_11 X.1 X.2.1 dX10_putsNow_35 rfl rfl ?_
  refine mm_ria X I dX10_putsNow_36 h (fun v2 h => ?_)
  refine lv_iconst (v := 1) X.1 X.2.1 dX10_putsNow_37 (by decide) ?_
  refine lv_iadd X.1 X.2.1 dX10_putsNow_38 ?_
  refine mm_ris X I dX10_putsNow_39 h (fun M H locs I h => ?_)
  refine lv_aload_n X.1 X.2.1 dX10_putsNow_40 rfl (lv_at hl 0 rfl) ?_
  refine mm_rgr X I fl_X10_28 dX10_putsNow_41 h (fun v3 h => ?_)
  refine lv_iload_n X.1 X.2.1 dX10_putsNow_44 rfl (lv_at hl 1 rfl) ?_
  refine mm_cSi X I hl (As := [.int x1]) md_X10_lineAt mv_X10_lineAt ml_X10_129 (kX10_lineAt (n := n)) (by decide) ⟨Nat.le_refl 0, Nat.le_refl 0⟩ rfl rfl (Nat.le_of_ble_eq_true rfl) dX10_putsNow_45 h (fun v4 M H locs I h => ?_)
  refine lv_iconst (v := 0) X.1 X.2.1 dX10_putsNow_48 (by decide) ?_
  refine lv_iadd X.1 X.2.1 dX10_putsNow_49 ?_
  refine lv_aload_n X.1 X.2.1 dX10_putsNow_50 rfl (lv_at hl 0 rfl) ?_
  refine mm_rgr X I fl_X10_28 dX10_putsNow_51 h (fun v5 h => ?_)
  refine lv_iconst (v := 1) X.1 X.2.1 dX10_putsNow_54 (by decide) ?_
  refine mm_ria X I dX10_putsNow_55 h (fun v6 h => ?_)
  refine mm_ris X I dX10_putsNow_56 h (fun M H locs I h => ?_)
  refine lv_aload_n X.1 X.2.1 dX10_putsNow_57 rfl (lv_at hl 0 rfl) ?_
  refine mm_rgr X I fl_X10_28 dX10_putsNow_58 h (fun v7 h => ?_)
  refine lv_iconst (v := 1) X.1 X.2.1 dX10_putsNow_61 (by decide) ?_
  refine lv_dup2_11 X.1 X.2.1 dX10_putsNow_62 rfl rfl ?_
  refine mm_ria X I dX10_putsNow_63 h (fun v8 h => ?_)
  refine lv_iconst (v := 1) X.1 X.2.1 dX10_putsNow_64 (by decide) ?_
  refine lv_iadd X.1 X.2.1 dX10_putsNow_65 ?_
  refine mm_ris X I dX10_putsNow_66 h (fun M H locs I h => ?_)
  refine lv_aload_n X.1 X.2.1 dX10_putsNow_67 rfl (lv_at hl 0 rfl) ?_
  refine lv_iload_n X.1 X.2.1 dX10_putsNow_68 rfl (lv_at hl 1 rfl) ?_
  refine lv_aload_n X.1 X.2.1 dX10_putsNow_69 rfl (lv_at hl 2 rfl) ?_
  refine lv_iload_n X.1 X.2.1 dX10_putsNow_70 rfl (lv_at hl 3 rfl) ?_
  refine lv_iload X.1 X.2.1 dX10_putsNow_71 (lv_at hl 4 rfl) ?_
  refine mm_cVv X I hl (As := [.int x1, .ref a2, .int x3, .int x4]) (ci := 10) md_X10_laysSigns mv_X10_laysSigns ml_X10_146 rfl (kX10_laysSigns (n := n)) (by decide) ⟨Nat.le_refl 0, Nat.le_refl 0⟩ rfl rfl (Nat.le_of_ble_eq_true rfl) dX10_putsNow_73 h (fun M H locs I h => ?_)
  refine lv_aload_n X.1 X.2.1 dX10_putsNow_76 rfl (lv_at hl 0 rfl) ?_
  refine lv_iload_n X.1 X.2.1 dX10_putsNow_77 rfl (lv_at hl 1 rfl) ?_
  refine mm_cVi X I hl (As := [.int x1]) (ci := 10) md_X10_numberOf mv_X10_numberOf ml_X10_190 rfl (kX10_numberOf (n := n)) (by decide) ⟨Nat.le_refl 0, Nat.le_refl 0⟩ rfl rfl (Nat.le_of_ble_eq_true rfl) dX10_putsNow_78 h (fun v10 M H locs I h => ?_)
  exact mm_xi X I hr hlk dX10_putsNow_81 h
set_option maxHeartbeats 4000000 in
set_option maxRecDepth 100000 in
theorem wpX10_putsNow_l8 {p : Program} {l : Launch} {e : Env} {s : State} {m : MethodId} {args : Array Value} {below : List Frame} {meth : Method} {c : Code} {D : va_G} {dA : Nat → ClassId} {lo : Nat} (X : mm_C D dA lo cX10_putsNow RX10 6 p s m args c) (hr : meth.sig.returnType = (some .int)) (hlk : meth.locks = false) (n : Nat) {o : Int32 × mm_M} (k : Nat) : ∀ (M : mm_M) (a0 : Nat) (x1 : Int32) (a2 : Nat) (x3 : Int32) (x4 : Int32) (x5 : Int32) (H : Heap) (locs : List Loc) (ls : Array Slot), mm_I D dA lo s M H locs → lv_has ls 6 [(0, .ref a0), (1, .int x1), (2, .ref a2), (3, .int x3), (4, .int x4), (5, .int x5)] → pX10_putsNow_l8 n k M a0 x1 a2 x3 x4 x5 = some o → W p l e (mm_rm 2 45 0 0) s m args below meth c H locs 0 0 (MQ below (mm_Q D dA lo (some (.int o.1)) o.2) args s 0 0 (mm_fr lo)) (F0 m 8 ls []) := by
  induction k with
  | zero =>
    intro M a0 x1 a2 x3 x4 x5 H locs ls I hl h
    have h : (none : Option (Int32 × mm_M)) = some o := h
    cases h
  | succ k ih =>
    intro M a0 x1 a2 x3 x4 x5 H locs ls I hl h
    have h : pX10_putsNow_l8b n (pX10_putsNow_l8 n k) M a0 x1 a2 x3 x4 x5 = some o := h
    unfold pX10_putsNow_l8b at h
    refine lv_iload X.1 X.2.1 dX10_putsNow_8 (lv_at hl 5 rfl) ?_
    refine lv_iload_n X.1 X.2.1 dX10_putsNow_10 rfl (lv_at hl 1 rfl) ?_
    refine mm_kle (tgt := 30) X dX10_putsNow_11 (by decide) h (fun h => ?_) (fun h => ?_)
    · exact wpX10_putsNow_b30 X hr hlk n  M _ _ _ _ _ _ _ _ I (lv_sub hl [0, 1, 2, 3, 4] rfl) h
    · refine lv_aload_n X.1 X.2.1 dX10_putsNow_14 rfl (lv_at hl 0 rfl) ?_
      refine lv_iload X.1 X.2.1 dX10_putsNow_15 (lv_at hl 5 rfl) ?_
      refine lv_iconst (v := 1) X.1 X.2.1 dX10_putsNow_17 (by decide) ?_
      refine lv_isub X.1 X.2.1 dX10_putsNow_18 ?_
      refine lv_iload X.1 X.2.1 dX10_putsNow_19 (lv_at hl 5 rfl) ?_
      refine mm_cVv X I hl (As := [.int (x5 - 1), .int x5]) (ci := 10) md_X10_copiesLine mv_X10_copiesLine ml_X10_249 rfl (kX10_copiesLine (n := n)) (by decide) ⟨Nat.le_refl 0, Nat.le_refl 0⟩ rfl rfl (Nat.le_of_ble_eq_true rfl) dX10_putsNow_21 h (fun M H locs I h => ?_)
      refine lv_iinc (v := (x5 + (-1))) (lv' := [(5, .int (x5 + (-1))), (0, .ref a0), (1, .int x1), (2, .ref a2), (3, .int x3), (4, .int x4)]) X.1 X.2.1 dX10_putsNow_24 hl (k := 5) rfl rfl (by decide) rfl (fun ls hl => ?_)
      refine lv_goto (tgt := 8) X.1 X.2.1 dX10_putsNow_27 (by decide) ?_
      exact ih M _ _ _ _ _ _ _ _ _ I (lv_sub hl [1, 2, 3, 4, 5, 0] rfl) h
set_option maxHeartbeats 4000000 in
set_option maxRecDepth 100000 in
theorem kX10_putsNow {l : Launch} {D : va_G} {dA : Nat → ClassId} {lo : Nat} {n : Nat} {M : mm_M} {a0 : Nat} {x1 : Int32} {a2 : Nat} {x3 : Int32} {x4 : Int32} (o : Int32 × mm_M) (h : pX10_putsNow n M a0 x1 a2 x3 x4 = some o) : (∃ fs, M.2 a0 = some (mm_ob 10 fs)) ∧ mm_Met l D dA lo yX10_putsNow cX10_putsNow 6 (some .int) 2 45 0 0 [.ref a0, .int x1, .ref a2, .int x3, .int x4] M (some (.int o.1)) o.2 := by
  unfold pX10_putsNow at h
  obtain ⟨hob, h⟩ := mm_v_some h
  refine ⟨hob, mm_enter (by decide) (Nat.le_of_ble_eq_true rfl) (fun p e s m args below meth c ls X hr hlk hnm I hl => ?_)⟩
  have X : mm_C D dA lo cX10_putsNow RX10 6 p s m args c := X
  have hl : lv_has ls 6 [(0, .ref a0), (1, .int x1), (2, .ref a2), (3, .int x3), (4, .int x4)] := hl
  refine lv_aload_n X.1 X.2.1 dX10_putsNow_0 rfl (lv_at hl 0 rfl) ?_
  refine mm_rgr X I fl_X10_28 dX10_putsNow_1 h (fun v1 h => ?_)
  refine lv_iconst (v := 0) X.1 X.2.1 dX10_putsNow_4 (by decide) ?_
  refine mm_ria X I dX10_putsNow_5 h (fun v2 h => ?_)
  refine lv_istore (lv' := [(5, .int v2), (0, .ref a0), (1, .int x1), (2, .ref a2), (3, .int x3), (4, .int x4)]) X.1 X.2.1 dX10_putsNow_6 hl (by decide) rfl (fun ls hl => ?_)
  exact wpX10_putsNow_l8 X hr hlk n  n M _ _ _ _ _ _ _ _ _ I (lv_sub hl [1, 2, 3, 4, 5, 0] rfl) h
set_option maxHeartbeats 4000000 in
set_option maxRecDepth 100000 in
theorem wpX10_takesNow_b34 {p : Program} {l : Launch} {e : Env} {s : State} {m : MethodId} {args : Array Value} {below : List Frame} {meth : Method} {c : Code} {D : va_G} {dA : Nat → ClassId} {lo : Nat} (X : mm_C D dA lo cX10_takesNow RX10 4 p s m args c) (hr : meth.sig.returnType = (some .int)) (hlk : meth.locks = false) (n : Nat) {o : Int32 × mm_M}  : ∀ (M : mm_M) (a0 : Nat) (x2 : Int32) (H : Heap) (locs : List Loc) (ls : Array Slot), mm_I D dA lo s M H locs → lv_has ls 4 [(0, .ref a0), (2, .int x2)] → pX10_takesNow_b34 n M a0 x2 = some o → W p l e (mm_rm 2 43 0 0) s m args below meth c H locs 0 0 (MQ below (mm_Q D dA lo (some (.int o.1)) o.2) args s 0 0 (mm_fr lo)) (F0 m 34 ls []) := by
  intro M a0 x2 H locs ls I hl h
  unfold pX10_takesNow_b34 at h
  refine lv_aload_n X.1 X.2.1 dX10_takesNow_34 rfl (lv_at hl 0 rfl) ?_
  refine mm_rgr X I fl_X10_28 dX10_takesNow_35 h (fun v1 h => ?_)
  refine lv_iconst (v := 0) X.1 X.2.1 dX10_takesNow_38 (by decide) ?_
  refine lv_dup2_11 X.1 X.2.1 dX10_takesNow_39 rfl rfl ?_
  refine mm_ria X I dX10_takesNow_40 h (fun v2 h => ?_)
  refine lv_iconst (v := 1) X.1 X.2.1 dX10_takesNow_41 (by decide) ?_
  refine lv_isub X.1 X.2.1 dX10_takesNow_42 ?_
  refine mm_ris X I dX10_takesNow_43 h (fun M H locs I h => ?_)
  refine lv_iload_n X.1 X.2.1 dX10_takesNow_44 rfl (lv_at hl 1 rfl) ?_
  exact mm_xi X I hr hlk dX10_takesNow_45 h
set_option maxHeartbeats 4000000 in
set_option maxRecDepth 100000 in
theorem wpX10_takesNow_l10 {p : Program} {l : Launch} {e : Env} {s : State} {m : MethodId} {args : Array Value} {below : List Frame} {meth : Method} {c : Code} {D : va_G} {dA : Nat → ClassId} {lo : Nat} (X : mm_C D dA lo cX10_takesNow RX10 4 p s m args c) (hr : meth.sig.returnType = (some .int)) (hlk : meth.locks = false) (n : Nat) {o : Int32 × mm_M} (k : Nat) : ∀ (M : mm_M) (a0 : Nat) (x2 : Int32) (x3 : Int32) (H : Heap) (locs : List Loc) (ls : Array Slot), mm_I D dA lo s M H locs → lv_has ls 4 [(0, .ref a0), (2, .int x2), (3, .int x3)] → pX10_takesNow_l10 n k M a0 x2 x3 = some o → W p l e (mm_rm 2 43 0 0) s m args below meth c H locs 0 0 (MQ below (mm_Q D dA lo (some (.int o.1)) o.2) args s 0 0 (mm_fr lo)) (F0 m 10 ls []) := by
  induction k with
  | zero =>
    intro M a0 x2 x3 H locs ls I hl h
    have h : (none : Option (Int32 × mm_M)) = some o := h
    cases h
  | succ k ih =>
    intro M a0 x2 x3 H locs ls I hl h
    have h : pX10_takesNow_l10b n (pX10_takesNow_l10 n k) M a0 x2 x3 = some o := h
    unfold pX10_takesNow_l10b at h
    refine lv_iload_n X.1 X.2.1 dX10_takesNow_10 rfl (lv_at hl 2 rfl) ?_
    refine lv_aload_n X.1 X.2.1 dX10_takesNow_11 rfl (lv_at hl 0 rfl) ?_
    refine mm_rgr X I fl_X10_28 dX10_takesNow_12 h (fun v1 h => ?_)
    refine lv_iconst (v := 0) X.1 X.2.1 dX10_takesNow_15 (by decide) ?_
    refine mm_ria X I dX10_takesNow_16 h (fun v2 h => ?_)
    refine mm_kge (tgt := 34) X dX10_takesNow_17 (by decide) h (fun h => ?_) (fun h => ?_)
    · exact wpX10_takesNow_b34 X hr hlk n  M _ _ _ _ _ I (lv_sub hl [0, 1] rfl) h
    · refine lv_aload_n X.1 X.2.1 dX10_takesNow_20 rfl (lv_at hl 0 rfl) ?_
      refine lv_iload_n X.1 X.2.1 dX10_takesNow_21 rfl (lv_at hl 2 rfl) ?_
      refine lv_iload_n X.1 X.2.1 dX10_takesNow_22 rfl (lv_at hl 2 rfl) ?_
      refine lv_iconst (v := 1) X.1 X.2.1 dX10_takesNow_23 (by decide) ?_
      refine lv_isub X.1 X.2.1 dX10_takesNow_24 ?_
      refine mm_cVv X I hl (As := [.int x3, .int (x3 - 1)]) (ci := 10) md_X10_copiesLine mv_X10_copiesLine ml_X10_249 rfl (kX10_copiesLine (n := n)) (by decide) ⟨Nat.le_refl 0, Nat.le_refl 0⟩ rfl rfl (Nat.le_of_ble_eq_true rfl) dX10_takesNow_25 h (fun M H locs I h => ?_)
      refine lv_iinc (v := (x3 + 1)) (lv' := [(3, .int (x3 + 1)), (0, .ref a0), (2, .int x2)]) X.1 X.2.1 dX10_takesNow_28 hl (k := 2) rfl rfl (by decide) rfl (fun ls hl => ?_)
      refine lv_goto (tgt := 10) X.1 X.2.1 dX10_takesNow_31 (by decide) ?_
      exact ih M _ _ _ _ _ _ I (lv_sub hl [1, 2, 0] rfl) h
set_option maxHeartbeats 4000000 in
set_option maxRecDepth 100000 in
theorem kX10_takesNow {l : Launch} {D : va_G} {dA : Nat → ClassId} {lo : Nat} {n : Nat} {M : mm_M} {a0 : Nat} {x1 : Int32} (o : Int32 × mm_M) (h : pX10_takesNow n M a0 x1 = some o) : (∃ fs, M.2 a0 = some (mm_ob 10 fs)) ∧ mm_Met l D dA lo yX10_takesNow cX10_takesNow 4 (some .int) 2 43 0 0 [.ref a0, .int x1] M (some (.int o.1)) o.2 := by
  unfold pX10_takesNow at h
  obtain ⟨hob, h⟩ := mm_v_some h
  refine ⟨hob, mm_enter (by decide) (Nat.le_of_ble_eq_true rfl) (fun p e s m args below meth c ls X hr hlk hnm I hl => ?_)⟩
  have X : mm_C D dA lo cX10_takesNow RX10 4 p s m args c := X
  have hl : lv_has ls 4 [(0, .ref a0), (1, .int x1)] := hl
  refine lv_aload_n X.1 X.2.1 dX10_takesNow_0 rfl (lv_at hl 0 rfl) ?_
  refine lv_iload_n X.1 X.2.1 dX10_takesNow_1 rfl (lv_at hl 1 rfl) ?_
  refine mm_cVi X I hl (As := [.int x1]) (ci := 10) md_X10_longOf mv_X10_longOf ml_X10_136 rfl (kX10_longOf (n := n)) (by decide) ⟨Nat.le_refl 0, Nat.le_refl 0⟩ rfl rfl (Nat.le_of_ble_eq_true rfl) dX10_takesNow_2 h (fun v1 M H locs I h => ?_)
  refine lv_istore_n (lv' := [(2, .int v1), (0, .ref a0), (1, .int x1)]) X.1 X.2.1 dX10_takesNow_5 rfl hl (by decide) rfl (fun ls hl => ?_)
  refine lv_iload_n X.1 X.2.1 dX10_takesNow_6 rfl (lv_at hl 2 rfl) ?_
  refine lv_iconst (v := 1) X.1 X.2.1 dX10_takesNow_7 (by decide) ?_
  refine lv_iadd X.1 X.2.1 dX10_takesNow_8 ?_
  refine lv_istore_n (lv' := [(3, .int (x1 + 1)), (2, .int v1), (0, .ref a0), (1, .int x1)]) X.1 X.2.1 dX10_takesNow_9 rfl hl (by decide) rfl (fun ls hl => ?_)
  exact wpX10_takesNow_l10 X hr hlk n  n M _ _ _ _ _ _ I (lv_sub hl [2, 1, 0] rfl) h
set_option maxHeartbeats 4000000 in
set_option maxRecDepth 100000 in
theorem wpX10_swapsNow_l2 {p : Program} {l : Launch} {e : Env} {s : State} {m : MethodId} {args : Array Value} {below : List Frame} {meth : Method} {c : Code} {D : va_G} {dA : Nat → ClassId} {lo : Nat} (X : mm_C D dA lo cX10_swapsNow RX10 5 p s m args c) (hr : meth.sig.returnType = (some .int)) (hlk : meth.locks = false) (n : Nat) {o : Int32 × mm_M} (k : Nat) : ∀ (M : mm_M) (a0 : Nat) (x1 : Int32) (x2 : Int32) (x3 : Int32) (H : Heap) (locs : List Loc) (ls : Array Slot), mm_I D dA lo s M H locs → lv_has ls 5 [(0, .ref a0), (1, .int x1), (2, .int x2), (3, .int x3)] → pX10_swapsNow_l2 n k M a0 x1 x2 x3 = some o → W p l e (mm_rm 2 41 0 0) s m args below meth c H locs 0 0 (MQ below (mm_Q D dA lo (some (.int o.1)) o.2) args s 0 0 (mm_fr lo)) (F0 m 2 ls []) := by
  induction k with
  | zero =>
    intro M a0 x1 x2 x3 H locs ls I hl h
    have h : (none : Option (Int32 × mm_M)) = some o := h
    cases h
  | succ k ih =>
    intro M a0 x1 x2 x3 H locs ls I hl h
    have h : pX10_swapsNow_l2b n (pX10_swapsNow_l2 n k) M a0 x1 x2 x3 = some o := h
    unfold pX10_swapsNow_l2b at h
    refine lv_iload_n X.1 X.2.1 dX10_swapsNow_2 rfl (lv_at hl 3 rfl) ?_
    refine lv_bipush (v := 22) X.1 X.2.1 dX10_swapsNow_3 (by decide) ?_
    refine mm_kge (tgt := 62) X dX10_swapsNow_5 (by decide) h (fun h => ?_) (fun h => ?_)
    · refine lv_aload_n X.1 X.2.1 dX10_swapsNow_62 rfl (lv_at hl 0 rfl) ?_
      refine lv_iload_n X.1 X.2.1 dX10_swapsNow_63 rfl (lv_at hl 1 rfl) ?_
      refine mm_cVi X I hl (As := [.int x1]) (ci := 10) md_X10_numberOf mv_X10_numberOf ml_X10_190 rfl (kX10_numberOf (n := n)) (by decide) ⟨Nat.le_refl 0, Nat.le_refl 0⟩ rfl rfl (Nat.le_of_ble_eq_true rfl) dX10_swapsNow_64 h (fun v1 M H locs I h => ?_)
      exact mm_xi X I hr hlk dX10_swapsNow_67 h
    · refine lv_aload_n X.1 X.2.1 dX10_swapsNow_8 rfl (lv_at hl 0 rfl) ?_
      refine mm_rgr X I fl_X10_28 dX10_swapsNow_9 h (fun v2 h => ?_)
      refine lv_iload_n X.1 X.2.1 dX10_swapsNow_12 rfl (lv_at hl 1 rfl) ?_
      refine mm_cSi X I hl (As := [.int x1]) md_X10_lineAt mv_X10_lineAt ml_X10_129 (kX10_lineAt (n := n)) (by decide) ⟨Nat.le_refl 0, Nat.le_refl 0⟩ rfl rfl (Nat.le_of_ble_eq_true rfl) dX10_swapsNow_13 h (fun v3 M H locs I h => ?_)
      refine lv_iload_n X.1 X.2.1 dX10_swapsNow_16 rfl (lv_at hl 3 rfl) ?_
      refine lv_iadd X.1 X.2.1 dX10_swapsNow_17 ?_
      refine mm_ria X I dX10_swapsNow_18 h (fun v4 h => ?_)
      refine lv_istore (lv' := [(4, .int v4), (0, .ref a0), (1, .int x1), (2, .int x2), (3, .int x3)]) X.1 X.2.1 dX10_swapsNow_19 hl (by decide) rfl (fun ls hl => ?_)
      refine lv_aload_n X.1 X.2.1 dX10_swapsNow_21 rfl (lv_at hl 1 rfl) ?_
      refine mm_rgr X I fl_X10_28 dX10_swapsNow_22 h (fun v5 h => ?_)
      refine lv_iload_n X.1 X.2.1 dX10_swapsNow_25 rfl (lv_at hl 2 rfl) ?_
      refine mm_cSi X I hl (As := [.int x1]) md_X10_lineAt mv_X10_lineAt ml_X10_129 (kX10_lineAt (n := n)) (by decide) ⟨Nat.le_refl 0, Nat.le_refl 0⟩ rfl rfl (Nat.le_of_ble_eq_true rfl) dX10_swapsNow_26 h (fun v6 M H locs I h => ?_)
      refine lv_iload_n X.1 X.2.1 dX10_swapsNow_29 rfl (lv_at hl 4 rfl) ?_
      refine lv_iadd X.1 X.2.1 dX10_swapsNow_30 ?_
      refine lv_aload_n X.1 X.2.1 dX10_swapsNow_31 rfl (lv_at hl 1 rfl) ?_
      refine mm_rgr X I fl_X10_28 dX10_swapsNow_32 h (fun v7 h => ?_)
      refine lv_iload_n X.1 X.2.1 dX10_swapsNow_35 rfl (lv_at hl 3 rfl) ?_
      refine mm_cSi X I hl (As := [.int x2]) md_X10_lineAt mv_X10_lineAt ml_X10_129 (kX10_lineAt (n := n)) (by decide) ⟨Nat.le_refl 0, Nat.le_refl 0⟩ rfl rfl (Nat.le_of_ble_eq_true rfl) dX10_swapsNow_36 h (fun v8 M H locs I h => ?_)
      refine lv_iload_n X.1 X.2.1 dX10_swapsNow_39 rfl (lv_at hl 4 rfl) ?_
      refine lv_iadd X.1 X.2.1 dX10_swapsNow_40 ?_
      refine mm_ria X I dX10_swapsNow_41 h (fun v9 h => ?_)
      refine mm_ris X I dX10_swapsNow_42 h (fun M H locs I h => ?_)
      refine lv_aload_n X.1 X.2.1 dX10_swapsNow_43 rfl (lv_at hl 1 rfl) ?_
      refine mm_rgr X I fl_X10_28 dX10_swapsNow_44 h (fun v10 h => ?_)
      refine lv_iload_n X.1 X.2.1 dX10_swapsNow_47 rfl (lv_at hl 3 rfl) ?_
      refine mm_cSi X I hl (As := [.int x2]) md_X10_lineAt mv_X10_lineAt ml_X10_129 (kX10_lineAt (n := n)) (by decide) ⟨Nat.le_refl 0, Nat.le_refl 0⟩ rfl rfl (Nat.le_of_ble_eq_true rfl) dX10_swapsNow_48 h (fun v11 M H locs I h => ?_)
      refine lv_iload_n X.1 X.2.1 dX10_swapsNow_51 rfl (lv_at hl 4 rfl) ?_
      refine lv_iadd X.1 X.2.1 dX10_swapsNow_52 ?_
      refine lv_iload X.1 X.2.1 dX10_swapsNow_53 (lv_at hl 0 rfl) ?_
      refine mm_ris X I dX10_swapsNow_55 h (fun M H locs I h => ?_)
      refine lv_iinc (v := (x3 + 1)) (lv' := [(3, .int (x3 + 1)), (4, .int v4), (0, .ref a0), (1, .int x1), (2, .int x2)]) X.1 X.2.1 dX10_swapsNow_56 hl (k := 4) rfl rfl (by decide) rfl (fun ls hl => ?_)
      refine lv_goto (tgt := 2) X.1 X.2.1 dX10_swapsNow_59 (by decide) ?_
      exact ih M _ _ _ _ _ _ _ I (lv_sub hl [2, 3, 4, 0] rfl) h
set_option maxHeartbeats 4000000 in
set_option maxRecDepth 100000 in
theorem kX10_swapsNow {l : Launch} {D : va_G} {dA : Nat → ClassId} {lo : Nat} {n : Nat} {M : mm_M} {a0 : Nat} {x1 : Int32} {x2 : Int32} (o : Int32 × mm_M) (h : pX10_swapsNow n M a0 x1 x2 = some o) : (∃ fs, M.2 a0 = some (mm_ob 10 fs)) ∧ mm_Met l D dA lo yX10_swapsNow cX10_swapsNow 5 (some .int) 2 41 0 0 [.ref a0, .int x1, .int x2] M (some (.int o.1)) o.2 := by
  unfold pX10_swapsNow at h
  obtain ⟨hob, h⟩ := mm_v_some h
  refine ⟨hob, mm_enter (by decide) (Nat.le_of_ble_eq_true rfl) (fun p e s m args below meth c ls X hr hlk hnm I hl => ?_)⟩
  have X : mm_C D dA lo cX10_swapsNow RX10 5 p s m args c := X
  have hl : lv_has ls 5 [(0, .ref a0), (1, .int x1), (2, .int x2)] := hl
  refine lv_iconst (v := 0) X.1 X.2.1 dX10_swapsNow_0 (by decide) ?_
  refine lv_istore_n (lv' := [(3, .int 0), (0, .ref a0), (1, .int x1), (2, .int x2)]) X.1 X.2.1 dX10_swapsNow_1 rfl hl (by decide) rfl (fun ls hl => ?_)
  exact wpX10_swapsNow_l2 X hr hlk n  n M _ _ _ _ _ _ _ I (lv_sub hl [1, 2, 3, 0] rfl) h
set_option maxHeartbeats 4000000 in
set_option maxRecDepth 100000 in
theorem wpX10_splitsNow_b130 {p : Program} {l : Launch} {e : Env} {s : State} {m : MethodId} {args : Array Value} {below : List Frame} {meth : Method} {c : Code} {D : va_G} {dA : Nat → ClassId} {lo : Nat} (X : mm_C D dA lo cX10_splitsNow RX10 5 p s m args c) (hr : meth.sig.returnType = (some .int)) (hlk : meth.locks = false) (n : Nat) {o : Int32 × mm_M}  : ∀ (M : mm_M) (a0 : Nat) (x1 : Int32) (x2 : Int32) (H : Heap) (locs : List Loc) (ls : Array Slot), mm_I D dA lo s M H locs → lv_has ls 5 [(0, .ref a0), (1, .int x1), (2, .int x2)] → pX10_splitsNow_b130 n M a0 x1 x2 = some o → W p l e (mm_rm 2 45 0 0) s m args below meth c H locs 0 0 (MQ below (mm_Q D dA lo (some (.int o.1)) o.2) args s 0 0 (mm_fr lo)) (F0 m 130 ls []) := by
  intro M a0 x1 x2 H locs ls I hl h
  unfold pX10_splitsNow_b130 at h
  refine lv_aload_n X.1 X.2.1 dX10_splitsNow_130 rfl (lv_at hl 0 rfl) ?_
  refine mm_rgr X I fl_X10_28 dX10_splitsNow_131 h (fun v1 h => ?_)
  refine lv_iload_n X.1 X.2.1 dX10_splitsNow_134 rfl (lv_at hl 1 rfl) ?_
  refine mm_cSi X I hl (As := [.int x1]) md_X10_lineAt mv_X10_lineAt ml_X10_129 (kX10_lineAt (n := n)) (by decide) ⟨Nat.le_refl 0, Nat.le_refl 0⟩ rfl rfl (Nat.le_of_ble_eq_true rfl) dX10_splitsNow_135 h (fun v2 M H locs I h => ?_)
  refine lv_iconst (v := 1) X.1 X.2.1 dX10_splitsNow_138 (by decide) ?_
  refine lv_iadd X.1 X.2.1 dX10_splitsNow_139 ?_
  refine lv_iload_n X.1 X.2.1 dX10_splitsNow_140 rfl (lv_at hl 2 rfl) ?_
  refine mm_ris X I dX10_splitsNow_141 h (fun M H locs I h => ?_)
  refine lv_aload_n X.1 X.2.1 dX10_splitsNow_142 rfl (lv_at hl 0 rfl) ?_
  refine lv_iload_n X.1 X.2.1 dX10_splitsNow_143 rfl (lv_at hl 1 rfl) ?_
  refine lv_iconst (v := 1) X.1 X.2.1 dX10_splitsNow_144 (by decide) ?_
  refine lv_iadd X.1 X.2.1 dX10_splitsNow_145 ?_
  refine mm_cVi X I hl (As := [.int (x1 + 1)]) (ci := 10) md_X10_numberOf mv_X10_numberOf ml_X10_190 rfl (kX10_numberOf (n := n)) (by decide) ⟨Nat.le_refl 0, Nat.le_refl 0⟩ rfl rfl (Nat.le_of_ble_eq_true rfl) dX10_splitsNow_146 h (fun v3 M H locs I h => ?_)
  exact mm_xi X I hr hlk dX10_splitsNow_149 h
set_option maxHeartbeats 4000000 in
set_option maxRecDepth 100000 in
theorem wpX10_splitsNow_l102 {p : Program} {l : Launch} {e : Env} {s : State} {m : MethodId} {args : Array Value} {below : List Frame} {meth : Method} {c : Code} {D : va_G} {dA : Nat → ClassId} {lo : Nat} (X : mm_C D dA lo cX10_splitsNow RX10 5 p s m args c) (hr : meth.sig.returnType = (some .int)) (hlk : meth.locks = false) (n : Nat) {o : Int32 × mm_M} (k : Nat) : ∀ (M : mm_M) (a0 : Nat) (x1 : Int32) (x2 : Int32) (x4 : Int32) (H : Heap) (locs : List Loc) (ls : Array Slot), mm_I D dA lo s M H locs → lv_has ls 5 [(0, .ref a0), (1, .int x1), (2, .int x2), (4, .int x4)] → pX10_splitsNow_l102 n k M a0 x1 x2 x4 = some o → W p l e (mm_rm 2 45 0 0) s m args below meth c H locs 0 0 (MQ below (mm_Q D dA lo (some (.int o.1)) o.2) args s 0 0 (mm_fr lo)) (F0 m 102 ls []) := by
  induction k with
  | zero =>
    intro M a0 x1 x2 x4 H locs ls I hl h
    have h : (none : Option (Int32 × mm_M)) = some o := h
    cases h
  | succ k ih =>
    intro M a0 x1 x2 x4 H locs ls I hl h
    have h : pX10_splitsNow_l102b n (pX10_splitsNow_l102 n k) M a0 x1 x2 x4 = some o := h
    unfold pX10_splitsNow_l102b at h
    refine lv_iload X.1 X.2.1 dX10_splitsNow_102 (lv_at hl 3 rfl) ?_
    refine lv_bipush (v := 20) X.1 X.2.1 dX10_splitsNow_104 (by decide) ?_
    refine mm_kge (tgt := 130) X dX10_splitsNow_106 (by decide) h (fun h => ?_) (fun h => ?_)
    · exact wpX10_splitsNow_b130 X hr hlk n  M _ _ _ _ _ _ I (lv_sub hl [0, 1, 2] rfl) h
    · refine lv_aload_n X.1 X.2.1 dX10_splitsNow_109 rfl (lv_at hl 0 rfl) ?_
      refine mm_rgr X I fl_X10_28 dX10_splitsNow_110 h (fun v1 h => ?_)
      refine lv_iload_n X.1 X.2.1 dX10_splitsNow_113 rfl (lv_at hl 1 rfl) ?_
      refine mm_cSi X I hl (As := [.int x1]) md_X10_lineAt mv_X10_lineAt ml_X10_129 (kX10_lineAt (n := n)) (by decide) ⟨Nat.le_refl 0, Nat.le_refl 0⟩ rfl rfl (Nat.le_of_ble_eq_true rfl) dX10_splitsNow_114 h (fun v2 M H locs I h => ?_)
      refine lv_iconst (v := 2) X.1 X.2.1 dX10_splitsNow_117 (by decide) ?_
      refine lv_iadd X.1 X.2.1 dX10_splitsNow_118 ?_
      refine lv_iload X.1 X.2.1 dX10_splitsNow_119 (lv_at hl 3 rfl) ?_
      refine lv_iadd X.1 X.2.1 dX10_splitsNow_121 ?_
      refine lv_iconst (v := 0) X.1 X.2.1 dX10_splitsNow_122 (by decide) ?_
      refine mm_ris X I dX10_splitsNow_123 h (fun M H locs I h => ?_)
      refine lv_iinc (v := (x4 + 1)) (lv' := [(4, .int (x4 + 1)), (0, .ref a0), (1, .int x1), (2, .int x2)]) X.1 X.2.1 dX10_splitsNow_124 hl (k := 3) rfl rfl (by decide) rfl (fun ls hl => ?_)
      refine lv_goto (tgt := 102) X.1 X.2.1 dX10_splitsNow_127 (by decide) ?_
      exact ih M _ _ _ _ _ _ _ I (lv_sub hl [1, 2, 3, 0] rfl) h
set_option maxHeartbeats 4000000 in
set_option maxRecDepth 100000 in
theorem wpX10_splitsNow_b38 {p : Program} {l : Launch} {e : Env} {s : State} {m : MethodId} {args : Array Value} {below : List Frame} {meth : Method} {c : Code} {D : va_G} {dA : Nat → ClassId} {lo : Nat} (X : mm_C D dA lo cX10_splitsNow RX10 5 p s m args c) (hr : meth.sig.returnType = (some .int)) (hlk : meth.locks = false) (n : Nat) {o : Int32 × mm_M}  : ∀ (M : mm_M) (a0 : Nat) (x1 : Int32) (x2 : Int32) (x3 : Int32) (H : Heap) (locs : List Loc) (ls : Array Slot), mm_I D dA lo s M H locs → lv_has ls 5 [(0, .ref a0), (1, .int x1), (2, .int x2), (3, .int x3)] → pX10_splitsNow_b38 n M a0 x1 x2 x3 = some o → W p l e (mm_rm 2 45 0 0) s m args below meth c H locs 0 0 (MQ below (mm_Q D dA lo (some (.int o.1)) o.2) args s 0 0 (mm_fr lo)) (F0 m 38 ls []) := by
  intro M a0 x1 x2 x3 H locs ls I hl h
  unfold pX10_splitsNow_b38 at h
  refine lv_aload_n X.1 X.2.1 dX10_splitsNow_38 rfl (lv_at hl 0 rfl) ?_
  refine mm_rgr X I fl_X10_28 dX10_splitsNow_39 h (fun v1 h => ?_)
  refine lv_iconst (v := 0) X.1 X.2.1 dX10_splitsNow_42 (by decide) ?_
  refine lv_dup2_11 X.1 X.2.1 dX10_splitsNow_43 rfl rfl ?_
  refine mm_ria X I dX10_splitsNow_44 h (fun v2 h => ?_)
  refine lv_iconst (v := 1) X.1 X.2.1 dX10_splitsNow_45 (by decide) ?_
  refine lv_iadd X.1 X.2.1 dX10_splitsNow_46 ?_
  refine mm_ris X I dX10_splitsNow_47 h (fun M H locs I h => ?_)
  refine lv_aload_n X.1 X.2.1 dX10_splitsNow_48 rfl (lv_at hl 0 rfl) ?_
  refine mm_rgr X I fl_X10_28 dX10_splitsNow_49 h (fun v3 h => ?_)
  refine lv_iload_n X.1 X.2.1 dX10_splitsNow_52 rfl (lv_at hl 1 rfl) ?_
  refine lv_iconst (v := 1) X.1 X.2.1 dX10_splitsNow_53 (by decide) ?_
  refine lv_iadd X.1 X.2.1 dX10_splitsNow_54 ?_
  refine mm_cSi X I hl (As := [.int (x1 + 1)]) md_X10_lineAt mv_X10_lineAt ml_X10_129 (kX10_lineAt (n := n)) (by decide) ⟨Nat.le_refl 0, Nat.le_refl 0⟩ rfl rfl (Nat.le_of_ble_eq_true rfl) dX10_splitsNow_55 h (fun v4 M H locs I h => ?_)
  refine lv_iconst (v := 0) X.1 X.2.1 dX10_splitsNow_58 (by decide) ?_
  refine lv_iadd X.1 X.2.1 dX10_splitsNow_59 ?_
  refine lv_aload_n X.1 X.2.1 dX10_splitsNow_60 rfl (lv_at hl 0 rfl) ?_
  refine mm_rgr X I fl_X10_28 dX10_splitsNow_61 h (fun v5 h => ?_)
  refine lv_iconst (v := 1) X.1 X.2.1 dX10_splitsNow_64 (by decide) ?_
  refine mm_ria X I dX10_splitsNow_65 h (fun v6 h => ?_)
  refine mm_ris X I dX10_splitsNow_66 h (fun M H locs I h => ?_)
  refine lv_aload_n X.1 X.2.1 dX10_splitsNow_67 rfl (lv_at hl 0 rfl) ?_
  refine mm_rgr X I fl_X10_28 dX10_splitsNow_68 h (fun v7 h => ?_)
  refine lv_iconst (v := 1) X.1 X.2.1 dX10_splitsNow_71 (by decide) ?_
  refine lv_dup2_11 X.1 X.2.1 dX10_splitsNow_72 rfl rfl ?_
  refine mm_ria X I dX10_splitsNow_73 h (fun v8 h => ?_)
  refine lv_iconst (v := 1) X.1 X.2.1 dX10_splitsNow_74 (by decide) ?_
  refine lv_iadd X.1 X.2.1 dX10_splitsNow_75 ?_
  refine mm_ris X I dX10_splitsNow_76 h (fun M H locs I h => ?_)
  refine lv_aload_n X.1 X.2.1 dX10_splitsNow_77 rfl (lv_at hl 0 rfl) ?_
  refine lv_iload_n X.1 X.2.1 dX10_splitsNow_78 rfl (lv_at hl 1 rfl) ?_
  refine lv_iconst (v := 1) X.1 X.2.1 dX10_splitsNow_79 (by decide) ?_
  refine lv_iadd X.1 X.2.1 dX10_splitsNow_80 ?_
  refine lv_aload_n X.1 X.2.1 dX10_splitsNow_81 rfl (lv_at hl 0 rfl) ?_
  refine mm_rgr X I fl_X10_28 dX10_splitsNow_82 h (fun v9 h => ?_)
  refine lv_iload_n X.1 X.2.1 dX10_splitsNow_85 rfl (lv_at hl 1 rfl) ?_
  refine mm_cSi X I hl (As := [.int x1]) md_X10_lineAt mv_X10_lineAt ml_X10_129 (kX10_lineAt (n := n)) (by decide) ⟨Nat.le_refl 0, Nat.le_refl 0⟩ rfl rfl (Nat.le_of_ble_eq_true rfl) dX10_splitsNow_86 h (fun v10 M H locs I h => ?_)
  refine lv_iconst (v := 2) X.1 X.2.1 dX10_splitsNow_89 (by decide) ?_
  refine lv_iadd X.1 X.2.1 dX10_splitsNow_90 ?_
  refine lv_iload_n X.1 X.2.1 dX10_splitsNow_91 rfl (lv_at hl 2 rfl) ?_
  refine lv_iadd X.1 X.2.1 dX10_splitsNow_92 ?_
  refine lv_iload_n X.1 X.2.1 dX10_splitsNow_93 rfl (lv_at hl 3 rfl) ?_
  refine lv_iload_n X.1 X.2.1 dX10_splitsNow_94 rfl (lv_at hl 2 rfl) ?_
  refine lv_isub X.1 X.2.1 dX10_splitsNow_95 ?_
  refine mm_cVv X I hl (As := [.int (x1 + 1), .ref v9, .int ((v10 + 2) + x2), .int (x3 - x2)]) (ci := 10) md_X10_laysSigns mv_X10_laysSigns ml_X10_146 rfl (kX10_laysSigns (n := n)) (by decide) ⟨Nat.le_refl 0, Nat.le_refl 0⟩ rfl rfl (Nat.le_of_ble_eq_true rfl) dX10_splitsNow_96 h (fun M H locs I h => ?_)
  refine lv_iload_n X.1 X.2.1 dX10_splitsNow_99 rfl (lv_at hl 2 rfl) ?_
  refine lv_istore (lv' := [(4, .int x2), (0, .ref a0), (1, .int x1), (2, .int x2), (3, .int x3)]) X.1 X.2.1 dX10_splitsNow_100 hl (by decide) rfl (fun ls hl => ?_)
  exact wpX10_splitsNow_l102 X hr hlk n  n M _ _ _ _ _ _ _ I (lv_sub hl [1, 2, 3, 0] rfl) h
set_option maxHeartbeats 4000000 in
set_option maxRecDepth 100000 in
theorem wpX10_splitsNow_l14 {p : Program} {l : Launch} {e : Env} {s : State} {m : MethodId} {args : Array Value} {below : List Frame} {meth : Method} {c : Code} {D : va_G} {dA : Nat → ClassId} {lo : Nat} (X : mm_C D dA lo cX10_splitsNow RX10 5 p s m args c) (hr : meth.sig.returnType = (some .int)) (hlk : meth.locks = false) (n : Nat) {o : Int32 × mm_M} (k : Nat) : ∀ (M : mm_M) (a0 : Nat) (x1 : Int32) (x2 : Int32) (x3 : Int32) (x4 : Int32) (H : Heap) (locs : List Loc) (ls : Array Slot), mm_I D dA lo s M H locs → lv_has ls 5 [(0, .ref a0), (1, .int x1), (2, .int x2), (3, .int x3), (4, .int x4)] → pX10_splitsNow_l14 n k M a0 x1 x2 x3 x4 = some o → W p l e (mm_rm 2 45 0 0) s m args below meth c H locs 0 0 (MQ below (mm_Q D dA lo (some (.int o.1)) o.2) args s 0 0 (mm_fr lo)) (F0 m 14 ls []) := by
  induction k with
  | zero =>
    intro M a0 x1 x2 x3 x4 H locs ls I hl h
    have h : (none : Option (Int32 × mm_M)) = some o := h
    cases h
  | succ k ih =>
    intro M a0 x1 x2 x3 x4 H locs ls I hl h
    have h : pX10_splitsNow_l14b n (pX10_splitsNow_l14 n k) M a0 x1 x2 x3 x4 = some o := h
    unfold pX10_splitsNow_l14b at h
    refine lv_iload X.1 X.2.1 dX10_splitsNow_14 (lv_at hl 4 rfl) ?_
    refine lv_iload_n X.1 X.2.1 dX10_splitsNow_16 rfl (lv_at hl 1 rfl) ?_
    refine lv_iconst (v := 1) X.1 X.2.1 dX10_splitsNow_17 (by decide) ?_
    refine lv_iadd X.1 X.2.1 dX10_splitsNow_18 ?_
    refine mm_kle (tgt := 38) X dX10_splitsNow_19 (by decide) h (fun h => ?_) (fun h => ?_)
    · exact wpX10_splitsNow_b38 X hr hlk n  M _ _ _ _ _ _ _ I (lv_sub hl [0, 1, 2, 3] rfl) h
    · refine lv_aload_n X.1 X.2.1 dX10_splitsNow_22 rfl (lv_at hl 0 rfl) ?_
      refine lv_iload X.1 X.2.1 dX10_splitsNow_23 (lv_at hl 4 rfl) ?_
      refine lv_iconst (v := 1) X.1 X.2.1 dX10_splitsNow_25 (by decide) ?_
      refine lv_isub X.1 X.2.1 dX10_splitsNow_26 ?_
      refine lv_iload X.1 X.2.1 dX10_splitsNow_27 (lv_at hl 4 rfl) ?_
      refine mm_cVv X I hl (As := [.int (x4 - 1), .int x4]) (ci := 10) md_X10_copiesLine mv_X10_copiesLine ml_X10_249 rfl (kX10_copiesLine (n := n)) (by decide) ⟨Nat.le_refl 0, Nat.le_refl 0⟩ rfl rfl (Nat.le_of_ble_eq_true rfl) dX10_splitsNow_29 h (fun M H locs I h => ?_)
      refine lv_iinc (v := (x4 + (-1))) (lv' := [(4, .int (x4 + (-1))), (0, .ref a0), (1, .int x1), (2, .int x2), (3, .int x3)]) X.1 X.2.1 dX10_splitsNow_32 hl (k := 4) rfl rfl (by decide) rfl (fun ls hl => ?_)
      refine lv_goto (tgt := 14) X.1 X.2.1 dX10_splitsNow_35 (by decide) ?_
      exact ih M _ _ _ _ _ _ _ _ I (lv_sub hl [1, 2, 3, 4, 0] rfl) h
set_option maxHeartbeats 4000000 in
set_option maxRecDepth 100000 in
theorem kX10_splitsNow {l : Launch} {D : va_G} {dA : Nat → ClassId} {lo : Nat} {n : Nat} {M : mm_M} {a0 : Nat} {x1 : Int32} {x2 : Int32} (o : Int32 × mm_M) (h : pX10_splitsNow n M a0 x1 x2 = some o) : (∃ fs, M.2 a0 = some (mm_ob 10 fs)) ∧ mm_Met l D dA lo yX10_splitsNow cX10_splitsNow 5 (some .int) 2 45 0 0 [.ref a0, .int x1, .int x2] M (some (.int o.1)) o.2 := by
  unfold pX10_splitsNow at h
  obtain ⟨hob, h⟩ := mm_v_some h
  refine ⟨hob, mm_enter (by decide) (Nat.le_of_ble_eq_true rfl) (fun p e s m args below meth c ls X hr hlk hnm I hl => ?_)⟩
  have X : mm_C D dA lo cX10_splitsNow RX10 5 p s m args c := X
  have hl : lv_has ls 5 [(0, .ref a0), (1, .int x1), (2, .int x2)] := hl
  refine lv_aload_n X.1 X.2.1 dX10_splitsNow_0 rfl (lv_at hl 0 rfl) ?_
  refine lv_iload_n X.1 X.2.1 dX10_splitsNow_1 rfl (lv_at hl 1 rfl) ?_
  refine mm_cVi X I hl (As := [.int x1]) (ci := 10) md_X10_longOf mv_X10_longOf ml_X10_136 rfl (kX10_longOf (n := n)) (by decide) ⟨Nat.le_refl 0, Nat.le_refl 0⟩ rfl rfl (Nat.le_of_ble_eq_true rfl) dX10_splitsNow_2 h (fun v1 M H locs I h => ?_)
  refine lv_istore_n (lv' := [(3, .int v1), (0, .ref a0), (1, .int x1), (2, .int x2)]) X.1 X.2.1 dX10_splitsNow_5 rfl hl (by decide) rfl (fun ls hl => ?_)
  refine lv_aload_n X.1 X.2.1 dX10_splitsNow_6 rfl (lv_at hl 1 rfl) ?_
  refine mm_rgr X I fl_X10_28 dX10_splitsNow_7 h (fun v2 h => ?_)
  refine lv_iconst (v := 0) X.1 X.2.1 dX10_splitsNow_10 (by decide) ?_
  refine mm_ria X I dX10_splitsNow_11 h (fun v3 h => ?_)
  refine lv_istore (lv' := [(4, .int v3), (3, .int v1), (0, .ref a0), (1, .int x1), (2, .int x2)]) X.1 X.2.1 dX10_splitsNow_12 hl (by decide) rfl (fun ls hl => ?_)
  exact wpX10_splitsNow_l14 X hr hlk n  n M _ _ _ _ _ _ _ _ I (lv_sub hl [2, 3, 4, 1, 0] rfl) h
set_option maxHeartbeats 4000000 in
set_option maxRecDepth 100000 in
theorem wpX10_joinsNow_b48 {p : Program} {l : Launch} {e : Env} {s : State} {m : MethodId} {args : Array Value} {below : List Frame} {meth : Method} {c : Code} {D : va_G} {dA : Nat → ClassId} {lo : Nat} (X : mm_C D dA lo cX10_joinsNow RX10 4 p s m args c) (hr : meth.sig.returnType = (some .int)) (hlk : meth.locks = false) (n : Nat) {o : Int32 × mm_M}  : ∀ (M : mm_M) (a0 : Nat) (x1 : Int32) (H : Heap) (locs : List Loc) (ls : Array Slot), mm_I D dA lo s M H locs → lv_has ls 4 [(0, .ref a0), (1, .int x1)] → pX10_joinsNow_b48 n M a0 x1 = some o → W p l e (mm_rm 3 66 0 0) s m args below meth c H locs 0 0 (MQ below (mm_Q D dA lo (some (.int o.1)) o.2) args s 0 0 (mm_fr lo)) (F0 m 48 ls []) := by
  intro M a0 x1 H locs ls I hl h
  unfold pX10_joinsNow_b48 at h
  refine lv_aload_n X.1 X.2.1 dX10_joinsNow_48 rfl (lv_at hl 0 rfl) ?_
  refine mm_rgr X I fl_X10_28 dX10_joinsNow_49 h (fun v1 h => ?_)
  refine lv_iload_n X.1 X.2.1 dX10_joinsNow_52 rfl (lv_at hl 1 rfl) ?_
  refine mm_cSi X I hl (As := [.int x1]) md_X10_lineAt mv_X10_lineAt ml_X10_129 (kX10_lineAt (n := n)) (by decide) ⟨Nat.le_refl 0, Nat.le_refl 0⟩ rfl rfl (Nat.le_of_ble_eq_true rfl) dX10_joinsNow_53 h (fun v2 M H locs I h => ?_)
  refine lv_iconst (v := 1) X.1 X.2.1 dX10_joinsNow_56 (by decide) ?_
  refine lv_iadd X.1 X.2.1 dX10_joinsNow_57 ?_
  refine lv_dup2_11 X.1 X.2.1 dX10_joinsNow_58 rfl rfl ?_
  refine mm_ria X I dX10_joinsNow_59 h (fun v3 h => ?_)
  refine lv_aload_n X.1 X.2.1 dX10_joinsNow_60 rfl (lv_at hl 0 rfl) ?_
  refine lv_iload_n X.1 X.2.1 dX10_joinsNow_61 rfl (lv_at hl 1 rfl) ?_
  refine lv_iconst (v := 1) X.1 X.2.1 dX10_joinsNow_62 (by decide) ?_
  refine lv_iadd X.1 X.2.1 dX10_joinsNow_63 ?_
  refine mm_cVi X I hl (As := [.int (x1 + 1)]) (ci := 10) md_X10_longOf mv_X10_longOf ml_X10_136 rfl (kX10_longOf (n := n)) (by decide) ⟨Nat.le_refl 0, Nat.le_refl 0⟩ rfl rfl (Nat.le_of_ble_eq_true rfl) dX10_joinsNow_64 h (fun v4 M H locs I h => ?_)
  refine lv_iadd X.1 X.2.1 dX10_joinsNow_67 ?_
  refine mm_ris X I dX10_joinsNow_68 h (fun M H locs I h => ?_)
  refine lv_aload_n X.1 X.2.1 dX10_joinsNow_69 rfl (lv_at hl 0 rfl) ?_
  refine lv_iload_n X.1 X.2.1 dX10_joinsNow_70 rfl (lv_at hl 1 rfl) ?_
  refine lv_iconst (v := 1) X.1 X.2.1 dX10_joinsNow_71 (by decide) ?_
  refine lv_iadd X.1 X.2.1 dX10_joinsNow_72 ?_
  refine mm_cVi X I hl (As := [.int (x1 + 1)]) (ci := 10) md_X10_takesNow mv_X10_takesNow ml_X10_252 rfl (kX10_takesNow (n := n)) (by decide) ⟨Nat.le_refl 0, Nat.le_refl 0⟩ rfl rfl (Nat.le_of_ble_eq_true rfl) dX10_joinsNow_73 h (fun v5 M H locs I h => ?_)
  refine lv_pop X.1 X.2.1 dX10_joinsNow_76 rfl ?_
  refine lv_aload_n X.1 X.2.1 dX10_joinsNow_77 rfl (lv_at hl 0 rfl) ?_
  refine lv_iload_n X.1 X.2.1 dX10_joinsNow_78 rfl (lv_at hl 1 rfl) ?_
  refine mm_cVi X I hl (As := [.int x1]) (ci := 10) md_X10_longOf mv_X10_longOf ml_X10_136 rfl (kX10_longOf (n := n)) (by decide) ⟨Nat.le_refl 0, Nat.le_refl 0⟩ rfl rfl (Nat.le_of_ble_eq_true rfl) dX10_joinsNow_79 h (fun v6 M H locs I h => ?_)
  exact mm_xi X I hr hlk dX10_joinsNow_82 h
set_option maxHeartbeats 4000000 in
set_option maxRecDepth 100000 in
theorem wpX10_joinsNow_l8 {p : Program} {l : Launch} {e : Env} {s : State} {m : MethodId} {args : Array Value} {below : List Frame} {meth : Method} {c : Code} {D : va_G} {dA : Nat → ClassId} {lo : Nat} (X : mm_C D dA lo cX10_joinsNow RX10 4 p s m args c) (hr : meth.sig.returnType = (some .int)) (hlk : meth.locks = false) (n : Nat) {o : Int32 × mm_M} (k : Nat) : ∀ (M : mm_M) (a0 : Nat) (x1 : Int32) (x2 : Int32) (x3 : Int32) (H : Heap) (locs : List Loc) (ls : Array Slot), mm_I D dA lo s M H locs → lv_has ls 4 [(0, .ref a0), (1, .int x1), (2, .int x2), (3, .int x3)] → pX10_joinsNow_l8 n k M a0 x1 x2 x3 = some o → W p l e (mm_rm 3 66 0 0) s m args below meth c H locs 0 0 (MQ below (mm_Q D dA lo (some (.int o.1)) o.2) args s 0 0 (mm_fr lo)) (F0 m 8 ls []) := by
  induction k with
  | zero =>
    intro M a0 x1 x2 x3 H locs ls I hl h
    have h : (none : Option (Int32 × mm_M)) = some o := h
    cases h
  | succ k ih =>
    intro M a0 x1 x2 x3 H locs ls I hl h
    have h : pX10_joinsNow_l8b n (pX10_joinsNow_l8 n k) M a0 x1 x2 x3 = some o := h
    unfold pX10_joinsNow_l8b at h
    refine lv_iload_n X.1 X.2.1 dX10_joinsNow_8 rfl (lv_at hl 3 rfl) ?_
    refine lv_aload_n X.1 X.2.1 dX10_joinsNow_9 rfl (lv_at hl 0 rfl) ?_
    refine lv_iload_n X.1 X.2.1 dX10_joinsNow_10 rfl (lv_at hl 1 rfl) ?_
    refine lv_iconst (v := 1) X.1 X.2.1 dX10_joinsNow_11 (by decide) ?_
    refine lv_iadd X.1 X.2.1 dX10_joinsNow_12 ?_
    refine mm_cVi X I hl (As := [.int (x1 + 1)]) (ci := 10) md_X10_longOf mv_X10_longOf ml_X10_136 rfl (kX10_longOf (n := n)) (by decide) ⟨Nat.le_refl 0, Nat.le_refl 0⟩ rfl rfl (Nat.le_of_ble_eq_true rfl) dX10_joinsNow_13 h (fun v1 M H locs I h => ?_)
    refine mm_kge (tgt := 48) X dX10_joinsNow_16 (by decide) h (fun h => ?_) (fun h => ?_)
    · exact wpX10_joinsNow_b48 X hr hlk n  M _ _ _ _ _ I (lv_sub hl [0, 1] rfl) h
    · refine lv_aload_n X.1 X.2.1 dX10_joinsNow_19 rfl (lv_at hl 0 rfl) ?_
      refine mm_rgr X I fl_X10_28 dX10_joinsNow_20 h (fun v2 h => ?_)
      refine lv_iload_n X.1 X.2.1 dX10_joinsNow_23 rfl (lv_at hl 1 rfl) ?_
      refine mm_cSi X I hl (As := [.int x1]) md_X10_lineAt mv_X10_lineAt ml_X10_129 (kX10_lineAt (n := n)) (by decide) ⟨Nat.le_refl 0, Nat.le_refl 0⟩ rfl rfl (Nat.le_of_ble_eq_true rfl) dX10_joinsNow_24 h (fun v3 M H locs I h => ?_)
      refine lv_iconst (v := 2) X.1 X.2.1 dX10_joinsNow_27 (by decide) ?_
      refine lv_iadd X.1 X.2.1 dX10_joinsNow_28 ?_
      refine lv_iload_n X.1 X.2.1 dX10_joinsNow_29 rfl (lv_at hl 2 rfl) ?_
      refine lv_iadd X.1 X.2.1 dX10_joinsNow_30 ?_
      refine lv_iload_n X.1 X.2.1 dX10_joinsNow_31 rfl (lv_at hl 3 rfl) ?_
      refine lv_iadd X.1 X.2.1 dX10_joinsNow_32 ?_
      refine lv_aload_n X.1 X.2.1 dX10_joinsNow_33 rfl (lv_at hl 0 rfl) ?_
      refine lv_iload_n X.1 X.2.1 dX10_joinsNow_34 rfl (lv_at hl 1 rfl) ?_
      refine lv_iconst (v := 1) X.1 X.2.1 dX10_joinsNow_35 (by decide) ?_
      refine lv_iadd X.1 X.2.1 dX10_joinsNow_36 ?_
      refine lv_iload_n X.1 X.2.1 dX10_joinsNow_37 rfl (lv_at hl 3 rfl) ?_
      refine mm_cVi X I hl (As := [.int (x1 + 1), .int x3]) (ci := 10) md_X10_signAt mv_X10_signAt ml_X10_176 rfl (kX10_signAt (n := n)) (by decide) ⟨Nat.le_refl 0, Nat.le_refl 0⟩ rfl rfl (Nat.le_of_ble_eq_true rfl) dX10_joinsNow_38 h (fun v4 M H locs I h => ?_)
      refine mm_ris X I dX10_joinsNow_41 h (fun M H locs I h => ?_)
      refine lv_iinc (v := (x3 + 1)) (lv' := [(3, .int (x3 + 1)), (0, .ref a0), (1, .int x1), (2, .int x2)]) X.1 X.2.1 dX10_joinsNow_42 hl (k := 3) rfl rfl (by decide) rfl (fun ls hl => ?_)
      refine lv_goto (tgt := 8) X.1 X.2.1 dX10_joinsNow_45 (by decide) ?_
      exact ih M _ _ _ _ _ _ _ I (lv_sub hl [1, 2, 3, 0] rfl) h
set_option maxHeartbeats 4000000 in
set_option maxRecDepth 100000 in
theorem kX10_joinsNow {l : Launch} {D : va_G} {dA : Nat → ClassId} {lo : Nat} {n : Nat} {M : mm_M} {a0 : Nat} {x1 : Int32} (o : Int32 × mm_M) (h : pX10_joinsNow n M a0 x1 = some o) : (∃ fs, M.2 a0 = some (mm_ob 10 fs)) ∧ mm_Met l D dA lo yX10_joinsNow cX10_joinsNow 4 (some .int) 3 66 0 0 [.ref a0, .int x1] M (some (.int o.1)) o.2 := by
  unfold pX10_joinsNow at h
  obtain ⟨hob, h⟩ := mm_v_some h
  refine ⟨hob, mm_enter (by decide) (Nat.le_of_ble_eq_true rfl) (fun p e s m args below meth c ls X hr hlk hnm I hl => ?_)⟩
  have X : mm_C D dA lo cX10_joinsNow RX10 4 p s m args c := X
  have hl : lv_has ls 4 [(0, .ref a0), (1, .int x1)] := hl
  refine lv_aload_n X.1 X.2.1 dX10_joinsNow_0 rfl (lv_at hl 0 rfl) ?_
  refine lv_iload_n X.1 X.2.1 dX10_joinsNow_1 rfl (lv_at hl 1 rfl) ?_
  refine mm_cVi X I hl (As := [.int x1]) (ci := 10) md_X10_longOf mv_X10_longOf ml_X10_136 rfl (kX10_longOf (n := n)) (by decide) ⟨Nat.le_refl 0, Nat.le_refl 0⟩ rfl rfl (Nat.le_of_ble_eq_true rfl) dX10_joinsNow_2 h (fun v1 M H locs I h => ?_)
  refine lv_istore_n (lv' := [(2, .int v1), (0, .ref a0), (1, .int x1)]) X.1 X.2.1 dX10_joinsNow_5 rfl hl (by decide) rfl (fun ls hl => ?_)
  refine lv_iconst (v := 0) X.1 X.2.1 dX10_joinsNow_6 (by decide) ?_
  refine lv_istore_n (lv' := [(3, .int 0), (2, .int v1), (0, .ref a0), (1, .int x1)]) X.1 X.2.1 dX10_joinsNow_7 rfl hl (by decide) rfl (fun ls hl => ?_)
  exact wpX10_joinsNow_l8 X hr hlk n  n M _ _ _ _ _ _ _ I (lv_sub hl [2, 3, 1, 0] rfl) h
set_option maxHeartbeats 4000000 in
set_option maxRecDepth 100000 in
theorem kX10_doNow {l : Launch} {D : va_G} {dA : Nat → ClassId} {lo : Nat} {n : Nat} {M : mm_M} {a0 : Nat} {x1 : Int32} {x2 : Int32} {x3 : Int32} {a4 : Nat} {x5 : Int32} {x6 : Int32} (o : Int32 × mm_M) (h : pX10_doNow n M a0 x1 x2 x3 a4 x5 x6 = some o) : (∃ fs, M.2 a0 = some (mm_ob 10 fs)) ∧ mm_Met l D dA lo yX10_doNow cX10_doNow 7 (some .int) 9 211 0 0 [.ref a0, .int x1, .int x2, .int x3, .ref a4, .int x5, .int x6] M (some (.int o.1)) o.2 := by
  unfold pX10_doNow at h
  obtain ⟨hob, h⟩ := mm_v_some h
  refine ⟨hob, mm_enter (by decide) (Nat.le_of_ble_eq_true rfl) (fun p e s m args below meth c ls X hr hlk hnm I hl => ?_)⟩
  have X : mm_C D dA lo cX10_doNow RX10 7 p s m args c := X
  have hl : lv_has ls 7 [(0, .ref a0), (1, .int x1), (2, .int x2), (3, .int x3), (4, .ref a4), (5, .int x5), (6, .int x6)] := hl
  refine lv_iload_n X.1 X.2.1 dX10_doNow_0 rfl (lv_at hl 1 rfl) ?_
  by_cases z1_0 : x1 = 0
  · have h := mm_t z1_0 h
    refine lv_tableIn (tgt := 52) (off := 51) X.1 X.2.1 dX10_doNow_1 (by rw [z1_0]; decide) (by rw [z1_0]; decide) (by rw [z1_0]; rfl) (by decide) ?_
    refine lv_aload_n X.1 X.2.1 dX10_doNow_52 rfl (lv_at hl 0 rfl) ?_
    refine lv_iload_n X.1 X.2.1 dX10_doNow_53 rfl (lv_at hl 2 rfl) ?_
    refine lv_aload X.1 X.2.1 dX10_doNow_54 (lv_at hl 4 rfl) ?_
    refine lv_iload X.1 X.2.1 dX10_doNow_56 (lv_at hl 5 rfl) ?_
    refine lv_iload X.1 X.2.1 dX10_doNow_58 (lv_at hl 6 rfl) ?_
    refine mm_cVv X I hl (As := [.int x2, .ref a4, .int x5, .int x6]) (ci := 10) md_X10_laysSigns mv_X10_laysSigns ml_X10_146 rfl (kX10_laysSigns (n := n)) (by decide) ⟨Nat.le_refl 0, Nat.le_refl 0⟩ rfl rfl (Nat.le_of_ble_eq_true rfl) dX10_doNow_60 h (fun M H locs I h => ?_)
    refine lv_aload_n X.1 X.2.1 dX10_doNow_63 rfl (lv_at hl 0 rfl) ?_
    refine lv_iload_n X.1 X.2.1 dX10_doNow_64 rfl (lv_at hl 2 rfl) ?_
    refine mm_cVi X I hl (As := [.int x2]) (ci := 10) md_X10_numberOf mv_X10_numberOf ml_X10_190 rfl (kX10_numberOf (n := n)) (by decide) ⟨Nat.le_refl 0, Nat.le_refl 0⟩ rfl rfl (Nat.le_of_ble_eq_true rfl) dX10_doNow_65 h (fun v3 M H locs I h => ?_)
    exact mm_xi X I hr hlk dX10_doNow_68 h
  · have h := mm_f z1_0 h
    by_cases z1_1 : x1 = 1
    · have h := mm_t z1_1 h
      refine lv_tableIn (tgt := 69) (off := 68) X.1 X.2.1 dX10_doNow_1 (by rw [z1_1]; decide) (by rw [z1_1]; decide) (by rw [z1_1]; rfl) (by decide) ?_
      refine lv_aload_n X.1 X.2.1 dX10_doNow_69 rfl (lv_at hl 0 rfl) ?_
      refine lv_iload_n X.1 X.2.1 dX10_doNow_70 rfl (lv_at hl 2 rfl) ?_
      refine lv_aload X.1 X.2.1 dX10_doNow_71 (lv_at hl 4 rfl) ?_
      refine lv_iload X.1 X.2.1 dX10_doNow_73 (lv_at hl 5 rfl) ?_
      refine lv_iload X.1 X.2.1 dX10_doNow_75 (lv_at hl 6 rfl) ?_
      refine mm_cVi X I hl (As := [.int x2, .ref a4, .int x5, .int x6]) (ci := 10) md_X10_putsNow mv_X10_putsNow ml_X10_255 rfl (kX10_putsNow (n := n)) (by decide) ⟨Nat.le_refl 0, Nat.le_refl 0⟩ rfl rfl (Nat.le_of_ble_eq_true rfl) dX10_doNow_77 h (fun v4 M H locs I h => ?_)
      exact mm_xi X I hr hlk dX10_doNow_80 h
    · have h := mm_f z1_1 h
      by_cases z1_2 : x1 = 2
      · have h := mm_t z1_2 h
        refine lv_tableIn (tgt := 81) (off := 80) X.1 X.2.1 dX10_doNow_1 (by rw [z1_2]; decide) (by rw [z1_2]; decide) (by rw [z1_2]; rfl) (by decide) ?_
        refine lv_aload_n X.1 X.2.1 dX10_doNow_81 rfl (lv_at hl 0 rfl) ?_
        refine lv_iload_n X.1 X.2.1 dX10_doNow_82 rfl (lv_at hl 2 rfl) ?_
        refine mm_cVi X I hl (As := [.int x2]) (ci := 10) md_X10_takesNow mv_X10_takesNow ml_X10_252 rfl (kX10_takesNow (n := n)) (by decide) ⟨Nat.le_refl 0, Nat.le_refl 0⟩ rfl rfl (Nat.le_of_ble_eq_true rfl) dX10_doNow_83 h (fun v5 M H locs I h => ?_)
        exact mm_xi X I hr hlk dX10_doNow_86 h
      · have h := mm_f z1_2 h
        by_cases z1_3 : x1 = 3
        · have h := mm_t z1_3 h
          refine lv_tableIn (tgt := 87) (off := 86) X.1 X.2.1 dX10_doNow_1 (by rw [z1_3]; decide) (by rw [z1_3]; decide) (by rw [z1_3]; rfl) (by decide) ?_
          refine lv_aload_n X.1 X.2.1 dX10_doNow_87 rfl (lv_at hl 0 rfl) ?_
          refine lv_iload_n X.1 X.2.1 dX10_doNow_88 rfl (lv_at hl 2 rfl) ?_
          refine lv_iload_n X.1 X.2.1 dX10_doNow_89 rfl (lv_at hl 3 rfl) ?_
          refine mm_cVi X I hl (As := [.int x2, .int x3]) (ci := 10) md_X10_swapsNow mv_X10_swapsNow ml_X10_258 rfl (kX10_swapsNow (n := n)) (by decide) ⟨Nat.le_refl 0, Nat.le_refl 0⟩ rfl rfl (Nat.le_of_ble_eq_true rfl) dX10_doNow_90 h (fun v6 M H locs I h => ?_)
          exact mm_xi X I hr hlk dX10_doNow_93 h
        · have h := mm_f z1_3 h
          by_cases z1_4 : x1 = 4
          · have h := mm_t z1_4 h
            refine lv_tableIn (tgt := 94) (off := 93) X.1 X.2.1 dX10_doNow_1 (by rw [z1_4]; decide) (by rw [z1_4]; decide) (by rw [z1_4]; rfl) (by decide) ?_
            refine lv_aload_n X.1 X.2.1 dX10_doNow_94 rfl (lv_at hl 0 rfl) ?_
            refine lv_iload_n X.1 X.2.1 dX10_doNow_95 rfl (lv_at hl 2 rfl) ?_
            refine lv_iload_n X.1 X.2.1 dX10_doNow_96 rfl (lv_at hl 3 rfl) ?_
            refine lv_aload X.1 X.2.1 dX10_doNow_97 (lv_at hl 4 rfl) ?_
            refine lv_iload X.1 X.2.1 dX10_doNow_99 (lv_at hl 5 rfl) ?_
            refine lv_iload X.1 X.2.1 dX10_doNow_101 (lv_at hl 6 rfl) ?_
            refine mm_cVi X I hl (As := [.int x2, .int x3, .ref a4, .int x5, .int x6]) (ci := 10) md_X10_laysNow mv_X10_laysNow ml_X10_261 rfl (kX10_laysNow (n := n)) (by decide) ⟨Nat.le_refl 0, Nat.le_refl 0⟩ rfl rfl (Nat.le_of_ble_eq_true rfl) dX10_doNow_103 h (fun v7 M H locs I h => ?_)
            exact mm_xi X I hr hlk dX10_doNow_106 h
          · have h := mm_f z1_4 h
            by_cases z1_5 : x1 = 5
            · have h := mm_t z1_5 h
              refine lv_tableIn (tgt := 107) (off := 106) X.1 X.2.1 dX10_doNow_1 (by rw [z1_5]; decide) (by rw [z1_5]; decide) (by rw [z1_5]; rfl) (by decide) ?_
              refine lv_aload_n X.1 X.2.1 dX10_doNow_107 rfl (lv_at hl 0 rfl) ?_
              refine lv_iload_n X.1 X.2.1 dX10_doNow_108 rfl (lv_at hl 2 rfl) ?_
              refine mm_cVi X I hl (As := [.int x2]) (ci := 10) md_X10_pagesNow mv_X10_pagesNow ml_X10_265 rfl (kX10_pagesNow (n := n)) (by decide) ⟨Nat.le_refl 0, Nat.le_refl 0⟩ rfl rfl (Nat.le_of_ble_eq_true rfl) dX10_doNow_109 h (fun v8 M H locs I h => ?_)
              exact mm_xi X I hr hlk dX10_doNow_112 h
            · have h := mm_f z1_5 h
              by_cases z1_7 : x1 = 7
              · have h := mm_t z1_7 h
                refine lv_tableIn (tgt := 113) (off := 112) X.1 X.2.1 dX10_doNow_1 (by rw [z1_7]; decide) (by rw [z1_7]; decide) (by rw [z1_7]; rfl) (by decide) ?_
                refine lv_aload_n X.1 X.2.1 dX10_doNow_113 rfl (lv_at hl 0 rfl) ?_
                refine lv_iload_n X.1 X.2.1 dX10_doNow_114 rfl (lv_at hl 2 rfl) ?_
                refine lv_iload_n X.1 X.2.1 dX10_doNow_115 rfl (lv_at hl 3 rfl) ?_
                refine mm_cVi X I hl (As := [.int x2, .int x3]) (ci := 10) md_X10_splitsNow mv_X10_splitsNow ml_X10_268 rfl (kX10_splitsNow (n := n)) (by decide) ⟨Nat.le_refl 0, Nat.le_refl 0⟩ rfl rfl (Nat.le_of_ble_eq_true rfl) dX10_doNow_116 h (fun v9 M H locs I h => ?_)
                exact mm_xi X I hr hlk dX10_doNow_119 h
              · have h := mm_f z1_7 h
                by_cases z1_8 : x1 = 8
                · have h := mm_t z1_8 h
                  refine lv_tableIn (tgt := 120) (off := 119) X.1 X.2.1 dX10_doNow_1 (by rw [z1_8]; decide) (by rw [z1_8]; decide) (by rw [z1_8]; rfl) (by decide) ?_
                  refine lv_aload_n X.1 X.2.1 dX10_doNow_120 rfl (lv_at hl 0 rfl) ?_
                  refine lv_iload_n X.1 X.2.1 dX10_doNow_121 rfl (lv_at hl 2 rfl) ?_
                  refine mm_cVi X I hl (As := [.int x2]) (ci := 10) md_X10_joinsNow mv_X10_joinsNow ml_X10_271 rfl (kX10_joinsNow (n := n)) (by decide) ⟨Nat.le_refl 0, Nat.le_refl 0⟩ rfl rfl (Nat.le_of_ble_eq_true rfl) dX10_doNow_122 h (fun v10 M H locs I h => ?_)
                  exact mm_xi X I hr hlk dX10_doNow_125 h
                · have h := mm_f z1_8 h
                  have z1_q0 : ¬ Int32.toInt x1 = 0 := fun q => z1_0 (Int32.toInt_inj.mp q)
                  have z1_q1 : ¬ Int32.toInt x1 = 1 := fun q => z1_1 (Int32.toInt_inj.mp q)
                  have z1_q2 : ¬ Int32.toInt x1 = 2 := fun q => z1_2 (Int32.toInt_inj.mp q)
                  have z1_q3 : ¬ Int32.toInt x1 = 3 := fun q => z1_3 (Int32.toInt_inj.mp q)
                  have z1_q4 : ¬ Int32.toInt x1 = 4 := fun q => z1_4 (Int32.toInt_inj.mp q)
                  have z1_q5 : ¬ Int32.toInt x1 = 5 := fun q => z1_5 (Int32.toInt_inj.mp q)
                  have z1_q7 : ¬ Int32.toInt x1 = 7 := fun q => z1_7 (Int32.toInt_inj.mp q)
                  have z1_q8 : ¬ Int32.toInt x1 = 8 := fun q => z1_8 (Int32.toInt_inj.mp q)
                  refine mm_tdef (tgt := 126) X dX10_doNow_1 (by decide) (fun i hi hq => ?_) (by decide) ?_
                  · rcases (show i = 0 ∨ i = 1 ∨ i = 2 ∨ i = 3 ∨ i = 4 ∨ i = 5 ∨ i = 6 ∨ i = 7 ∨ i = 8 by simp at hi; omega) with rfl | rfl | rfl | rfl | rfl | rfl | rfl | rfl | rfl
                    · exact absurd hq (by omega)
                    · exact absurd hq (by omega)
                    · exact absurd hq (by omega)
                    · exact absurd hq (by omega)
                    · exact absurd hq (by omega)
                    · exact absurd hq (by omega)
                    · rfl
                    · exact absurd hq (by omega)
                    · exact absurd hq (by omega)
                  · refine lv_aload_n X.1 X.2.1 dX10_doNow_126 rfl (lv_at hl 0 rfl) ?_
                    refine lv_iload_n X.1 X.2.1 dX10_doNow_127 rfl (lv_at hl 2 rfl) ?_
                    refine mm_cVi X I hl (As := [.int x2]) (ci := 10) md_X10_rewindsNow mv_X10_rewindsNow ml_X10_274 rfl (kX10_rewindsNow (n := n)) (by decide) ⟨Nat.le_refl 0, Nat.le_refl 0⟩ rfl rfl (Nat.le_of_ble_eq_true rfl) dX10_doNow_128 h (fun v11 M H locs I h => ?_)
                    exact mm_xi X I hr hlk dX10_doNow_131 h
set_option maxHeartbeats 4000000 in
set_option maxRecDepth 100000 in
theorem wpX10_keep_b88 {p : Program} {l : Launch} {e : Env} {s : State} {m : MethodId} {args : Array Value} {below : List Frame} {meth : Method} {c : Code} {D : va_G} {dA : Nat → ClassId} {lo : Nat} (X : mm_C D dA lo cX10_keep RX10 2 p s m args c) (hr : meth.sig.returnType = none) (hlk : meth.locks = false) (n : Nat) {o : mm_M}  : ∀ (M : mm_M) (a0 : Nat) (H : Heap) (locs : List Loc) (ls : Array Slot), mm_I D dA lo s M H locs → lv_has ls 2 [(0, .ref a0)] → pX10_keep_b88 n M a0 = some o → W p l e (mm_rm 0 0 0 0) s m args below meth c H locs 0 0 (MQ below (mm_Q D dA lo none o) args s 0 0 (mm_fr lo)) (F0 m 88 ls []) := by
  intro M a0 H locs ls I hl h
  unfold pX10_keep_b88 at h
  refine lv_aload_n X.1 X.2.1 dX10_keep_88 rfl (lv_at hl 0 rfl) ?_
  refine lv_dup X.1 X.2.1 dX10_keep_89 rfl ?_
  refine mm_rgi X I fl_X10_153 dX10_keep_90 h (fun v1 h => ?_)
  refine lv_iconst (v := 1) X.1 X.2.1 dX10_keep_93 (by decide) ?_
  refine lv_iadd X.1 X.2.1 dX10_keep_94 ?_
  refine mm_rpi X I fl_X10_153 dX10_keep_95 h (fun M H locs I h => ?_)
  exact mm_xv X I hr hlk dX10_keep_98 h
set_option maxHeartbeats 4000000 in
set_option maxRecDepth 100000 in
theorem wpX10_keep_l54 {p : Program} {l : Launch} {e : Env} {s : State} {m : MethodId} {args : Array Value} {below : List Frame} {meth : Method} {c : Code} {D : va_G} {dA : Nat → ClassId} {lo : Nat} (X : mm_C D dA lo cX10_keep RX10 2 p s m args c) (hr : meth.sig.returnType = none) (hlk : meth.locks = false) (n : Nat) {o : mm_M} (k : Nat) : ∀ (M : mm_M) (a0 : Nat) (x1 : Int32) (H : Heap) (locs : List Loc) (ls : Array Slot), mm_I D dA lo s M H locs → lv_has ls 2 [(0, .ref a0), (1, .int x1)] → pX10_keep_l54 n k M a0 x1 = some o → W p l e (mm_rm 0 0 0 0) s m args below meth c H locs 0 0 (MQ below (mm_Q D dA lo none o) args s 0 0 (mm_fr lo)) (F0 m 54 ls []) := by
  induction k with
  | zero =>
    intro M a0 x1 H locs ls I hl h
    have h : (none : Option (mm_M)) = some o := h
    cases h
  | succ k ih =>
    intro M a0 x1 H locs ls I hl h
    have h : pX10_keep_l54b n (pX10_keep_l54 n k) M a0 x1 = some o := h
    unfold pX10_keep_l54b at h
    refine lv_iload_n X.1 X.2.1 dX10_keep_54 rfl (lv_at hl 1 rfl) ?_
    refine lv_sipush (v := 622) X.1 X.2.1 dX10_keep_55 (by decide) ?_
    refine mm_kge (tgt := 88) X dX10_keep_58 (by decide) h (fun h => ?_) (fun h => ?_)
    · exact wpX10_keep_b88 X hr hlk n  M _ _ _ _ I (lv_sub hl [0] rfl) h
    · refine lv_aload_n X.1 X.2.1 dX10_keep_61 rfl (lv_at hl 0 rfl) ?_
      refine mm_rgr X I fl_X10_43 dX10_keep_62 h (fun v1 h => ?_)
      refine lv_sipush (v := 622) X.1 X.2.1 dX10_keep_65 (by decide) ?_
      refine lv_aload_n X.1 X.2.1 dX10_keep_68 rfl (lv_at hl 0 rfl) ?_
      refine mm_rgi X I fl_X10_153 dX10_keep_69 h (fun v2 h => ?_)
      refine lv_imul X.1 X.2.1 dX10_keep_72 ?_
      refine lv_iload_n X.1 X.2.1 dX10_keep_73 rfl (lv_at hl 1 rfl) ?_
      refine lv_iadd X.1 X.2.1 dX10_keep_74 ?_
      refine lv_aload_n X.1 X.2.1 dX10_keep_75 rfl (lv_at hl 0 rfl) ?_
      refine mm_rgr X I fl_X10_28 dX10_keep_76 h (fun v3 h => ?_)
      refine lv_iload_n X.1 X.2.1 dX10_keep_79 rfl (lv_at hl 1 rfl) ?_
      refine mm_ria X I dX10_keep_80 h (fun v4 h => ?_)
      refine mm_ris X I dX10_keep_81 h (fun M H locs I h => ?_)
      refine lv_iinc (v := (x1 + 1)) (lv' := [(1, .int (x1 + 1)), (0, .ref a0)]) X.1 X.2.1 dX10_keep_82 hl (k := 1) rfl rfl (by decide) rfl (fun ls hl => ?_)
      refine lv_goto (tgt := 54) X.1 X.2.1 dX10_keep_85 (by decide) ?_
      exact ih M _ _ _ _ _ I (lv_sub hl [1, 0] rfl) h
set_option maxHeartbeats 4000000 in
set_option maxRecDepth 100000 in
theorem wpX10_keep_l13 {p : Program} {l : Launch} {e : Env} {s : State} {m : MethodId} {args : Array Value} {below : List Frame} {meth : Method} {c : Code} {D : va_G} {dA : Nat → ClassId} {lo : Nat} (X : mm_C D dA lo cX10_keep RX10 2 p s m args c) (hr : meth.sig.returnType = none) (hlk : meth.locks = false) (n : Nat) {o : mm_M} (k : Nat) : ∀ (M : mm_M) (a0 : Nat) (x1 : Int32) (H : Heap) (locs : List Loc) (ls : Array Slot), mm_I D dA lo s M H locs → lv_has ls 2 [(0, .ref a0), (1, .int x1)] → pX10_keep_l13 n k M a0 x1 = some o → W p l e (mm_rm 0 0 0 0) s m args below meth c H locs 0 0 (MQ below (mm_Q D dA lo none o) args s 0 0 (mm_fr lo)) (F0 m 13 ls []) := by
  induction k with
  | zero =>
    intro M a0 x1 H locs ls I hl h
    have h : (none : Option (mm_M)) = some o := h
    cases h
  | succ k ih =>
    intro M a0 x1 H locs ls I hl h
    have h : pX10_keep_l13b n (pX10_keep_l13 n k) M a0 x1 = some o := h
    unfold pX10_keep_l13b at h
    refine lv_iload_n X.1 X.2.1 dX10_keep_13 rfl (lv_at hl 1 rfl) ?_
    refine lv_sipush (v := 24880) X.1 X.2.1 dX10_keep_14 (by decide) ?_
    refine mm_kge (tgt := 42) X dX10_keep_17 (by decide) h (fun h => ?_) (fun h => ?_)
    · refine lv_aload_n X.1 X.2.1 dX10_keep_42 rfl (lv_at hl 0 rfl) ?_
      refine lv_dup X.1 X.2.1 dX10_keep_43 rfl ?_
      refine mm_rgi X I fl_X10_153 dX10_keep_44 h (fun v1 h => ?_)
      refine lv_iconst (v := 1) X.1 X.2.1 dX10_keep_47 (by decide) ?_
      refine lv_isub X.1 X.2.1 dX10_keep_48 ?_
      refine mm_rpi X I fl_X10_153 dX10_keep_49 h (fun M H locs I h => ?_)
      refine lv_iconst (v := 0) X.1 X.2.1 dX10_keep_52 (by decide) ?_
      refine lv_istore_n (lv' := [(1, .int 0), (0, .ref a0)]) X.1 X.2.1 dX10_keep_53 rfl hl (by decide) rfl (fun ls hl => ?_)
      exact wpX10_keep_l54 X hr hlk n  n M _ _ _ _ _ I (lv_sub hl [1, 0] rfl) h
    · refine lv_aload_n X.1 X.2.1 dX10_keep_20 rfl (lv_at hl 0 rfl) ?_
      refine mm_rgr X I fl_X10_43 dX10_keep_21 h (fun v2 h => ?_)
      refine lv_iload_n X.1 X.2.1 dX10_keep_24 rfl (lv_at hl 1 rfl) ?_
      refine lv_sipush (v := 622) X.1 X.2.1 dX10_keep_25 (by decide) ?_
      refine lv_isub X.1 X.2.1 dX10_keep_28 ?_
      refine lv_aload_n X.1 X.2.1 dX10_keep_29 rfl (lv_at hl 0 rfl) ?_
      refine mm_rgr X I fl_X10_43 dX10_keep_30 h (fun v3 h => ?_)
      refine lv_iload_n X.1 X.2.1 dX10_keep_33 rfl (lv_at hl 1 rfl) ?_
      refine mm_ria X I dX10_keep_34 h (fun v4 h => ?_)
      refine mm_ris X I dX10_keep_35 h (fun M H locs I h => ?_)
      refine lv_iinc (v := (x1 + 1)) (lv' := [(1, .int (x1 + 1)), (0, .ref a0)]) X.1 X.2.1 dX10_keep_36 hl (k := 1) rfl rfl (by decide) rfl (fun ls hl => ?_)
      refine lv_goto (tgt := 13) X.1 X.2.1 dX10_keep_39 (by decide) ?_
      exact ih M _ _ _ _ _ I (lv_sub hl [1, 0] rfl) h
set_option maxHeartbeats 4000000 in
set_option maxRecDepth 100000 in
theorem kX10_keep {l : Launch} {D : va_G} {dA : Nat → ClassId} {lo : Nat} {n : Nat} {M : mm_M} {a0 : Nat} (o : mm_M) (h : pX10_keep n M a0 = some o) : (∃ fs, M.2 a0 = some (mm_ob 10 fs)) ∧ mm_Met l D dA lo yX10_keep cX10_keep 2 none 0 0 0 0 [.ref a0] M none o := by
  unfold pX10_keep at h
  obtain ⟨hob, h⟩ := mm_v_some h
  refine ⟨hob, mm_enter (by decide) (Nat.le_of_ble_eq_true rfl) (fun p e s m args below meth c ls X hr hlk hnm I hl => ?_)⟩
  have X : mm_C D dA lo cX10_keep RX10 2 p s m args c := X
  have hl : lv_has ls 2 [(0, .ref a0)] := hl
  refine lv_aload_n X.1 X.2.1 dX10_keep_0 rfl (lv_at hl 0 rfl) ?_
  refine mm_rgi X I fl_X10_153 dX10_keep_1 h (fun v1 h => ?_)
  refine lv_bipush (v := 40) X.1 X.2.1 dX10_keep_4 (by decide) ?_
  refine mm_kne (tgt := 52) X dX10_keep_6 (by decide) h (fun h => ?_) (fun h => ?_)
  · refine lv_iconst (v := 0) X.1 X.2.1 dX10_keep_52 (by decide) ?_
    refine lv_istore_n (lv' := [(1, .int 0), (0, .ref a0)]) X.1 X.2.1 dX10_keep_53 rfl hl (by decide) rfl (fun ls hl => ?_)
    exact wpX10_keep_l54 X hr hlk n  n M _ _ _ _ _ I (lv_sub hl [1, 0] rfl) h
  · refine lv_sipush (v := 622) X.1 X.2.1 dX10_keep_9 (by decide) ?_
    refine lv_istore_n (lv' := [(1, .int 622), (0, .ref a0)]) X.1 X.2.1 dX10_keep_12 rfl hl (by decide) rfl (fun ls hl => ?_)
    exact wpX10_keep_l13 X hr hlk n  n M _ _ _ _ _ I (lv_sub hl [1, 0] rfl) h
set_option maxHeartbeats 4000000 in
set_option maxRecDepth 100000 in
theorem wpX10_note_b62 {p : Program} {l : Launch} {e : Env} {s : State} {m : MethodId} {args : Array Value} {below : List Frame} {meth : Method} {c : Code} {D : va_G} {dA : Nat → ClassId} {lo : Nat} (X : mm_C D dA lo cX10_note RX10 4 p s m args c) (hr : meth.sig.returnType = none) (hlk : meth.locks = false) (n : Nat) {o : mm_M}  : ∀ (M : mm_M) (a0 : Nat) (x1 : Int32) (x2 : Int32) (H : Heap) (locs : List Loc) (ls : Array Slot), mm_I D dA lo s M H locs → lv_has ls 4 [(0, .ref a0), (1, .int x1), (2, .int x2)] → pX10_note_b62 n M a0 x1 x2 = some o → W p l e (mm_rm 3 63 0 0) s m args below meth c H locs 0 0 (MQ below (mm_Q D dA lo none o) args s 0 0 (mm_fr lo)) (F0 m 62 ls []) := by
  intro M a0 x1 x2 H locs ls I hl h
  unfold pX10_note_b62 at h
  refine lv_sipush (v := 442) X.1 X.2.1 dX10_note_62 (by decide) ?_
  refine lv_iconst (v := 3) X.1 X.2.1 dX10_note_65 (by decide) ?_
  refine lv_aload_n X.1 X.2.1 dX10_note_66 rfl (lv_at hl 0 rfl) ?_
  refine mm_rgr X I fl_X10_28 dX10_note_67 h (fun v1 h => ?_)
  refine lv_sipush (v := 441) X.1 X.2.1 dX10_note_70 (by decide) ?_
  refine mm_ria X I dX10_note_73 h (fun v2 h => ?_)
  refine lv_imul X.1 X.2.1 dX10_note_74 ?_
  refine lv_iadd X.1 X.2.1 dX10_note_75 ?_
  refine lv_istore_n (lv' := [(3, .int (442 + (3 * v2))), (0, .ref a0), (1, .int x1), (2, .int x2)]) X.1 X.2.1 dX10_note_76 rfl hl (by decide) rfl (fun ls hl => ?_)
  refine lv_aload_n X.1 X.2.1 dX10_note_77 rfl (lv_at hl 1 rfl) ?_
  refine mm_rgr X I fl_X10_28 dX10_note_78 h (fun v3 h => ?_)
  refine lv_iload_n X.1 X.2.1 dX10_note_81 rfl (lv_at hl 0 rfl) ?_
  refine lv_iload_n X.1 X.2.1 dX10_note_82 rfl (lv_at hl 2 rfl) ?_
  refine mm_ris X I dX10_note_83 h (fun M H locs I h => ?_)
  refine lv_aload_n X.1 X.2.1 dX10_note_84 rfl (lv_at hl 1 rfl) ?_
  refine mm_rgr X I fl_X10_28 dX10_note_85 h (fun v4 h => ?_)
  refine lv_iload_n X.1 X.2.1 dX10_note_88 rfl (lv_at hl 0 rfl) ?_
  refine lv_iconst (v := 1) X.1 X.2.1 dX10_note_89 (by decide) ?_
  refine lv_iadd X.1 X.2.1 dX10_note_90 ?_
  refine lv_iload_n X.1 X.2.1 dX10_note_91 rfl (lv_at hl 3 rfl) ?_
  refine mm_ris X I dX10_note_92 h (fun M H locs I h => ?_)
  refine lv_aload_n X.1 X.2.1 dX10_note_93 rfl (lv_at hl 1 rfl) ?_
  refine mm_rgr X I fl_X10_28 dX10_note_94 h (fun v5 h => ?_)
  refine lv_iload_n X.1 X.2.1 dX10_note_97 rfl (lv_at hl 0 rfl) ?_
  refine lv_iconst (v := 2) X.1 X.2.1 dX10_note_98 (by decide) ?_
  refine lv_iadd X.1 X.2.1 dX10_note_99 ?_
  refine lv_aload_n X.1 X.2.1 dX10_note_100 rfl (lv_at hl 1 rfl) ?_
  refine mm_cVi X I hl (As := []) (ci := 10) md_X10_allSigns mv_X10_allSigns ml_X10_277 rfl (kX10_allSigns (n := n)) (by decide) ⟨Nat.le_refl 0, Nat.le_refl 0⟩ rfl rfl (Nat.le_of_ble_eq_true rfl) dX10_note_101 h (fun v6 M H locs I h => ?_)
  refine mm_ris X I dX10_note_104 h (fun M H locs I h => ?_)
  refine lv_aload_n X.1 X.2.1 dX10_note_105 rfl (lv_at hl 1 rfl) ?_
  refine mm_rgr X I fl_X10_28 dX10_note_106 h (fun v7 h => ?_)
  refine lv_sipush (v := 441) X.1 X.2.1 dX10_note_109 (by decide) ?_
  refine lv_dup2_11 X.1 X.2.1 dX10_note_112 rfl rfl ?_
  refine mm_ria X I dX10_note_113 h (fun v8 h => ?_)
  refine lv_iconst (v := 1) X.1 X.2.1 dX10_note_114 (by decide) ?_
  refine lv_iadd X.1 X.2.1 dX10_note_115 ?_
  refine mm_ris X I dX10_note_116 h (fun M H locs I h => ?_)
  exact mm_xv X I hr hlk dX10_note_117 h
set_option maxHeartbeats 4000000 in
set_option maxRecDepth 100000 in
theorem wpX10_note_b50 {p : Program} {l : Launch} {e : Env} {s : State} {m : MethodId} {args : Array Value} {below : List Frame} {meth : Method} {c : Code} {D : va_G} {dA : Nat → ClassId} {lo : Nat} (X : mm_C D dA lo cX10_note RX10 4 p s m args c) (hr : meth.sig.returnType = none) (hlk : meth.locks = false) (n : Nat) {o : mm_M}  : ∀ (M : mm_M) (a0 : Nat) (x1 : Int32) (x2 : Int32) (H : Heap) (locs : List Loc) (ls : Array Slot), mm_I D dA lo s M H locs → lv_has ls 4 [(0, .ref a0), (1, .int x1), (2, .int x2)] → pX10_note_b50 n M a0 x1 x2 = some o → W p l e (mm_rm 3 63 0 0) s m args below meth c H locs 0 0 (MQ below (mm_Q D dA lo none o) args s 0 0 (mm_fr lo)) (F0 m 50 ls []) := by
  intro M a0 x1 x2 H locs ls I hl h
  unfold pX10_note_b50 at h
  refine lv_aload_n X.1 X.2.1 dX10_note_50 rfl (lv_at hl 0 rfl) ?_
  refine mm_rgr X I fl_X10_28 dX10_note_51 h (fun v1 h => ?_)
  refine lv_sipush (v := 441) X.1 X.2.1 dX10_note_54 (by decide) ?_
  refine lv_dup2_11 X.1 X.2.1 dX10_note_57 rfl rfl ?_
  refine mm_ria X I dX10_note_58 h (fun v2 h => ?_)
  refine lv_iconst (v := 1) X.1 X.2.1 dX10_note_59 (by decide) ?_
  refine lv_isub X.1 X.2.1 dX10_note_60 ?_
  refine mm_ris X I dX10_note_61 h (fun M H locs I h => ?_)
  exact wpX10_note_b62 X hr hlk n  M _ _ _ _ _ _ I (lv_sub hl [0, 1, 2] rfl) h
set_option maxHeartbeats 4000000 in
set_option maxRecDepth 100000 in
theorem wpX10_note_l15 {p : Program} {l : Launch} {e : Env} {s : State} {m : MethodId} {args : Array Value} {below : List Frame} {meth : Method} {c : Code} {D : va_G} {dA : Nat → ClassId} {lo : Nat} (X : mm_C D dA lo cX10_note RX10 4 p s m args c) (hr : meth.sig.returnType = none) (hlk : meth.locks = false) (n : Nat) {o : mm_M} (k : Nat) : ∀ (M : mm_M) (a0 : Nat) (x1 : Int32) (x2 : Int32) (x3 : Int32) (H : Heap) (locs : List Loc) (ls : Array Slot), mm_I D dA lo s M H locs → lv_has ls 4 [(0, .ref a0), (1, .int x1), (2, .int x2), (3, .int x3)] → pX10_note_l15 n k M a0 x1 x2 x3 = some o → W p l e (mm_rm 3 63 0 0) s m args below meth c H locs 0 0 (MQ below (mm_Q D dA lo none o) args s 0 0 (mm_fr lo)) (F0 m 15 ls []) := by
  induction k with
  | zero =>
    intro M a0 x1 x2 x3 H locs ls I hl h
    have h : (none : Option (mm_M)) = some o := h
    cases h
  | succ k ih =>
    intro M a0 x1 x2 x3 H locs ls I hl h
    have h : pX10_note_l15b n (pX10_note_l15 n k) M a0 x1 x2 x3 = some o := h
    unfold pX10_note_l15b at h
    refine lv_iload_n X.1 X.2.1 dX10_note_15 rfl (lv_at hl 3 rfl) ?_
    refine lv_sipush (v := 180) X.1 X.2.1 dX10_note_16 (by decide) ?_
    refine mm_kge (tgt := 50) X dX10_note_19 (by decide) h (fun h => ?_) (fun h => ?_)
    · exact wpX10_note_b50 X hr hlk n  M _ _ _ _ _ _ I (lv_sub hl [0, 1, 2] rfl) h
    · refine lv_aload_n X.1 X.2.1 dX10_note_22 rfl (lv_at hl 0 rfl) ?_
      refine mm_rgr X I fl_X10_28 dX10_note_23 h (fun v1 h => ?_)
      refine lv_sipush (v := 442) X.1 X.2.1 dX10_note_26 (by decide) ?_
      refine lv_iload_n X.1 X.2.1 dX10_note_29 rfl (lv_at hl 3 rfl) ?_
      refine lv_iadd X.1 X.2.1 dX10_note_30 ?_
      refine lv_iconst (v := 3) X.1 X.2.1 dX10_note_31 (by decide) ?_
      refine lv_isub X.1 X.2.1 dX10_note_32 ?_
      refine lv_aload_n X.1 X.2.1 dX10_note_33 rfl (lv_at hl 0 rfl) ?_
      refine mm_rgr X I fl_X10_28 dX10_note_34 h (fun v2 h => ?_)
      refine lv_sipush (v := 442) X.1 X.2.1 dX10_note_37 (by decide) ?_
      refine lv_iload_n X.1 X.2.1 dX10_note_40 rfl (lv_at hl 3 rfl) ?_
      refine lv_iadd X.1 X.2.1 dX10_note_41 ?_
      refine mm_ria X I dX10_note_42 h (fun v3 h => ?_)
      refine mm_ris X I dX10_note_43 h (fun M H locs I h => ?_)
      refine lv_iinc (v := (x3 + 1)) (lv' := [(3, .int (x3 + 1)), (0, .ref a0), (1, .int x1), (2, .int x2)]) X.1 X.2.1 dX10_note_44 hl (k := 3) rfl rfl (by decide) rfl (fun ls hl => ?_)
      refine lv_goto (tgt := 15) X.1 X.2.1 dX10_note_47 (by decide) ?_
      exact ih M _ _ _ _ _ _ _ I (lv_sub hl [1, 2, 3, 0] rfl) h
set_option maxHeartbeats 4000000 in
set_option maxRecDepth 100000 in
theorem kX10_note {l : Launch} {D : va_G} {dA : Nat → ClassId} {lo : Nat} {n : Nat} {M : mm_M} {a0 : Nat} {x1 : Int32} {x2 : Int32} (o : mm_M) (h : pX10_note n M a0 x1 x2 = some o) : (∃ fs, M.2 a0 = some (mm_ob 10 fs)) ∧ mm_Met l D dA lo yX10_note cX10_note 4 none 3 63 0 0 [.ref a0, .int x1, .int x2] M none o := by
  unfold pX10_note at h
  obtain ⟨hob, h⟩ := mm_v_some h
  refine ⟨hob, mm_enter (by decide) (Nat.le_of_ble_eq_true rfl) (fun p e s m args below meth c ls X hr hlk hnm I hl => ?_)⟩
  have X : mm_C D dA lo cX10_note RX10 4 p s m args c := X
  have hl : lv_has ls 4 [(0, .ref a0), (1, .int x1), (2, .int x2)] := hl
  refine lv_aload_n X.1 X.2.1 dX10_note_0 rfl (lv_at hl 0 rfl) ?_
  refine mm_rgr X I fl_X10_28 dX10_note_1 h (fun v1 h => ?_)
  refine lv_sipush (v := 441) X.1 X.2.1 dX10_note_4 (by decide) ?_
  refine mm_ria X I dX10_note_7 h (fun v2 h => ?_)
  refine lv_bipush (v := 60) X.1 X.2.1 dX10_note_8 (by decide) ?_
  refine mm_kne (tgt := 62) X dX10_note_10 (by decide) h (fun h => ?_) (fun h => ?_)
  · exact wpX10_note_b62 X hr hlk n  M _ _ _ _ _ _ I (lv_sub hl [0, 1, 2] rfl) h
  · refine lv_iconst (v := 3) X.1 X.2.1 dX10_note_13 (by decide) ?_
    refine lv_istore_n (lv' := [(3, .int 3), (0, .ref a0), (1, .int x1), (2, .int x2)]) X.1 X.2.1 dX10_note_14 rfl hl (by decide) rfl (fun ls hl => ?_)
    exact wpX10_note_l15 X hr hlk n  n M _ _ _ _ _ _ _ I (lv_sub hl [1, 2, 3, 0] rfl) h
set_option maxHeartbeats 4000000 in
set_option maxRecDepth 100000 in
theorem wpX10_act_b38 {p : Program} {l : Launch} {e : Env} {s : State} {m : MethodId} {args : Array Value} {below : List Frame} {meth : Method} {c : Code} {D : va_G} {dA : Nat → ClassId} {lo : Nat} (X : mm_C D dA lo cX10_act RX10 9 p s m args c) (hr : meth.sig.returnType = (some .int)) (hlk : meth.locks = false) (n : Nat) {o : Int32 × mm_M}  : ∀ (M : mm_M) (a0 : Nat) (x1 : Int32) (x2 : Int32) (x3 : Int32) (a4 : Nat) (x5 : Int32) (x6 : Int32) (s0 : Int32) (H : Heap) (locs : List Loc) (ls : Array Slot), mm_I D dA lo s M H locs → lv_has ls 9 [(0, .ref a0), (1, .int x1), (2, .int x2), (3, .int x3), (4, .ref a4), (5, .int x5), (6, .int x6)] → pX10_act_b38 n M a0 x1 x2 x3 a4 x5 x6 s0 = some o → W p l e (mm_rm 10 237 0 0) s m args below meth c H locs 0 0 (MQ below (mm_Q D dA lo (some (.int o.1)) o.2) args s 0 0 (mm_fr lo)) (F0 m 38 ls [.int s0]) := by
  intro M a0 x1 x2 x3 a4 x5 x6 s0 H locs ls I hl h
  unfold pX10_act_b38 at h
  refine lv_istore (lv' := [(7, .int s0), (0, .ref a0), (1, .int x1), (2, .int x2), (3, .int x3), (4, .ref a4), (5, .int x5), (6, .int x6)]) X.1 X.2.1 dX10_act_38 hl (by decide) rfl (fun ls hl => ?_)
  refine lv_aload_n X.1 X.2.1 dX10_act_40 rfl (lv_at hl 1 rfl) ?_
  refine lv_iload_n X.1 X.2.1 dX10_act_41 rfl (lv_at hl 2 rfl) ?_
  refine lv_iload_n X.1 X.2.1 dX10_act_42 rfl (lv_at hl 3 rfl) ?_
  refine lv_iload_n X.1 X.2.1 dX10_act_43 rfl (lv_at hl 4 rfl) ?_
  refine lv_aload X.1 X.2.1 dX10_act_44 (lv_at hl 5 rfl) ?_
  refine lv_iload X.1 X.2.1 dX10_act_46 (lv_at hl 6 rfl) ?_
  refine lv_iload X.1 X.2.1 dX10_act_48 (lv_at hl 7 rfl) ?_
  refine mm_cVi X I hl (As := [.int x1, .int x2, .int x3, .ref a4, .int x5, .int x6]) (ci := 10) md_X10_doNow mv_X10_doNow ml_X10_283 rfl (kX10_doNow (n := n)) (by decide) ⟨Nat.le_refl 0, Nat.le_refl 0⟩ rfl rfl (Nat.le_of_ble_eq_true rfl) dX10_act_50 h (fun v1 M H locs I h => ?_)
  refine lv_istore (lv' := [(8, .int v1), (7, .int s0), (0, .ref a0), (1, .int x1), (2, .int x2), (3, .int x3), (4, .ref a4), (5, .int x5), (6, .int x6)]) X.1 X.2.1 dX10_act_53 hl (by decide) rfl (fun ls hl => ?_)
  refine lv_aload_n X.1 X.2.1 dX10_act_55 rfl (lv_at hl 2 rfl) ?_
  refine lv_iload_n X.1 X.2.1 dX10_act_56 rfl (lv_at hl 3 rfl) ?_
  refine lv_iload X.1 X.2.1 dX10_act_57 (lv_at hl 1 rfl) ?_
  refine mm_cVv X I hl (As := [.int x1, .int s0]) (ci := 10) md_X10_note mv_X10_note ml_X10_287 rfl (kX10_note (n := n)) (by decide) ⟨Nat.le_refl 0, Nat.le_refl 0⟩ rfl rfl (Nat.le_of_ble_eq_true rfl) dX10_act_59 h (fun M H locs I h => ?_)
  refine lv_iload X.1 X.2.1 dX10_act_62 (lv_at hl 0 rfl) ?_
  exact mm_xi X I hr hlk dX10_act_64 h
set_option maxHeartbeats 4000000 in
set_option maxRecDepth 100000 in
theorem kX10_act {l : Launch} {D : va_G} {dA : Nat → ClassId} {lo : Nat} {n : Nat} {M : mm_M} {a0 : Nat} {x1 : Int32} {x2 : Int32} {x3 : Int32} {a4 : Nat} {x5 : Int32} {x6 : Int32} (o : Int32 × mm_M) (h : pX10_act n M a0 x1 x2 x3 a4 x5 x6 = some o) : (∃ fs, M.2 a0 = some (mm_ob 10 fs)) ∧ mm_Met l D dA lo yX10_act cX10_act 9 (some .int) 10 237 0 0 [.ref a0, .int x1, .int x2, .int x3, .ref a4, .int x5, .int x6] M (some (.int o.1)) o.2 := by
  unfold pX10_act at h
  obtain ⟨hob, h⟩ := mm_v_some h
  refine ⟨hob, mm_enter (by decide) (Nat.le_of_ble_eq_true rfl) (fun p e s m args below meth c ls X hr hlk hnm I hl => ?_)⟩
  have X : mm_C D dA lo cX10_act RX10 9 p s m args c := X
  have hl : lv_has ls 9 [(0, .ref a0), (1, .int x1), (2, .int x2), (3, .int x3), (4, .ref a4), (5, .int x5), (6, .int x6)] := hl
  refine lv_aload_n X.1 X.2.1 dX10_act_0 rfl (lv_at hl 0 rfl) ?_
  refine mm_cVv X I hl (As := []) (ci := 10) md_X10_keep mv_X10_keep ml_X10_280 rfl (kX10_keep (n := n)) (by decide) ⟨Nat.le_refl 0, Nat.le_refl 0⟩ rfl rfl (Nat.le_of_ble_eq_true rfl) dX10_act_1 h (fun M H locs I h => ?_)
  refine lv_iload_n X.1 X.2.1 dX10_act_4 rfl (lv_at hl 1 rfl) ?_
  refine lv_iconst (v := 1) X.1 X.2.1 dX10_act_5 (by decide) ?_
  refine mm_kne (tgt := 18) X dX10_act_6 (by decide) h (fun h => ?_) (fun h => ?_)
  · refine lv_iload_n X.1 X.2.1 dX10_act_18 rfl (lv_at hl 1 rfl) ?_
    refine lv_iconst (v := 4) X.1 X.2.1 dX10_act_19 (by decide) ?_
    refine mm_klt (tgt := 29) X dX10_act_20 (by decide) h (fun h => ?_) (fun h => ?_)
    · refine lv_aload_n X.1 X.2.1 dX10_act_29 rfl (lv_at hl 0 rfl) ?_
      refine lv_iload_n X.1 X.2.1 dX10_act_30 rfl (lv_at hl 2 rfl) ?_
      refine mm_cVi X I hl (As := [.int x2]) (ci := 10) md_X10_numberOf mv_X10_numberOf ml_X10_190 rfl (kX10_numberOf (n := n)) (by decide) ⟨Nat.le_refl 0, Nat.le_refl 0⟩ rfl rfl (Nat.le_of_ble_eq_true rfl) dX10_act_31 h (fun v2 M H locs I h => ?_)
      refine lv_goto (tgt := 38) X.1 X.2.1 dX10_act_34 (by decide) ?_
      exact wpX10_act_b38 X hr hlk n  M _ _ _ _ _ _ _ _ _ _ _ I (lv_sub hl [0, 1, 2, 3, 4, 5, 6] rfl) h
    · refine lv_iload_n X.1 X.2.1 dX10_act_23 rfl (lv_at hl 1 rfl) ?_
      refine lv_bipush (v := 6) X.1 X.2.1 dX10_act_24 (by decide) ?_
      refine mm_kle (tgt := 37) X dX10_act_26 (by decide) h (fun h => ?_) (fun h => ?_)
      · refine lv_iload_n X.1 X.2.1 dX10_act_37 rfl (lv_at hl 2 rfl) ?_
        exact wpX10_act_b38 X hr hlk n  M _ _ _ _ _ _ _ _ _ _ _ I (lv_sub hl [0, 1, 2, 3, 4, 5, 6] rfl) h
      · refine lv_aload_n X.1 X.2.1 dX10_act_29 rfl (lv_at hl 0 rfl) ?_
        refine lv_iload_n X.1 X.2.1 dX10_act_30 rfl (lv_at hl 2 rfl) ?_
        refine mm_cVi X I hl (As := [.int x2]) (ci := 10) md_X10_numberOf mv_X10_numberOf ml_X10_190 rfl (kX10_numberOf (n := n)) (by decide) ⟨Nat.le_refl 0, Nat.le_refl 0⟩ rfl rfl (Nat.le_of_ble_eq_true rfl) dX10_act_31 h (fun v3 M H locs I h => ?_)
        refine lv_goto (tgt := 38) X.1 X.2.1 dX10_act_34 (by decide) ?_
        exact wpX10_act_b38 X hr hlk n  M _ _ _ _ _ _ _ _ _ _ _ I (lv_sub hl [0, 1, 2, 3, 4, 5, 6] rfl) h
  · refine lv_aload_n X.1 X.2.1 dX10_act_9 rfl (lv_at hl 0 rfl) ?_
    refine mm_rgr X I fl_X10_28 dX10_act_10 h (fun v4 h => ?_)
    refine lv_iconst (v := 1) X.1 X.2.1 dX10_act_13 (by decide) ?_
    refine mm_ria X I dX10_act_14 h (fun v5 h => ?_)
    refine lv_goto (tgt := 38) X.1 X.2.1 dX10_act_15 (by decide) ?_
    exact wpX10_act_b38 X hr hlk n  M _ _ _ _ _ _ _ _ _ _ _ I (lv_sub hl [0, 1, 2, 3, 4, 5, 6] rfl) h
set_option maxHeartbeats 4000000 in
set_option maxRecDepth 100000 in
theorem kX10_hand {l : Launch} {D : va_G} {dA : Nat → ClassId} {lo : Nat} {n : Nat} {M : mm_M} {a0 : Nat} {x1 : Int32} {x2 : Int32} {x3 : Int32} {a4 : Nat} {x5 : Int32} (o : Int32 × mm_M) (h : pX10_hand n M a0 x1 x2 x3 a4 x5 = some o) : (∃ fs, M.2 a0 = some (mm_ob 10 fs)) ∧ mm_Met l D dA lo yX10_hand cX10_hand 7 (some .int) 11 265 0 0 [.ref a0, .int x1, .int x2, .int x3, .ref a4, .int x5] M (some (.int o.1)) o.2 := by
  unfold pX10_hand at h
  obtain ⟨hob, h⟩ := mm_v_some h
  refine ⟨hob, mm_enter (by decide) (Nat.le_of_ble_eq_true rfl) (fun p e s m args below meth c ls X hr hlk hnm I hl => ?_)⟩
  have X : mm_C D dA lo cX10_hand RX10 7 p s m args c := X
  have hl : lv_has ls 7 [(0, .ref a0), (1, .int x1), (2, .int x2), (3, .int x3), (4, .ref a4), (5, .int x5)] := hl
  refine lv_aload_n X.1 X.2.1 dX10_hand_0 rfl (lv_at hl 0 rfl) ?_
  refine lv_iload_n X.1 X.2.1 dX10_hand_1 rfl (lv_at hl 1 rfl) ?_
  refine lv_iload_n X.1 X.2.1 dX10_hand_2 rfl (lv_at hl 2 rfl) ?_
  refine lv_iload_n X.1 X.2.1 dX10_hand_3 rfl (lv_at hl 3 rfl) ?_
  refine lv_aload X.1 X.2.1 dX10_hand_4 (lv_at hl 4 rfl) ?_
  refine lv_iconst (v := 0) X.1 X.2.1 dX10_hand_6 (by decide) ?_
  refine lv_iload X.1 X.2.1 dX10_hand_7 (lv_at hl 5 rfl) ?_
  refine mm_cVi X I hl (As := [.int x1, .int x2, .int x3, .ref a4, .int 0, .int x5]) (ci := 10) md_X10_whyNot mv_X10_whyNot ml_X10_290 rfl (kX10_whyNot (n := n)) (by decide) ⟨Nat.le_refl 0, Nat.le_refl 0⟩ rfl rfl (Nat.le_of_ble_eq_true rfl) dX10_hand_9 h (fun v1 M H locs I h => ?_)
  refine lv_istore (lv' := [(6, .int v1), (0, .ref a0), (1, .int x1), (2, .int x2), (3, .int x3), (4, .ref a4), (5, .int x5)]) X.1 X.2.1 dX10_hand_12 hl (by decide) rfl (fun ls hl => ?_)
  refine lv_iload X.1 X.2.1 dX10_hand_14 (lv_at hl 0 rfl) ?_
  refine lv_iconst (v := (-1)) X.1 X.2.1 dX10_hand_16 (by decide) ?_
  refine mm_keq (tgt := 33) X dX10_hand_17 (by decide) h (fun h => ?_) (fun h => ?_)
  · refine lv_aload_n X.1 X.2.1 dX10_hand_33 rfl (lv_at hl 1 rfl) ?_
    refine lv_iload_n X.1 X.2.1 dX10_hand_34 rfl (lv_at hl 2 rfl) ?_
    refine lv_iload_n X.1 X.2.1 dX10_hand_35 rfl (lv_at hl 3 rfl) ?_
    refine lv_iload_n X.1 X.2.1 dX10_hand_36 rfl (lv_at hl 4 rfl) ?_
    refine lv_aload X.1 X.2.1 dX10_hand_37 (lv_at hl 5 rfl) ?_
    refine lv_iconst (v := 0) X.1 X.2.1 dX10_hand_39 (by decide) ?_
    refine lv_iload X.1 X.2.1 dX10_hand_40 (lv_at hl 6 rfl) ?_
    refine mm_cVi X I hl (As := [.int x1, .int x2, .int x3, .ref a4, .int 0, .int x5]) (ci := 10) md_X10_act mv_X10_act ml_X10_293 rfl (kX10_act (n := n)) (by decide) ⟨Nat.le_refl 0, Nat.le_refl 0⟩ rfl rfl (Nat.le_of_ble_eq_true rfl) dX10_hand_42 h (fun v2 M H locs I h => ?_)
    exact mm_xi X I hr hlk dX10_hand_45 h
  · refine lv_aload_n X.1 X.2.1 dX10_hand_20 rfl (lv_at hl 1 rfl) ?_
    refine mm_rgr X I fl_X10_31 dX10_hand_21 h (fun v3 h => ?_)
    refine lv_iload X.1 X.2.1 dX10_hand_24 (lv_at hl 0 rfl) ?_
    refine lv_dup2_11 X.1 X.2.1 dX10_hand_26 rfl rfl ?_
    refine mm_ria X I dX10_hand_27 h (fun v4 h => ?_)
    refine lv_iconst (v := 1) X.1 X.2.1 dX10_hand_28 (by decide) ?_
    refine lv_iadd X.1 X.2.1 dX10_hand_29 ?_
    refine mm_ris X I dX10_hand_30 h (fun M H locs I h => ?_)
    refine lv_iconst (v := (-1)) X.1 X.2.1 dX10_hand_31 (by decide) ?_
    exact mm_xi X I hr hlk dX10_hand_32 h
set_option maxHeartbeats 4000000 in
set_option maxRecDepth 100000 in
theorem kX10_lineInHand {l : Launch} {D : va_G} {dA : Nat → ClassId} {lo : Nat} {n : Nat} {M : mm_M} {a0 : Nat} (o : Int32 × mm_M) (h : pX10_lineInHand n M a0 = some o) : (∃ fs, M.2 a0 = some (mm_ob 10 fs)) ∧ mm_Met l D dA lo yX10_lineInHand cX10_lineInHand 1 (some .int) 3 66 0 0 [.ref a0] M (some (.int o.1)) o.2 := by
  unfold pX10_lineInHand at h
  obtain ⟨hob, h⟩ := mm_v_some h
  refine ⟨hob, mm_enter (by decide) (Nat.le_of_ble_eq_true rfl) (fun p e s m args below meth c ls X hr hlk hnm I hl => ?_)⟩
  have X : mm_C D dA lo cX10_lineInHand RX10 1 p s m args c := X
  have hl : lv_has ls 1 [(0, .ref a0)] := hl
  refine lv_aload_n X.1 X.2.1 dX10_lineInHand_0 rfl (lv_at hl 0 rfl) ?_
  refine lv_bipush (v := 20) X.1 X.2.1 dX10_lineInHand_1 (by decide) ?_
  refine mm_cVi X I hl (As := [.int 20]) (ci := 10) md_X10_readAlone mv_X10_readAlone ml_X10_126 rfl (kX10_readAlone (n := n)) (by decide) ⟨Nat.le_refl 0, Nat.le_refl 0⟩ rfl rfl (Nat.le_of_ble_eq_true rfl) dX10_lineInHand_3 h (fun v1 M H locs I h => ?_)
  refine lv_iconst (v := (-1)) X.1 X.2.1 dX10_lineInHand_6 (by decide) ?_
  refine mm_kne (tgt := 17) X dX10_lineInHand_7 (by decide) h (fun h => ?_) (fun h => ?_)
  · refine lv_iconst (v := 0) X.1 X.2.1 dX10_lineInHand_17 (by decide) ?_
    exact mm_xi X I hr hlk dX10_lineInHand_18 h
  · refine lv_aload_n X.1 X.2.1 dX10_lineInHand_10 rfl (lv_at hl 0 rfl) ?_
    refine mm_rgi X I fl_X10_117 dX10_lineInHand_11 h (fun v2 h => ?_)
    refine lv_goto (tgt := 18) X.1 X.2.1 dX10_lineInHand_14 (by decide) ?_
    exact mm_xi X I hr hlk dX10_lineInHand_18 h
set_option maxHeartbeats 4000000 in
set_option maxRecDepth 100000 in
theorem kX10_handTape {l : Launch} {D : va_G} {dA : Nat → ClassId} {lo : Nat} {n : Nat} {M : mm_M} {a0 : Nat} {x1 : Int32} {x2 : Int32} (o : Int32 × mm_M) (h : pX10_handTape n M a0 x1 x2 = some o) : (∃ fs, M.2 a0 = some (mm_ob 10 fs)) ∧ mm_Met l D dA lo yX10_handTape cX10_handTape 4 (some .int) 12 291 0 0 [.ref a0, .int x1, .int x2] M (some (.int o.1)) o.2 := by
  unfold pX10_handTape at h
  obtain ⟨hob, h⟩ := mm_v_some h
  refine ⟨hob, mm_enter (by decide) (Nat.le_of_ble_eq_true rfl) (fun p e s m args below meth c ls X hr hlk hnm I hl => ?_)⟩
  have X : mm_C D dA lo cX10_handTape RX10 4 p s m args c := X
  have hl : lv_has ls 4 [(0, .ref a0), (1, .int x1), (2, .int x2)] := hl
  refine lv_aload_n X.1 X.2.1 dX10_handTape_0 rfl (lv_at hl 0 rfl) ?_
  refine lv_iload_n X.1 X.2.1 dX10_handTape_1 rfl (lv_at hl 1 rfl) ?_
  refine lv_iload_n X.1 X.2.1 dX10_handTape_2 rfl (lv_at hl 2 rfl) ?_
  refine lv_iconst (v := 0) X.1 X.2.1 dX10_handTape_3 (by decide) ?_
  refine lv_aload_n X.1 X.2.1 dX10_handTape_4 rfl (lv_at hl 0 rfl) ?_
  refine mm_rgr X I fl_X10_25 dX10_handTape_5 h (fun v1 h => ?_)
  refine lv_aload_n X.1 X.2.1 dX10_handTape_8 rfl (lv_at hl 0 rfl) ?_
  refine mm_cVi X I hl (As := []) (ci := 10) md_X10_lineInHand mv_X10_lineInHand ml_X10_296 rfl (kX10_lineInHand (n := n)) (by decide) ⟨Nat.le_refl 0, Nat.le_refl 0⟩ rfl rfl (Nat.le_of_ble_eq_true rfl) dX10_handTape_9 h (fun v2 M H locs I h => ?_)
  refine mm_cVi X I hl (As := [.int x1, .int x2, .int 0, .ref v1, .int v2]) (ci := 10) md_X10_hand mv_X10_hand ml_X10_299 rfl (kX10_hand (n := n)) (by decide) ⟨Nat.le_refl 0, Nat.le_refl 0⟩ rfl rfl (Nat.le_of_ble_eq_true rfl) dX10_handTape_12 h (fun v3 M H locs I h => ?_)
  refine lv_istore_n (lv' := [(3, .int v3), (0, .ref a0), (1, .int x1), (2, .int x2)]) X.1 X.2.1 dX10_handTape_15 rfl hl (by decide) rfl (fun ls hl => ?_)
  refine lv_aload_n X.1 X.2.1 dX10_handTape_16 rfl (lv_at hl 1 rfl) ?_
  refine lv_iload_n X.1 X.2.1 dX10_handTape_17 rfl (lv_at hl 0 rfl) ?_
  refine lv_iconst (v := (-1)) X.1 X.2.1 dX10_handTape_18 (by decide) ?_
  refine mm_kne (tgt := 29) X dX10_handTape_19 (by decide) h (fun h => ?_) (fun h => ?_)
  · refine lv_iconst (v := 0) X.1 X.2.1 dX10_handTape_29 (by decide) ?_
    refine mm_rpi X I fl_X10_66 dX10_handTape_30 h (fun M H locs I h => ?_)
    refine lv_iload_n X.1 X.2.1 dX10_handTape_33 rfl (lv_at hl 0 rfl) ?_
    exact mm_xi X I hr hlk dX10_handTape_34 h
  · refine lv_aload_n X.1 X.2.1 dX10_handTape_22 rfl (lv_at hl 1 rfl) ?_
    refine mm_rgi X I fl_X10_66 dX10_handTape_23 h (fun v4 h => ?_)
    refine lv_goto (tgt := 30) X.1 X.2.1 dX10_handTape_26 (by decide) ?_
    refine mm_rpi X I fl_X10_66 dX10_handTape_30 h (fun M H locs I h => ?_)
    refine lv_iload_n X.1 X.2.1 dX10_handTape_33 rfl (lv_at hl 0 rfl) ?_
    exact mm_xi X I hr hlk dX10_handTape_34 h
set_option maxHeartbeats 4000000 in
set_option maxRecDepth 100000 in
theorem kX10_set {l : Launch} {D : va_G} {dA : Nat → ClassId} {lo : Nat} {n : Nat} {M : mm_M} {a0 : Nat} {x1 : Int32} (o : Int32 × mm_M) (h : pX10_set n M a0 x1 = some o) : (∃ fs, M.2 a0 = some (mm_ob 10 fs)) ∧ mm_Met l D dA lo yX10_set cX10_set 2 (some .int) 13 314 0 0 [.ref a0, .int x1] M (some (.int o.1)) o.2 := by
  unfold pX10_set at h
  obtain ⟨hob, h⟩ := mm_v_some h
  refine ⟨hob, mm_enter (by decide) (Nat.le_of_ble_eq_true rfl) (fun p e s m args below meth c ls X hr hlk hnm I hl => ?_)⟩
  have X : mm_C D dA lo cX10_set RX10 2 p s m args c := X
  have hl : lv_has ls 2 [(0, .ref a0), (1, .int x1)] := hl
  refine lv_aload_n X.1 X.2.1 dX10_set_0 rfl (lv_at hl 0 rfl) ?_
  refine lv_iconst (v := 0) X.1 X.2.1 dX10_set_1 (by decide) ?_
  refine lv_iload_n X.1 X.2.1 dX10_set_2 rfl (lv_at hl 1 rfl) ?_
  refine mm_cVi X I hl (As := [.int 0, .int x1]) (ci := 10) md_X10_handTape mv_X10_handTape ml_X10_303 rfl (kX10_handTape (n := n)) (by decide) ⟨Nat.le_refl 0, Nat.le_refl 0⟩ rfl rfl (Nat.le_of_ble_eq_true rfl) dX10_set_3 h (fun v1 M H locs I h => ?_)
  exact mm_xi X I hr hlk dX10_set_6 h
set_option maxHeartbeats 4000000 in
set_option maxRecDepth 100000 in
theorem kX10_put {l : Launch} {D : va_G} {dA : Nat → ClassId} {lo : Nat} {n : Nat} {M : mm_M} {a0 : Nat} {x1 : Int32} (o : Int32 × mm_M) (h : pX10_put n M a0 x1 = some o) : (∃ fs, M.2 a0 = some (mm_ob 10 fs)) ∧ mm_Met l D dA lo yX10_put cX10_put 2 (some .int) 13 314 0 0 [.ref a0, .int x1] M (some (.int o.1)) o.2 := by
  unfold pX10_put at h
  obtain ⟨hob, h⟩ := mm_v_some h
  refine ⟨hob, mm_enter (by decide) (Nat.le_of_ble_eq_true rfl) (fun p e s m args below meth c ls X hr hlk hnm I hl => ?_)⟩
  have X : mm_C D dA lo cX10_put RX10 2 p s m args c := X
  have hl : lv_has ls 2 [(0, .ref a0), (1, .int x1)] := hl
  refine lv_aload_n X.1 X.2.1 dX10_put_0 rfl (lv_at hl 0 rfl) ?_
  refine lv_iconst (v := 1) X.1 X.2.1 dX10_put_1 (by decide) ?_
  refine lv_iload_n X.1 X.2.1 dX10_put_2 rfl (lv_at hl 1 rfl) ?_
  refine mm_cVi X I hl (As := [.int 1, .int x1]) (ci := 10) md_X10_handTape mv_X10_handTape ml_X10_303 rfl (kX10_handTape (n := n)) (by decide) ⟨Nat.le_refl 0, Nat.le_refl 0⟩ rfl rfl (Nat.le_of_ble_eq_true rfl) dX10_put_3 h (fun v1 M H locs I h => ?_)
  exact mm_xi X I hr hlk dX10_put_6 h
set_option maxHeartbeats 4000000 in
set_option maxRecDepth 100000 in
theorem kX10_take {l : Launch} {D : va_G} {dA : Nat → ClassId} {lo : Nat} {n : Nat} {M : mm_M} {a0 : Nat} {x1 : Int32} (o : Int32 × mm_M) (h : pX10_take n M a0 x1 = some o) : (∃ fs, M.2 a0 = some (mm_ob 10 fs)) ∧ mm_Met l D dA lo yX10_take cX10_take 2 (some .int) 12 291 0 0 [.ref a0, .int x1] M (some (.int o.1)) o.2 := by
  unfold pX10_take at h
  obtain ⟨hob, h⟩ := mm_v_some h
  refine ⟨hob, mm_enter (by decide) (Nat.le_of_ble_eq_true rfl) (fun p e s m args below meth c ls X hr hlk hnm I hl => ?_)⟩
  have X : mm_C D dA lo cX10_take RX10 2 p s m args c := X
  have hl : lv_has ls 2 [(0, .ref a0), (1, .int x1)] := hl
  refine lv_aload_n X.1 X.2.1 dX10_take_0 rfl (lv_at hl 0 rfl) ?_
  refine lv_iconst (v := 2) X.1 X.2.1 dX10_take_1 (by decide) ?_
  refine lv_iload_n X.1 X.2.1 dX10_take_2 rfl (lv_at hl 1 rfl) ?_
  refine lv_iconst (v := 0) X.1 X.2.1 dX10_take_3 (by decide) ?_
  refine lv_aload_n X.1 X.2.1 dX10_take_4 rfl (lv_at hl 0 rfl) ?_
  refine mm_rgr X I fl_X10_34 dX10_take_5 h (fun v1 h => ?_)
  refine lv_iconst (v := 0) X.1 X.2.1 dX10_take_8 (by decide) ?_
  refine mm_cVi X I hl (As := [.int 2, .int x1, .int 0, .ref v1, .int 0]) (ci := 10) md_X10_hand mv_X10_hand ml_X10_299 rfl (kX10_hand (n := n)) (by decide) ⟨Nat.le_refl 0, Nat.le_refl 0⟩ rfl rfl (Nat.le_of_ble_eq_true rfl) dX10_take_9 h (fun v2 M H locs I h => ?_)
  exact mm_xi X I hr hlk dX10_take_12 h
set_option maxHeartbeats 4000000 in
set_option maxRecDepth 100000 in
theorem kX10_swap {l : Launch} {D : va_G} {dA : Nat → ClassId} {lo : Nat} {n : Nat} {M : mm_M} {a0 : Nat} {x1 : Int32} {x2 : Int32} (o : Int32 × mm_M) (h : pX10_swap n M a0 x1 x2 = some o) : (∃ fs, M.2 a0 = some (mm_ob 10 fs)) ∧ mm_Met l D dA lo yX10_swap cX10_swap 3 (some .int) 12 291 0 0 [.ref a0, .int x1, .int x2] M (some (.int o.1)) o.2 := by
  unfold pX10_swap at h
  obtain ⟨hob, h⟩ := mm_v_some h
  refine ⟨hob, mm_enter (by decide) (Nat.le_of_ble_eq_true rfl) (fun p e s m args below meth c ls X hr hlk hnm I hl => ?_)⟩
  have X : mm_C D dA lo cX10_swap RX10 3 p s m args c := X
  have hl : lv_has ls 3 [(0, .ref a0), (1, .int x1), (2, .int x2)] := hl
  refine lv_aload_n X.1 X.2.1 dX10_swap_0 rfl (lv_at hl 0 rfl) ?_
  refine lv_iconst (v := 3) X.1 X.2.1 dX10_swap_1 (by decide) ?_
  refine lv_iload_n X.1 X.2.1 dX10_swap_2 rfl (lv_at hl 1 rfl) ?_
  refine lv_iload_n X.1 X.2.1 dX10_swap_3 rfl (lv_at hl 2 rfl) ?_
  refine lv_aload_n X.1 X.2.1 dX10_swap_4 rfl (lv_at hl 0 rfl) ?_
  refine mm_rgr X I fl_X10_34 dX10_swap_5 h (fun v1 h => ?_)
  refine lv_iconst (v := 0) X.1 X.2.1 dX10_swap_8 (by decide) ?_
  refine mm_cVi X I hl (As := [.int 3, .int x1, .int x2, .ref v1, .int 0]) (ci := 10) md_X10_hand mv_X10_hand ml_X10_299 rfl (kX10_hand (n := n)) (by decide) ⟨Nat.le_refl 0, Nat.le_refl 0⟩ rfl rfl (Nat.le_of_ble_eq_true rfl) dX10_swap_9 h (fun v2 M H locs I h => ?_)
  exact mm_xi X I hr hlk dX10_swap_12 h
set_option maxHeartbeats 4000000 in
set_option maxRecDepth 100000 in
theorem kX10_lay {l : Launch} {D : va_G} {dA : Nat → ClassId} {lo : Nat} {n : Nat} {M : mm_M} {a0 : Nat} {x1 : Int32} {x2 : Int32} (o : Int32 × mm_M) (h : pX10_lay n M a0 x1 x2 = some o) : (∃ fs, M.2 a0 = some (mm_ob 10 fs)) ∧ mm_Met l D dA lo yX10_lay cX10_lay 3 (some .int) 12 291 0 0 [.ref a0, .int x1, .int x2] M (some (.int o.1)) o.2 := by
  unfold pX10_lay at h
  obtain ⟨hob, h⟩ := mm_v_some h
  refine ⟨hob, mm_enter (by decide) (Nat.le_of_ble_eq_true rfl) (fun p e s m args below meth c ls X hr hlk hnm I hl => ?_)⟩
  have X : mm_C D dA lo cX10_lay RX10 3 p s m args c := X
  have hl : lv_has ls 3 [(0, .ref a0), (1, .int x1), (2, .int x2)] := hl
  refine lv_aload_n X.1 X.2.1 dX10_lay_0 rfl (lv_at hl 0 rfl) ?_
  refine lv_iconst (v := 4) X.1 X.2.1 dX10_lay_1 (by decide) ?_
  refine lv_iload_n X.1 X.2.1 dX10_lay_2 rfl (lv_at hl 1 rfl) ?_
  refine lv_iload_n X.1 X.2.1 dX10_lay_3 rfl (lv_at hl 2 rfl) ?_
  refine lv_aload_n X.1 X.2.1 dX10_lay_4 rfl (lv_at hl 0 rfl) ?_
  refine mm_rgr X I fl_X10_34 dX10_lay_5 h (fun v1 h => ?_)
  refine lv_aload_n X.1 X.2.1 dX10_lay_8 rfl (lv_at hl 0 rfl) ?_
  refine mm_rgi X I fl_X10_150 dX10_lay_9 h (fun v2 h => ?_)
  refine mm_cVi X I hl (As := [.int 4, .int x1, .int x2, .ref v1, .int v2]) (ci := 10) md_X10_hand mv_X10_hand ml_X10_299 rfl (kX10_hand (n := n)) (by decide) ⟨Nat.le_refl 0, Nat.le_refl 0⟩ rfl rfl (Nat.le_of_ble_eq_true rfl) dX10_lay_12 h (fun v3 M H locs I h => ?_)
  exact mm_xi X I hr hlk dX10_lay_15 h
set_option maxHeartbeats 4000000 in
set_option maxRecDepth 100000 in
theorem kX10_page {l : Launch} {D : va_G} {dA : Nat → ClassId} {lo : Nat} {n : Nat} {M : mm_M} {a0 : Nat} {x1 : Int32} (o : Int32 × mm_M) (h : pX10_page n M a0 x1 = some o) : (∃ fs, M.2 a0 = some (mm_ob 10 fs)) ∧ mm_Met l D dA lo yX10_page cX10_page 2 (some .int) 12 291 0 0 [.ref a0, .int x1] M (some (.int o.1)) o.2 := by
  unfold pX10_page at h
  obtain ⟨hob, h⟩ := mm_v_some h
  refine ⟨hob, mm_enter (by decide) (Nat.le_of_ble_eq_true rfl) (fun p e s m args below meth c ls X hr hlk hnm I hl => ?_)⟩
  have X : mm_C D dA lo cX10_page RX10 2 p s m args c := X
  have hl : lv_has ls 2 [(0, .ref a0), (1, .int x1)] := hl
  refine lv_aload_n X.1 X.2.1 dX10_page_0 rfl (lv_at hl 0 rfl) ?_
  refine lv_iconst (v := 5) X.1 X.2.1 dX10_page_1 (by decide) ?_
  refine lv_iload_n X.1 X.2.1 dX10_page_2 rfl (lv_at hl 1 rfl) ?_
  refine lv_iconst (v := 0) X.1 X.2.1 dX10_page_3 (by decide) ?_
  refine lv_aload_n X.1 X.2.1 dX10_page_4 rfl (lv_at hl 0 rfl) ?_
  refine mm_rgr X I fl_X10_34 dX10_page_5 h (fun v1 h => ?_)
  refine lv_iconst (v := 0) X.1 X.2.1 dX10_page_8 (by decide) ?_
  refine mm_cVi X I hl (As := [.int 5, .int x1, .int 0, .ref v1, .int 0]) (ci := 10) md_X10_hand mv_X10_hand ml_X10_299 rfl (kX10_hand (n := n)) (by decide) ⟨Nat.le_refl 0, Nat.le_refl 0⟩ rfl rfl (Nat.le_of_ble_eq_true rfl) dX10_page_9 h (fun v2 M H locs I h => ?_)
  exact mm_xi X I hr hlk dX10_page_12 h
set_option maxHeartbeats 4000000 in
set_option maxRecDepth 100000 in
theorem kX10_rewind {l : Launch} {D : va_G} {dA : Nat → ClassId} {lo : Nat} {n : Nat} {M : mm_M} {a0 : Nat} {x1 : Int32} (o : Int32 × mm_M) (h : pX10_rewind n M a0 x1 = some o) : (∃ fs, M.2 a0 = some (mm_ob 10 fs)) ∧ mm_Met l D dA lo yX10_rewind cX10_rewind 2 (some .int) 12 291 0 0 [.ref a0, .int x1] M (some (.int o.1)) o.2 := by
  unfold pX10_rewind at h
  obtain ⟨hob, h⟩ := mm_v_some h
  refine ⟨hob, mm_enter (by decide) (Nat.le_of_ble_eq_true rfl) (fun p e s m args below meth c ls X hr hlk hnm I hl => ?_)⟩
  have X : mm_C D dA lo cX10_rewind RX10 2 p s m args c := X
  have hl : lv_has ls 2 [(0, .ref a0), (1, .int x1)] := hl
  refine lv_aload_n X.1 X.2.1 dX10_rewind_0 rfl (lv_at hl 0 rfl) ?_
  refine lv_bipush (v := 6) X.1 X.2.1 dX10_rewind_1 (by decide) ?_
  refine lv_iload_n X.1 X.2.1 dX10_rewind_3 rfl (lv_at hl 1 rfl) ?_
  refine lv_iconst (v := 0) X.1 X.2.1 dX10_rewind_4 (by decide) ?_
  refine lv_aload_n X.1 X.2.1 dX10_rewind_5 rfl (lv_at hl 0 rfl) ?_
  refine mm_rgr X I fl_X10_34 dX10_rewind_6 h (fun v1 h => ?_)
  refine lv_iconst (v := 0) X.1 X.2.1 dX10_rewind_9 (by decide) ?_
  refine mm_cVi X I hl (As := [.int 6, .int x1, .int 0, .ref v1, .int 0]) (ci := 10) md_X10_hand mv_X10_hand ml_X10_299 rfl (kX10_hand (n := n)) (by decide) ⟨Nat.le_refl 0, Nat.le_refl 0⟩ rfl rfl (Nat.le_of_ble_eq_true rfl) dX10_rewind_10 h (fun v2 M H locs I h => ?_)
  exact mm_xi X I hr hlk dX10_rewind_13 h
set_option maxHeartbeats 4000000 in
set_option maxRecDepth 100000 in
theorem kX10_split {l : Launch} {D : va_G} {dA : Nat → ClassId} {lo : Nat} {n : Nat} {M : mm_M} {a0 : Nat} {x1 : Int32} {x2 : Int32} (o : Int32 × mm_M) (h : pX10_split n M a0 x1 x2 = some o) : (∃ fs, M.2 a0 = some (mm_ob 10 fs)) ∧ mm_Met l D dA lo yX10_split cX10_split 3 (some .int) 12 291 0 0 [.ref a0, .int x1, .int x2] M (some (.int o.1)) o.2 := by
  unfold pX10_split at h
  obtain ⟨hob, h⟩ := mm_v_some h
  refine ⟨hob, mm_enter (by decide) (Nat.le_of_ble_eq_true rfl) (fun p e s m args below meth c ls X hr hlk hnm I hl => ?_)⟩
  have X : mm_C D dA lo cX10_split RX10 3 p s m args c := X
  have hl : lv_has ls 3 [(0, .ref a0), (1, .int x1), (2, .int x2)] := hl
  refine lv_aload_n X.1 X.2.1 dX10_split_0 rfl (lv_at hl 0 rfl) ?_
  refine lv_bipush (v := 7) X.1 X.2.1 dX10_split_1 (by decide) ?_
  refine lv_iload_n X.1 X.2.1 dX10_split_3 rfl (lv_at hl 1 rfl) ?_
  refine lv_iload_n X.1 X.2.1 dX10_split_4 rfl (lv_at hl 2 rfl) ?_
  refine lv_aload_n X.1 X.2.1 dX10_split_5 rfl (lv_at hl 0 rfl) ?_
  refine mm_rgr X I fl_X10_34 dX10_split_6 h (fun v1 h => ?_)
  refine lv_iconst (v := 0) X.1 X.2.1 dX10_split_9 (by decide) ?_
  refine mm_cVi X I hl (As := [.int 7, .int x1, .int x2, .ref v1, .int 0]) (ci := 10) md_X10_hand mv_X10_hand ml_X10_299 rfl (kX10_hand (n := n)) (by decide) ⟨Nat.le_refl 0, Nat.le_refl 0⟩ rfl rfl (Nat.le_of_ble_eq_true rfl) dX10_split_10 h (fun v2 M H locs I h => ?_)
  exact mm_xi X I hr hlk dX10_split_13 h
set_option maxHeartbeats 4000000 in
set_option maxRecDepth 100000 in
theorem kX10_join {l : Launch} {D : va_G} {dA : Nat → ClassId} {lo : Nat} {n : Nat} {M : mm_M} {a0 : Nat} {x1 : Int32} (o : Int32 × mm_M) (h : pX10_join n M a0 x1 = some o) : (∃ fs, M.2 a0 = some (mm_ob 10 fs)) ∧ mm_Met l D dA lo yX10_join cX10_join 2 (some .int) 12 291 0 0 [.ref a0, .int x1] M (some (.int o.1)) o.2 := by
  unfold pX10_join at h
  obtain ⟨hob, h⟩ := mm_v_some h
  refine ⟨hob, mm_enter (by decide) (Nat.le_of_ble_eq_true rfl) (fun p e s m args below meth c ls X hr hlk hnm I hl => ?_)⟩
  have X : mm_C D dA lo cX10_join RX10 2 p s m args c := X
  have hl : lv_has ls 2 [(0, .ref a0), (1, .int x1)] := hl
  refine lv_aload_n X.1 X.2.1 dX10_join_0 rfl (lv_at hl 0 rfl) ?_
  refine lv_bipush (v := 8) X.1 X.2.1 dX10_join_1 (by decide) ?_
  refine lv_iload_n X.1 X.2.1 dX10_join_3 rfl (lv_at hl 1 rfl) ?_
  refine lv_iconst (v := 0) X.1 X.2.1 dX10_join_4 (by decide) ?_
  refine lv_aload_n X.1 X.2.1 dX10_join_5 rfl (lv_at hl 0 rfl) ?_
  refine mm_rgr X I fl_X10_34 dX10_join_6 h (fun v1 h => ?_)
  refine lv_iconst (v := 0) X.1 X.2.1 dX10_join_9 (by decide) ?_
  refine mm_cVi X I hl (As := [.int 8, .int x1, .int 0, .ref v1, .int 0]) (ci := 10) md_X10_hand mv_X10_hand ml_X10_299 rfl (kX10_hand (n := n)) (by decide) ⟨Nat.le_refl 0, Nat.le_refl 0⟩ rfl rfl (Nat.le_of_ble_eq_true rfl) dX10_join_10 h (fun v2 M H locs I h => ?_)
  exact mm_xi X I hr hlk dX10_join_13 h
set_option maxHeartbeats 4000000 in
set_option maxRecDepth 100000 in
theorem kX10_draw {l : Launch} {D : va_G} {dA : Nat → ClassId} {lo : Nat} {n : Nat} {M : mm_M} {a0 : Nat} {x1 : Int32} (o : Int32 × mm_M) (h : pX10_draw n M a0 x1 = some o) : (∃ fs, M.2 a0 = some (mm_ob 10 fs)) ∧ mm_Met l D dA lo yX10_draw cX10_draw 2 (some .int) 0 0 0 0 [.ref a0, .int x1] M (some (.int o.1)) o.2 := by
  unfold pX10_draw at h
  obtain ⟨hob, h⟩ := mm_v_some h
  refine ⟨hob, mm_enter (by decide) (Nat.le_of_ble_eq_true rfl) (fun p e s m args below meth c ls X hr hlk hnm I hl => ?_)⟩
  have X : mm_C D dA lo cX10_draw RX10 2 p s m args c := X
  have hl : lv_has ls 2 [(0, .ref a0), (1, .int x1)] := hl
  refine lv_aload_n X.1 X.2.1 dX10_draw_0 rfl (lv_at hl 0 rfl) ?_
  refine lv_aload_n X.1 X.2.1 dX10_draw_1 rfl (lv_at hl 0 rfl) ?_
  refine mm_rgl X I fl_X10_306 dX10_draw_2 h (fun v1 h => ?_)
  refine lv_ldc2 (v := 6364136223846793005) X.1 X.2.1 X.2.2.2.1 (X.2.2.2.2.1 _ cn_X10_310) dX10_draw_5 ?_
  refine lv_lmul X.1 X.2.1 dX10_draw_8 ?_
  refine lv_ldc2 (v := 1442695040888963407) X.1 X.2.1 X.2.2.2.1 (X.2.2.2.2.1 _ cn_X10_312) dX10_draw_9 ?_
  refine lv_ladd X.1 X.2.1 dX10_draw_12 ?_
  refine mm_rpl X I fl_X10_306 dX10_draw_13 h (fun M H locs I h => ?_)
  refine lv_aload_n X.1 X.2.1 dX10_draw_16 rfl (lv_at hl 0 rfl) ?_
  refine mm_rgl X I fl_X10_306 dX10_draw_17 h (fun v2 h => ?_)
  refine lv_bipush (v := 33) X.1 X.2.1 dX10_draw_20 (by decide) ?_
  refine lv_lushr (v := (mm_lushr v2 33)) X.1 X.2.1 dX10_draw_22 rfl ?_
  refine lv_iload_n X.1 X.2.1 dX10_draw_23 rfl (lv_at hl 1 rfl) ?_
  refine lv_i2l (v := (Int32.toInt64 x1)) X.1 X.2.1 dX10_draw_24 rfl ?_
  refine mm_rlrem X dX10_draw_25 h (fun h => ?_)
  refine lv_l2i (v := (Int64.toInt32 ((mm_lushr v2 33) - (mm_lushr v2 33) / (Int32.toInt64 x1) * (Int32.toInt64 x1)))) X.1 X.2.1 dX10_draw_26 rfl ?_
  exact mm_xi X I hr hlk dX10_draw_27 h
set_option maxHeartbeats 4000000 in
set_option maxRecDepth 100000 in
theorem kX10_tryOne {l : Launch} {D : va_G} {dA : Nat → ClassId} {lo : Nat} {n : Nat} {M : mm_M} {a0 : Nat} {x1 : Int32} {x2 : Int32} {x3 : Int32} {x4 : Int32} (o : mm_M) (h : pX10_tryOne n M a0 x1 x2 x3 x4 = some o) : (∃ fs, M.2 a0 = some (mm_ob 10 fs)) ∧ mm_Met l D dA lo yX10_tryOne cX10_tryOne 5 none 11 265 0 0 [.ref a0, .int x1, .int x2, .int x3, .int x4] M none o := by
  unfold pX10_tryOne at h
  obtain ⟨hob, h⟩ := mm_v_some h
  refine ⟨hob, mm_enter (by decide) (Nat.le_of_ble_eq_true rfl) (fun p e s m args below meth c ls X hr hlk hnm I hl => ?_)⟩
  have X : mm_C D dA lo cX10_tryOne RX10 5 p s m args c := X
  have hl : lv_has ls 5 [(0, .ref a0), (1, .int x1), (2, .int x2), (3, .int x3), (4, .int x4)] := hl
  refine lv_aload_n X.1 X.2.1 dX10_tryOne_0 rfl (lv_at hl 0 rfl) ?_
  refine lv_iload_n X.1 X.2.1 dX10_tryOne_1 rfl (lv_at hl 1 rfl) ?_
  refine lv_iload_n X.1 X.2.1 dX10_tryOne_2 rfl (lv_at hl 2 rfl) ?_
  refine lv_iload_n X.1 X.2.1 dX10_tryOne_3 rfl (lv_at hl 3 rfl) ?_
  refine lv_aload_n X.1 X.2.1 dX10_tryOne_4 rfl (lv_at hl 0 rfl) ?_
  refine mm_rgr X I fl_X10_46 dX10_tryOne_5 h (fun v1 h => ?_)
  refine lv_iconst (v := 0) X.1 X.2.1 dX10_tryOne_8 (by decide) ?_
  refine lv_iload X.1 X.2.1 dX10_tryOne_9 (lv_at hl 4 rfl) ?_
  refine mm_cVi X I hl (As := [.int x1, .int x2, .int x3, .ref v1, .int 0, .int x4]) (ci := 10) md_X10_whyNot mv_X10_whyNot ml_X10_290 rfl (kX10_whyNot (n := n)) (by decide) ⟨Nat.le_refl 0, Nat.le_refl 0⟩ rfl rfl (Nat.le_of_ble_eq_true rfl) dX10_tryOne_11 h (fun v2 M H locs I h => ?_)
  refine lv_iconst (v := (-1)) X.1 X.2.1 dX10_tryOne_14 (by decide) ?_
  refine mm_kne (tgt := 33) X dX10_tryOne_15 (by decide) h (fun h => ?_) (fun h => ?_)
  · exact mm_xv X I hr hlk dX10_tryOne_33 h
  · refine lv_aload_n X.1 X.2.1 dX10_tryOne_18 rfl (lv_at hl 0 rfl) ?_
    refine lv_iload_n X.1 X.2.1 dX10_tryOne_19 rfl (lv_at hl 1 rfl) ?_
    refine lv_iload_n X.1 X.2.1 dX10_tryOne_20 rfl (lv_at hl 2 rfl) ?_
    refine lv_iload_n X.1 X.2.1 dX10_tryOne_21 rfl (lv_at hl 3 rfl) ?_
    refine lv_aload_n X.1 X.2.1 dX10_tryOne_22 rfl (lv_at hl 0 rfl) ?_
    refine mm_rgr X I fl_X10_46 dX10_tryOne_23 h (fun v3 h => ?_)
    refine lv_iconst (v := 0) X.1 X.2.1 dX10_tryOne_26 (by decide) ?_
    refine lv_iload X.1 X.2.1 dX10_tryOne_27 (lv_at hl 4 rfl) ?_
    refine mm_cVi X I hl (As := [.int x1, .int x2, .int x3, .ref v3, .int 0, .int x4]) (ci := 10) md_X10_act mv_X10_act ml_X10_293 rfl (kX10_act (n := n)) (by decide) ⟨Nat.le_refl 0, Nat.le_refl 0⟩ rfl rfl (Nat.le_of_ble_eq_true rfl) dX10_tryOne_29 h (fun v4 M H locs I h => ?_)
    refine lv_pop X.1 X.2.1 dX10_tryOne_32 rfl ?_
    exact mm_xv X I hr hlk dX10_tryOne_33 h
set_option maxHeartbeats 4000000 in
set_option maxRecDepth 100000 in
theorem wpX10_drawsSigns_l11 {p : Program} {l : Launch} {e : Env} {s : State} {m : MethodId} {args : Array Value} {below : List Frame} {meth : Method} {c : Code} {D : va_G} {dA : Nat → ClassId} {lo : Nat} (X : mm_C D dA lo cX10_drawsSigns RX10 4 p s m args c) (hr : meth.sig.returnType = (some .int)) (hlk : meth.locks = false) (n : Nat) {o : Int32 × mm_M} (k : Nat) : ∀ (M : mm_M) (a0 : Nat) (x1 : Int32) (x2 : Int32) (H : Heap) (locs : List Loc) (ls : Array Slot), mm_I D dA lo s M H locs → lv_has ls 4 [(0, .ref a0), (1, .int x1), (2, .int x2)] → pX10_drawsSigns_l11 n k M a0 x1 x2 = some o → W p l e (mm_rm 1 21 0 0) s m args below meth c H locs 0 0 (MQ below (mm_Q D dA lo (some (.int o.1)) o.2) args s 0 0 (mm_fr lo)) (F0 m 11 ls []) := by
  induction k with
  | zero =>
    intro M a0 x1 x2 H locs ls I hl h
    have h : (none : Option (Int32 × mm_M)) = some o := h
    cases h
  | succ k ih =>
    intro M a0 x1 x2 H locs ls I hl h
    have h : pX10_drawsSigns_l11b n (pX10_drawsSigns_l11 n k) M a0 x1 x2 = some o := h
    unfold pX10_drawsSigns_l11b at h
    refine lv_iload_n X.1 X.2.1 dX10_drawsSigns_11 rfl (lv_at hl 2 rfl) ?_
    refine lv_iload_n X.1 X.2.1 dX10_drawsSigns_12 rfl (lv_at hl 1 rfl) ?_
    refine mm_kge (tgt := 46) X dX10_drawsSigns_13 (by decide) h (fun h => ?_) (fun h => ?_)
    · refine lv_iload_n X.1 X.2.1 dX10_drawsSigns_46 rfl (lv_at hl 1 rfl) ?_
      exact mm_xi X I hr hlk dX10_drawsSigns_47 h
    · refine lv_aload_n X.1 X.2.1 dX10_drawsSigns_16 rfl (lv_at hl 0 rfl) ?_
      refine lv_iconst (v := 3) X.1 X.2.1 dX10_drawsSigns_17 (by decide) ?_
      refine mm_cVi X I hl (As := [.int 3]) (ci := 10) md_X10_draw mv_X10_draw ml_X10_314 rfl (kX10_draw (n := n)) (by decide) ⟨Nat.le_refl 0, Nat.le_refl 0⟩ rfl rfl (Nat.le_of_ble_eq_true rfl) dX10_drawsSigns_18 h (fun v1 M H locs I h => ?_)
      refine lv_istore_n (lv' := [(3, .int v1), (0, .ref a0), (1, .int x1), (2, .int x2)]) X.1 X.2.1 dX10_drawsSigns_21 rfl hl (by decide) rfl (fun ls hl => ?_)
      refine lv_aload_n X.1 X.2.1 dX10_drawsSigns_22 rfl (lv_at hl 1 rfl) ?_
      refine mm_rgr X I fl_X10_46 dX10_drawsSigns_23 h (fun v2 h => ?_)
      refine lv_iload_n X.1 X.2.1 dX10_drawsSigns_26 rfl (lv_at hl 3 rfl) ?_
      refine lv_iload_n X.1 X.2.1 dX10_drawsSigns_27 rfl (lv_at hl 0 rfl) ?_
      refine lv_iconst (v := 2) X.1 X.2.1 dX10_drawsSigns_28 (by decide) ?_
      refine mm_kne (tgt := 36) X dX10_drawsSigns_29 (by decide) h (fun h => ?_) (fun h => ?_)
      · refine lv_iload_n X.1 X.2.1 dX10_drawsSigns_36 rfl (lv_at hl 0 rfl) ?_
        refine lv_iconst (v := 1) X.1 X.2.1 dX10_drawsSigns_37 (by decide) ?_
        refine lv_iadd X.1 X.2.1 dX10_drawsSigns_38 ?_
        refine mm_ris X I dX10_drawsSigns_39 h (fun M H locs I h => ?_)
        refine lv_iinc (v := (x2 + 1)) (lv' := [(2, .int (x2 + 1)), (3, .int v1), (0, .ref a0), (1, .int x1)]) X.1 X.2.1 dX10_drawsSigns_40 hl (k := 3) rfl rfl (by decide) rfl (fun ls hl => ?_)
        refine lv_goto (tgt := 11) X.1 X.2.1 dX10_drawsSigns_43 (by decide) ?_
        exact ih M _ _ _ _ _ _ I (lv_sub hl [2, 3, 0] rfl) h
      · refine lv_iconst (v := 0) X.1 X.2.1 dX10_drawsSigns_32 (by decide) ?_
        refine lv_goto (tgt := 39) X.1 X.2.1 dX10_drawsSigns_33 (by decide) ?_
        refine mm_ris X I dX10_drawsSigns_39 h (fun M H locs I h => ?_)
        refine lv_iinc (v := (x2 + 1)) (lv' := [(2, .int (x2 + 1)), (3, .int v1), (0, .ref a0), (1, .int x1)]) X.1 X.2.1 dX10_drawsSigns_40 hl (k := 3) rfl rfl (by decide) rfl (fun ls hl => ?_)
        refine lv_goto (tgt := 11) X.1 X.2.1 dX10_drawsSigns_43 (by decide) ?_
        exact ih M _ _ _ _ _ _ I (lv_sub hl [2, 3, 0] rfl) h
set_option maxHeartbeats 4000000 in
set_option maxRecDepth 100000 in
theorem kX10_drawsSigns {l : Launch} {D : va_G} {dA : Nat → ClassId} {lo : Nat} {n : Nat} {M : mm_M} {a0 : Nat} (o : Int32 × mm_M) (h : pX10_drawsSigns n M a0 = some o) : (∃ fs, M.2 a0 = some (mm_ob 10 fs)) ∧ mm_Met l D dA lo yX10_drawsSigns cX10_drawsSigns 4 (some .int) 1 21 0 0 [.ref a0] M (some (.int o.1)) o.2 := by
  unfold pX10_drawsSigns at h
  obtain ⟨hob, h⟩ := mm_v_some h
  refine ⟨hob, mm_enter (by decide) (Nat.le_of_ble_eq_true rfl) (fun p e s m args below meth c ls X hr hlk hnm I hl => ?_)⟩
  have X : mm_C D dA lo cX10_drawsSigns RX10 4 p s m args c := X
  have hl : lv_has ls 4 [(0, .ref a0)] := hl
  refine lv_aload_n X.1 X.2.1 dX10_drawsSigns_0 rfl (lv_at hl 0 rfl) ?_
  refine lv_bipush (v := 6) X.1 X.2.1 dX10_drawsSigns_1 (by decide) ?_
  refine mm_cVi X I hl (As := [.int 6]) (ci := 10) md_X10_draw mv_X10_draw ml_X10_314 rfl (kX10_draw (n := n)) (by decide) ⟨Nat.le_refl 0, Nat.le_refl 0⟩ rfl rfl (Nat.le_of_ble_eq_true rfl) dX10_drawsSigns_3 h (fun v1 M H locs I h => ?_)
  refine lv_iconst (v := 1) X.1 X.2.1 dX10_drawsSigns_6 (by decide) ?_
  refine lv_iadd X.1 X.2.1 dX10_drawsSigns_7 ?_
  refine lv_istore_n (lv' := [(1, .int (v1 + 1)), (0, .ref a0)]) X.1 X.2.1 dX10_drawsSigns_8 rfl hl (by decide) rfl (fun ls hl => ?_)
  refine lv_iconst (v := 0) X.1 X.2.1 dX10_drawsSigns_9 (by decide) ?_
  refine lv_istore_n (lv' := [(2, .int 0), (1, .int (v1 + 1)), (0, .ref a0)]) X.1 X.2.1 dX10_drawsSigns_10 rfl hl (by decide) rfl (fun ls hl => ?_)
  exact wpX10_drawsSigns_l11 X hr hlk n  n M _ _ _ _ _ _ I (lv_sub hl [2, 1, 0] rfl) h
set_option maxHeartbeats 4000000 in
set_option maxRecDepth 100000 in
theorem wpX10_drawWay_b143 {p : Program} {l : Launch} {e : Env} {s : State} {m : MethodId} {args : Array Value} {below : List Frame} {meth : Method} {c : Code} {D : va_G} {dA : Nat → ClassId} {lo : Nat} (X : mm_C D dA lo cX10_drawWay RX10 3 p s m args c) (hr : meth.sig.returnType = none) (hlk : meth.locks = false) (n : Nat) {o : mm_M}  : ∀ (M : mm_M) (a0 : Nat) (s0 : Int32) (s1 : Nat) (H : Heap) (locs : List Loc) (ls : Array Slot), mm_I D dA lo s M H locs → lv_has ls 3 [(0, .ref a0)] → pX10_drawWay_b143 n M a0 s0 s1 = some o → W p l e (mm_rm 12 289 0 0) s m args below meth c H locs 0 0 (MQ below (mm_Q D dA lo none o) args s 0 0 (mm_fr lo)) (F0 m 143 ls [.int s0, .ref s1]) := by
  intro M a0 s0 s1 H locs ls I hl h
  unfold pX10_drawWay_b143 at h
  refine lv_aload_n X.1 X.2.1 dX10_drawWay_143 rfl (lv_at hl 0 rfl) ?_
  refine lv_iconst (v := 3) X.1 X.2.1 dX10_drawWay_144 (by decide) ?_
  refine mm_cVi X I hl (As := [.int 3]) (ci := 10) md_X10_draw mv_X10_draw ml_X10_314 rfl (kX10_draw (n := n)) (by decide) ⟨Nat.le_refl 0, Nat.le_refl 0⟩ rfl rfl (Nat.le_of_ble_eq_true rfl) dX10_drawWay_145 h (fun v1 M H locs I h => ?_)
  refine lv_iconst (v := 0) X.1 X.2.1 dX10_drawWay_148 (by decide) ?_
  refine lv_iconst (v := 0) X.1 X.2.1 dX10_drawWay_149 (by decide) ?_
  refine mm_cVv X I hl (As := [.int s0, .int v1, .int 0, .int 0]) (ci := 10) md_X10_tryOne mv_X10_tryOne ml_X10_320 rfl (kX10_tryOne (n := n)) (by decide) ⟨Nat.le_refl 0, Nat.le_refl 0⟩ rfl rfl (Nat.le_of_ble_eq_true rfl) dX10_drawWay_150 h (fun M H locs I h => ?_)
  exact mm_xv X I hr hlk dX10_drawWay_153 h
set_option maxHeartbeats 4000000 in
set_option maxRecDepth 100000 in
theorem kX10_drawWay {l : Launch} {D : va_G} {dA : Nat → ClassId} {lo : Nat} {n : Nat} {M : mm_M} {a0 : Nat} (o : mm_M) (h : pX10_drawWay n M a0 = some o) : (∃ fs, M.2 a0 = some (mm_ob 10 fs)) ∧ mm_Met l D dA lo yX10_drawWay cX10_drawWay 3 none 12 289 0 0 [.ref a0] M none o := by
  unfold pX10_drawWay at h
  obtain ⟨hob, h⟩ := mm_v_some h
  refine ⟨hob, mm_enter (by decide) (Nat.le_of_ble_eq_true rfl) (fun p e s m args below meth c ls X hr hlk hnm I hl => ?_)⟩
  have X : mm_C D dA lo cX10_drawWay RX10 3 p s m args c := X
  have hl : lv_has ls 3 [(0, .ref a0)] := hl
  refine lv_aload_n X.1 X.2.1 dX10_drawWay_0 rfl (lv_at hl 0 rfl) ?_
  refine lv_bipush (v := 8) X.1 X.2.1 dX10_drawWay_1 (by decide) ?_
  refine mm_cVi X I hl (As := [.int 8]) (ci := 10) md_X10_draw mv_X10_draw ml_X10_314 rfl (kX10_draw (n := n)) (by decide) ⟨Nat.le_refl 0, Nat.le_refl 0⟩ rfl rfl (Nat.le_of_ble_eq_true rfl) dX10_drawWay_3 h (fun v1 M H locs I h => ?_)
  refine lv_istore_n (lv' := [(1, .int v1), (0, .ref a0)]) X.1 X.2.1 dX10_drawWay_6 rfl hl (by decide) rfl (fun ls hl => ?_)
  refine lv_iload_n X.1 X.2.1 dX10_drawWay_7 rfl (lv_at hl 0 rfl) ?_
  refine lv_iconst (v := 3) X.1 X.2.1 dX10_drawWay_8 (by decide) ?_
  refine mm_kge (tgt := 37) X dX10_drawWay_9 (by decide) h (fun h => ?_) (fun h => ?_)
  · refine lv_iload_n X.1 X.2.1 dX10_drawWay_37 rfl (lv_at hl 0 rfl) ?_
    refine lv_iconst (v := 3) X.1 X.2.1 dX10_drawWay_38 (by decide) ?_
    refine mm_kne (tgt := 69) X dX10_drawWay_39 (by decide) h (fun h => ?_) (fun h => ?_)
    · refine lv_iload_n X.1 X.2.1 dX10_drawWay_69 rfl (lv_at hl 0 rfl) ?_
      refine lv_iconst (v := 4) X.1 X.2.1 dX10_drawWay_70 (by decide) ?_
      refine mm_kne (tgt := 94) X dX10_drawWay_71 (by decide) h (fun h => ?_) (fun h => ?_)
      · refine lv_iload_n X.1 X.2.1 dX10_drawWay_94 rfl (lv_at hl 0 rfl) ?_
        refine lv_iconst (v := 5) X.1 X.2.1 dX10_drawWay_95 (by decide) ?_
        refine mm_kne (tgt := 130) X dX10_drawWay_96 (by decide) h (fun h => ?_) (fun h => ?_)
        · refine lv_aload_n X.1 X.2.1 dX10_drawWay_130 rfl (lv_at hl 1 rfl) ?_
          refine lv_iload_n X.1 X.2.1 dX10_drawWay_131 rfl (lv_at hl 0 rfl) ?_
          refine lv_bipush (v := 6) X.1 X.2.1 dX10_drawWay_132 (by decide) ?_
          refine mm_kne (tgt := 141) X dX10_drawWay_134 (by decide) h (fun h => ?_) (fun h => ?_)
          · refine lv_bipush (v := 6) X.1 X.2.1 dX10_drawWay_141 (by decide) ?_
            exact wpX10_drawWay_b143 X hr hlk n  M _ _ _ _ _ _ I (lv_sub hl [1] rfl) h
          · refine lv_iconst (v := 5) X.1 X.2.1 dX10_drawWay_137 (by decide) ?_
            refine lv_goto (tgt := 143) X.1 X.2.1 dX10_drawWay_138 (by decide) ?_
            exact wpX10_drawWay_b143 X hr hlk n  M _ _ _ _ _ _ I (lv_sub hl [1] rfl) h
        · refine lv_aload_n X.1 X.2.1 dX10_drawWay_99 rfl (lv_at hl 1 rfl) ?_
          refine lv_aload_n X.1 X.2.1 dX10_drawWay_100 rfl (lv_at hl 1 rfl) ?_
          refine mm_rgr X I fl_X10_28 dX10_drawWay_101 h (fun v2 h => ?_)
          refine lv_iconst (v := 0) X.1 X.2.1 dX10_drawWay_104 (by decide) ?_
          refine mm_ria X I dX10_drawWay_105 h (fun v3 h => ?_)
          refine mm_cVi X I hl (As := [.int v3]) (ci := 10) md_X10_draw mv_X10_draw ml_X10_314 rfl (kX10_draw (n := n)) (by decide) ⟨Nat.le_refl 0, Nat.le_refl 0⟩ rfl rfl (Nat.le_of_ble_eq_true rfl) dX10_drawWay_106 h (fun v4 M H locs I h => ?_)
          refine lv_istore_n (lv' := [(2, .int v4), (1, .int v1), (0, .ref a0)]) X.1 X.2.1 dX10_drawWay_109 rfl hl (by decide) rfl (fun ls hl => ?_)
          refine lv_aload_n X.1 X.2.1 dX10_drawWay_110 rfl (lv_at hl 2 rfl) ?_
          refine lv_iconst (v := 3) X.1 X.2.1 dX10_drawWay_111 (by decide) ?_
          refine lv_iload_n X.1 X.2.1 dX10_drawWay_112 rfl (lv_at hl 0 rfl) ?_
          refine lv_aload_n X.1 X.2.1 dX10_drawWay_113 rfl (lv_at hl 2 rfl) ?_
          refine lv_aload_n X.1 X.2.1 dX10_drawWay_114 rfl (lv_at hl 2 rfl) ?_
          refine mm_rgr X I fl_X10_28 dX10_drawWay_115 h (fun v5 h => ?_)
          refine lv_iconst (v := 0) X.1 X.2.1 dX10_drawWay_118 (by decide) ?_
          refine mm_ria X I dX10_drawWay_119 h (fun v6 h => ?_)
          refine mm_cVi X I hl (As := [.int v6]) (ci := 10) md_X10_draw mv_X10_draw ml_X10_314 rfl (kX10_draw (n := n)) (by decide) ⟨Nat.le_refl 0, Nat.le_refl 0⟩ rfl rfl (Nat.le_of_ble_eq_true rfl) dX10_drawWay_120 h (fun v7 M H locs I h => ?_)
          refine lv_iconst (v := 0) X.1 X.2.1 dX10_drawWay_123 (by decide) ?_
          refine mm_cVv X I hl (As := [.int 3, .int v4, .int v7, .int 0]) (ci := 10) md_X10_tryOne mv_X10_tryOne ml_X10_320 rfl (kX10_tryOne (n := n)) (by decide) ⟨Nat.le_refl 0, Nat.le_refl 0⟩ rfl rfl (Nat.le_of_ble_eq_true rfl) dX10_drawWay_124 h (fun M H locs I h => ?_)
          refine lv_goto (tgt := 153) X.1 X.2.1 dX10_drawWay_127 (by decide) ?_
          exact mm_xv X I hr hlk dX10_drawWay_153 h
      · refine lv_aload_n X.1 X.2.1 dX10_drawWay_74 rfl (lv_at hl 1 rfl) ?_
        refine lv_iconst (v := 2) X.1 X.2.1 dX10_drawWay_75 (by decide) ?_
        refine lv_aload_n X.1 X.2.1 dX10_drawWay_76 rfl (lv_at hl 1 rfl) ?_
        refine lv_aload_n X.1 X.2.1 dX10_drawWay_77 rfl (lv_at hl 1 rfl) ?_
        refine mm_rgr X I fl_X10_28 dX10_drawWay_78 h (fun v9 h => ?_)
        refine lv_iconst (v := 0) X.1 X.2.1 dX10_drawWay_81 (by decide) ?_
        refine mm_ria X I dX10_drawWay_82 h (fun v10 h => ?_)
        refine mm_cVi X I hl (As := [.int v10]) (ci := 10) md_X10_draw mv_X10_draw ml_X10_314 rfl (kX10_draw (n := n)) (by decide) ⟨Nat.le_refl 0, Nat.le_refl 0⟩ rfl rfl (Nat.le_of_ble_eq_true rfl) dX10_drawWay_83 h (fun v11 M H locs I h => ?_)
        refine lv_iconst (v := 0) X.1 X.2.1 dX10_drawWay_86 (by decide) ?_
        refine lv_iconst (v := 0) X.1 X.2.1 dX10_drawWay_87 (by decide) ?_
        refine mm_cVv X I hl (As := [.int 2, .int v11, .int 0, .int 0]) (ci := 10) md_X10_tryOne mv_X10_tryOne ml_X10_320 rfl (kX10_tryOne (n := n)) (by decide) ⟨Nat.le_refl 0, Nat.le_refl 0⟩ rfl rfl (Nat.le_of_ble_eq_true rfl) dX10_drawWay_88 h (fun M H locs I h => ?_)
        refine lv_goto (tgt := 153) X.1 X.2.1 dX10_drawWay_91 (by decide) ?_
        exact mm_xv X I hr hlk dX10_drawWay_153 h
    · refine lv_aload_n X.1 X.2.1 dX10_drawWay_42 rfl (lv_at hl 1 rfl) ?_
      refine lv_aload_n X.1 X.2.1 dX10_drawWay_43 rfl (lv_at hl 1 rfl) ?_
      refine mm_rgr X I fl_X10_28 dX10_drawWay_44 h (fun v13 h => ?_)
      refine lv_iconst (v := 0) X.1 X.2.1 dX10_drawWay_47 (by decide) ?_
      refine mm_ria X I dX10_drawWay_48 h (fun v14 h => ?_)
      refine lv_iconst (v := 1) X.1 X.2.1 dX10_drawWay_49 (by decide) ?_
      refine lv_iadd X.1 X.2.1 dX10_drawWay_50 ?_
      refine mm_cVi X I hl (As := [.int (v14 + 1)]) (ci := 10) md_X10_draw mv_X10_draw ml_X10_314 rfl (kX10_draw (n := n)) (by decide) ⟨Nat.le_refl 0, Nat.le_refl 0⟩ rfl rfl (Nat.le_of_ble_eq_true rfl) dX10_drawWay_51 h (fun v15 M H locs I h => ?_)
      refine lv_istore_n (lv' := [(2, .int v15), (1, .int v1), (0, .ref a0)]) X.1 X.2.1 dX10_drawWay_54 rfl hl (by decide) rfl (fun ls hl => ?_)
      refine lv_aload_n X.1 X.2.1 dX10_drawWay_55 rfl (lv_at hl 2 rfl) ?_
      refine lv_iconst (v := 1) X.1 X.2.1 dX10_drawWay_56 (by decide) ?_
      refine lv_iload_n X.1 X.2.1 dX10_drawWay_57 rfl (lv_at hl 0 rfl) ?_
      refine lv_iconst (v := 0) X.1 X.2.1 dX10_drawWay_58 (by decide) ?_
      refine lv_aload_n X.1 X.2.1 dX10_drawWay_59 rfl (lv_at hl 2 rfl) ?_
      refine mm_cVi X I hl (As := []) (ci := 10) md_X10_drawsSigns mv_X10_drawsSigns ml_X10_317 rfl (kX10_drawsSigns (n := n)) (by decide) ⟨Nat.le_refl 0, Nat.le_refl 0⟩ rfl rfl (Nat.le_of_ble_eq_true rfl) dX10_drawWay_60 h (fun v16 M H locs I h => ?_)
      refine mm_cVv X I hl (As := [.int 1, .int v15, .int 0, .int v16]) (ci := 10) md_X10_tryOne mv_X10_tryOne ml_X10_320 rfl (kX10_tryOne (n := n)) (by decide) ⟨Nat.le_refl 0, Nat.le_refl 0⟩ rfl rfl (Nat.le_of_ble_eq_true rfl) dX10_drawWay_63 h (fun M H locs I h => ?_)
      refine lv_goto (tgt := 153) X.1 X.2.1 dX10_drawWay_66 (by decide) ?_
      exact mm_xv X I hr hlk dX10_drawWay_153 h
  · refine lv_aload_n X.1 X.2.1 dX10_drawWay_12 rfl (lv_at hl 1 rfl) ?_
    refine lv_aload_n X.1 X.2.1 dX10_drawWay_13 rfl (lv_at hl 1 rfl) ?_
    refine mm_rgr X I fl_X10_28 dX10_drawWay_14 h (fun v18 h => ?_)
    refine lv_iconst (v := 0) X.1 X.2.1 dX10_drawWay_17 (by decide) ?_
    refine mm_ria X I dX10_drawWay_18 h (fun v19 h => ?_)
    refine mm_cVi X I hl (As := [.int v19]) (ci := 10) md_X10_draw mv_X10_draw ml_X10_314 rfl (kX10_draw (n := n)) (by decide) ⟨Nat.le_refl 0, Nat.le_refl 0⟩ rfl rfl (Nat.le_of_ble_eq_true rfl) dX10_drawWay_19 h (fun v20 M H locs I h => ?_)
    refine lv_istore_n (lv' := [(2, .int v20), (1, .int v1), (0, .ref a0)]) X.1 X.2.1 dX10_drawWay_22 rfl hl (by decide) rfl (fun ls hl => ?_)
    refine lv_aload_n X.1 X.2.1 dX10_drawWay_23 rfl (lv_at hl 2 rfl) ?_
    refine lv_iconst (v := 0) X.1 X.2.1 dX10_drawWay_24 (by decide) ?_
    refine lv_iload_n X.1 X.2.1 dX10_drawWay_25 rfl (lv_at hl 0 rfl) ?_
    refine lv_iconst (v := 0) X.1 X.2.1 dX10_drawWay_26 (by decide) ?_
    refine lv_aload_n X.1 X.2.1 dX10_drawWay_27 rfl (lv_at hl 2 rfl) ?_
    refine mm_cVi X I hl (As := []) (ci := 10) md_X10_drawsSigns mv_X10_drawsSigns ml_X10_317 rfl (kX10_drawsSigns (n := n)) (by decide) ⟨Nat.le_refl 0, Nat.le_refl 0⟩ rfl rfl (Nat.le_of_ble_eq_true rfl) dX10_drawWay_28 h (fun v21 M H locs I h => ?_)
    refine mm_cVv X I hl (As := [.int 0, .int v20, .int 0, .int v21]) (ci := 10) md_X10_tryOne mv_X10_tryOne ml_X10_320 rfl (kX10_tryOne (n := n)) (by decide) ⟨Nat.le_refl 0, Nat.le_refl 0⟩ rfl rfl (Nat.le_of_ble_eq_true rfl) dX10_drawWay_31 h (fun M H locs I h => ?_)
    refine lv_goto (tgt := 153) X.1 X.2.1 dX10_drawWay_34 (by decide) ?_
    exact mm_xv X I hr hlk dX10_drawWay_153 h
set_option maxHeartbeats 4000000 in
set_option maxRecDepth 100000 in
theorem wpX10_ways_l27 {p : Program} {l : Launch} {e : Env} {s : State} {m : MethodId} {args : Array Value} {below : List Frame} {meth : Method} {c : Code} {D : va_G} {dA : Nat → ClassId} {lo : Nat} (X : mm_C D dA lo cX10_ways RX10 5 p s m args c) (hr : meth.sig.returnType = (some .int)) (hlk : meth.locks = false) (n : Nat) {o : Int32 × mm_M} (k : Nat) : ∀ (M : mm_M) (a0 : Nat) (x1 : Int32) (x4 : Int32) (H : Heap) (locs : List Loc) (ls : Array Slot), mm_I D dA lo s M H locs → lv_has ls 5 [(0, .ref a0), (1, .int x1), (4, .int x4)] → pX10_ways_l27 n k M a0 x1 x4 = some o → W p l e (mm_rm 13 311 0 0) s m args below meth c H locs 0 0 (MQ below (mm_Q D dA lo (some (.int o.1)) o.2) args s 0 0 (mm_fr lo)) (F0 m 27 ls []) := by
  induction k with
  | zero =>
    intro M a0 x1 x4 H locs ls I hl h
    have h : (none : Option (Int32 × mm_M)) = some o := h
    cases h
  | succ k ih =>
    intro M a0 x1 x4 H locs ls I hl h
    have h : pX10_ways_l27b n (pX10_ways_l27 n k) M a0 x1 x4 = some o := h
    unfold pX10_ways_l27b at h
    refine lv_iload X.1 X.2.1 dX10_ways_27 (lv_at hl 2 rfl) ?_
    refine lv_iload_n X.1 X.2.1 dX10_ways_29 rfl (lv_at hl 1 rfl) ?_
    refine mm_kge (tgt := 43) X dX10_ways_30 (by decide) h (fun h => ?_) (fun h => ?_)
    · refine lv_aload_n X.1 X.2.1 dX10_ways_43 rfl (lv_at hl 0 rfl) ?_
      refine mm_cVi X I hl (As := []) (ci := 10) md_X10_allSigns mv_X10_allSigns ml_X10_277 rfl (kX10_allSigns (n := n)) (by decide) ⟨Nat.le_refl 0, Nat.le_refl 0⟩ rfl rfl (Nat.le_of_ble_eq_true rfl) dX10_ways_44 h (fun v1 M H locs I h => ?_)
      exact mm_xi X I hr hlk dX10_ways_47 h
    · refine lv_aload_n X.1 X.2.1 dX10_ways_33 rfl (lv_at hl 0 rfl) ?_
      refine mm_cVv X I hl (As := []) (ci := 10) md_X10_drawWay mv_X10_drawWay ml_X10_324 rfl (kX10_drawWay (n := n)) (by decide) ⟨Nat.le_refl 0, Nat.le_refl 0⟩ rfl rfl (Nat.le_of_ble_eq_true rfl) dX10_ways_34 h (fun M H locs I h => ?_)
      refine lv_iinc (v := (x4 + 1)) (lv' := [(4, .int (x4 + 1)), (0, .ref a0), (1, .int x1)]) X.1 X.2.1 dX10_ways_37 hl (k := 2) rfl rfl (by decide) rfl (fun ls hl => ?_)
      refine lv_goto (tgt := 27) X.1 X.2.1 dX10_ways_40 (by decide) ?_
      exact ih M _ _ _ _ _ _ I (lv_sub hl [1, 2, 0] rfl) h
set_option maxHeartbeats 4000000 in
set_option maxRecDepth 100000 in
theorem kX10_ways {l : Launch} {D : va_G} {dA : Nat → ClassId} {lo : Nat} {n : Nat} {M : mm_M} {a0 : Nat} {x1 : Int32} {l2 : Int64} (o : Int32 × mm_M) (h : pX10_ways n M a0 x1 l2 = some o) : (∃ fs, M.2 a0 = some (mm_ob 10 fs)) ∧ mm_Met l D dA lo yX10_ways cX10_ways 5 (some .int) 13 311 0 0 [.ref a0, .int x1, .long l2] M (some (.int o.1)) o.2 := by
  unfold pX10_ways at h
  obtain ⟨hob, h⟩ := mm_v_some h
  refine ⟨hob, mm_enter (by decide) (Nat.le_of_ble_eq_true rfl) (fun p e s m args below meth c ls X hr hlk hnm I hl => ?_)⟩
  have X : mm_C D dA lo cX10_ways RX10 5 p s m args c := X
  have hl : lv_has ls 5 [(0, .ref a0), (1, .int x1), (2, .long l2)] := hl
  refine lv_aload_n X.1 X.2.1 dX10_ways_0 rfl (lv_at hl 0 rfl) ?_
  refine mm_cVi X I hl (As := []) (ci := 10) md_X10_isStore mv_X10_isStore ml_X10_139 rfl (kX10_isStore (n := n)) (by decide) ⟨Nat.le_refl 0, Nat.le_refl 0⟩ rfl rfl (Nat.le_of_ble_eq_true rfl) dX10_ways_1 h (fun v1 M H locs I h => ?_)
  refine mm_jeq (tgt := 17) X dX10_ways_4 (by decide) h (fun h => ?_) (fun h => ?_)
  · refine lv_iconst (v := (-1)) X.1 X.2.1 dX10_ways_17 (by decide) ?_
    exact mm_xi X I hr hlk dX10_ways_18 h
  · refine lv_iload_n X.1 X.2.1 dX10_ways_7 rfl (lv_at hl 1 rfl) ?_
    refine lv_iconst (v := 1) X.1 X.2.1 dX10_ways_8 (by decide) ?_
    refine lv_bipush (v := 40) X.1 X.2.1 dX10_ways_9 (by decide) ?_
    refine mm_cSi X I hl (As := [.int x1, .int 1, .int 40]) md_X10_in mv_X10_in ml_X10_69 (kX10_in (n := n)) (by decide) ⟨Nat.le_refl 0, Nat.le_refl 0⟩ rfl rfl (Nat.le_of_ble_eq_true rfl) dX10_ways_11 h (fun v2 M H locs I h => ?_)
    refine mm_jne (tgt := 19) X dX10_ways_14 (by decide) h (fun h => ?_) (fun h => ?_)
    · refine lv_aload_n X.1 X.2.1 dX10_ways_19 rfl (lv_at hl 0 rfl) ?_
      refine lv_lload_n X.1 X.2.1 dX10_ways_20 rfl (lv_at hl 2 rfl) ?_
      refine mm_rpl X I fl_X10_306 dX10_ways_21 h (fun M H locs I h => ?_)
      refine lv_iconst (v := 0) X.1 X.2.1 dX10_ways_24 (by decide) ?_
      refine lv_istore (lv' := [(4, .int 0), (0, .ref a0), (1, .int x1), (2, .long l2)]) X.1 X.2.1 dX10_ways_25 hl (by decide) rfl (fun ls hl => ?_)
      exact wpX10_ways_l27 X hr hlk n  n M _ _ _ _ _ _ I (lv_sub hl [1, 2, 0] rfl) h
    · refine lv_iconst (v := (-1)) X.1 X.2.1 dX10_ways_17 (by decide) ?_
      exact mm_xi X I hr hlk dX10_ways_18 h
set_option maxHeartbeats 4000000 in
set_option maxRecDepth 100000 in
theorem kX10_status {l : Launch} {D : va_G} {dA : Nat → ClassId} {lo : Nat} {n : Nat} {M : mm_M} {a0 : Nat} {x1 : Int32} (o : Int32 × mm_M) (h : pX10_status n M a0 x1 = some o) : (∃ fs, M.2 a0 = some (mm_ob 10 fs)) ∧ mm_Met l D dA lo yX10_status cX10_status 2 (some .int) 1 22 0 0 [.ref a0, .int x1] M (some (.int o.1)) o.2 := by
  unfold pX10_status at h
  obtain ⟨hob, h⟩ := mm_v_some h
  refine ⟨hob, mm_enter (by decide) (Nat.le_of_ble_eq_true rfl) (fun p e s m args below meth c ls X hr hlk hnm I hl => ?_)⟩
  have X : mm_C D dA lo cX10_status RX10 2 p s m args c := X
  have hl : lv_has ls 2 [(0, .ref a0), (1, .int x1)] := hl
  refine lv_iload_n X.1 X.2.1 dX10_status_0 rfl (lv_at hl 1 rfl) ?_
  refine lv_iconst (v := 0) X.1 X.2.1 dX10_status_1 (by decide) ?_
  refine lv_iconst (v := 3) X.1 X.2.1 dX10_status_2 (by decide) ?_
  refine mm_cSi X I hl (As := [.int x1, .int 0, .int 3]) md_X10_in mv_X10_in ml_X10_69 (kX10_in (n := n)) (by decide) ⟨Nat.le_refl 0, Nat.le_refl 0⟩ rfl rfl (Nat.le_of_ble_eq_true rfl) dX10_status_3 h (fun v1 M H locs I h => ?_)
  refine mm_jeq (tgt := 18) X dX10_status_6 (by decide) h (fun h => ?_) (fun h => ?_)
  · refine lv_iconst (v := (-1)) X.1 X.2.1 dX10_status_18 (by decide) ?_
    exact mm_xi X I hr hlk dX10_status_19 h
  · refine lv_aload_n X.1 X.2.1 dX10_status_9 rfl (lv_at hl 0 rfl) ?_
    refine mm_rgr X I fl_X10_31 dX10_status_10 h (fun v2 h => ?_)
    refine lv_iload_n X.1 X.2.1 dX10_status_13 rfl (lv_at hl 1 rfl) ?_
    refine mm_ria X I dX10_status_14 h (fun v3 h => ?_)
    refine lv_goto (tgt := 19) X.1 X.2.1 dX10_status_15 (by decide) ?_
    exact mm_xi X I hr hlk dX10_status_19 h
set_option maxHeartbeats 4000000 in
set_option maxRecDepth 100000 in
theorem wpX10_undo_l21 {p : Program} {l : Launch} {e : Env} {s : State} {m : MethodId} {args : Array Value} {below : List Frame} {meth : Method} {c : Code} {D : va_G} {dA : Nat → ClassId} {lo : Nat} (X : mm_C D dA lo cX10_undo RX10 2 p s m args c) (hr : meth.sig.returnType = (some .int)) (hlk : meth.locks = false) (n : Nat) {o : Int32 × mm_M} (k : Nat) : ∀ (M : mm_M) (a0 : Nat) (x1 : Int32) (H : Heap) (locs : List Loc) (ls : Array Slot), mm_I D dA lo s M H locs → lv_has ls 2 [(0, .ref a0), (1, .int x1)] → pX10_undo_l21 n k M a0 x1 = some o → W p l e (mm_rm 0 0 0 0) s m args below meth c H locs 0 0 (MQ below (mm_Q D dA lo (some (.int o.1)) o.2) args s 0 0 (mm_fr lo)) (F0 m 21 ls []) := by
  induction k with
  | zero =>
    intro M a0 x1 H locs ls I hl h
    have h : (none : Option (Int32 × mm_M)) = some o := h
    cases h
  | succ k ih =>
    intro M a0 x1 H locs ls I hl h
    have h : pX10_undo_l21b n (pX10_undo_l21 n k) M a0 x1 = some o := h
    unfold pX10_undo_l21b at h
    refine lv_iload_n X.1 X.2.1 dX10_undo_21 rfl (lv_at hl 1 rfl) ?_
    refine lv_sipush (v := 622) X.1 X.2.1 dX10_undo_22 (by decide) ?_
    refine mm_kge (tgt := 55) X dX10_undo_25 (by decide) h (fun h => ?_) (fun h => ?_)
    · refine lv_aload_n X.1 X.2.1 dX10_undo_55 rfl (lv_at hl 0 rfl) ?_
      refine mm_rgi X I fl_X10_153 dX10_undo_56 h (fun v1 h => ?_)
      exact mm_xi X I hr hlk dX10_undo_59 h
    · refine lv_aload_n X.1 X.2.1 dX10_undo_28 rfl (lv_at hl 0 rfl) ?_
      refine mm_rgr X I fl_X10_28 dX10_undo_29 h (fun v2 h => ?_)
      refine lv_iload_n X.1 X.2.1 dX10_undo_32 rfl (lv_at hl 1 rfl) ?_
      refine lv_aload_n X.1 X.2.1 dX10_undo_33 rfl (lv_at hl 0 rfl) ?_
      refine mm_rgr X I fl_X10_43 dX10_undo_34 h (fun v3 h => ?_)
      refine lv_sipush (v := 622) X.1 X.2.1 dX10_undo_37 (by decide) ?_
      refine lv_aload_n X.1 X.2.1 dX10_undo_40 rfl (lv_at hl 0 rfl) ?_
      refine mm_rgi X I fl_X10_153 dX10_undo_41 h (fun v4 h => ?_)
      refine lv_imul X.1 X.2.1 dX10_undo_44 ?_
      refine lv_iload_n X.1 X.2.1 dX10_undo_45 rfl (lv_at hl 1 rfl) ?_
      refine lv_iadd X.1 X.2.1 dX10_undo_46 ?_
      refine mm_ria X I dX10_undo_47 h (fun v5 h => ?_)
      refine mm_ris X I dX10_undo_48 h (fun M H locs I h => ?_)
      refine lv_iinc (v := (x1 + 1)) (lv' := [(1, .int (x1 + 1)), (0, .ref a0)]) X.1 X.2.1 dX10_undo_49 hl (k := 1) rfl rfl (by decide) rfl (fun ls hl => ?_)
      refine lv_goto (tgt := 21) X.1 X.2.1 dX10_undo_52 (by decide) ?_
      exact ih M _ _ _ _ _ I (lv_sub hl [1, 0] rfl) h
set_option maxHeartbeats 4000000 in
set_option maxRecDepth 100000 in
theorem kX10_undo {l : Launch} {D : va_G} {dA : Nat → ClassId} {lo : Nat} {n : Nat} {M : mm_M} {a0 : Nat} (o : Int32 × mm_M) (h : pX10_undo n M a0 = some o) : (∃ fs, M.2 a0 = some (mm_ob 10 fs)) ∧ mm_Met l D dA lo yX10_undo cX10_undo 2 (some .int) 0 0 0 0 [.ref a0] M (some (.int o.1)) o.2 := by
  unfold pX10_undo at h
  obtain ⟨hob, h⟩ := mm_v_some h
  refine ⟨hob, mm_enter (by decide) (Nat.le_of_ble_eq_true rfl) (fun p e s m args below meth c ls X hr hlk hnm I hl => ?_)⟩
  have X : mm_C D dA lo cX10_undo RX10 2 p s m args c := X
  have hl : lv_has ls 2 [(0, .ref a0)] := hl
  refine lv_aload_n X.1 X.2.1 dX10_undo_0 rfl (lv_at hl 0 rfl) ?_
  refine mm_rgi X I fl_X10_153 dX10_undo_1 h (fun v1 h => ?_)
  refine mm_jne (tgt := 9) X dX10_undo_4 (by decide) h (fun h => ?_) (fun h => ?_)
  · refine lv_aload_n X.1 X.2.1 dX10_undo_9 rfl (lv_at hl 0 rfl) ?_
    refine lv_dup X.1 X.2.1 dX10_undo_10 rfl ?_
    refine mm_rgi X I fl_X10_153 dX10_undo_11 h (fun v2 h => ?_)
    refine lv_iconst (v := 1) X.1 X.2.1 dX10_undo_14 (by decide) ?_
    refine lv_isub X.1 X.2.1 dX10_undo_15 ?_
    refine mm_rpi X I fl_X10_153 dX10_undo_16 h (fun M H locs I h => ?_)
    refine lv_iconst (v := 0) X.1 X.2.1 dX10_undo_19 (by decide) ?_
    refine lv_istore_n (lv' := [(1, .int 0), (0, .ref a0)]) X.1 X.2.1 dX10_undo_20 rfl hl (by decide) rfl (fun ls hl => ?_)
    exact wpX10_undo_l21 X hr hlk n  n M _ _ _ _ _ I (lv_sub hl [1, 0] rfl) h
  · refine lv_iconst (v := (-1)) X.1 X.2.1 dX10_undo_7 (by decide) ?_
    exact mm_xi X I hr hlk dX10_undo_8 h
set_option maxHeartbeats 4000000 in
set_option maxRecDepth 100000 in
theorem kX10_log {l : Launch} {D : va_G} {dA : Nat → ClassId} {lo : Nat} {n : Nat} {M : mm_M} {a0 : Nat} {x1 : Int32} {x2 : Int32} (o : Int32 × mm_M) (h : pX10_log n M a0 x1 x2 = some o) : (∃ fs, M.2 a0 = some (mm_ob 10 fs)) ∧ mm_Met l D dA lo yX10_log cX10_log 3 (some .int) 1 22 0 0 [.ref a0, .int x1, .int x2] M (some (.int o.1)) o.2 := by
  unfold pX10_log at h
  obtain ⟨hob, h⟩ := mm_v_some h
  refine ⟨hob, mm_enter (by decide) (Nat.le_of_ble_eq_true rfl) (fun p e s m args below meth c ls X hr hlk hnm I hl => ?_)⟩
  have X : mm_C D dA lo cX10_log RX10 3 p s m args c := X
  have hl : lv_has ls 3 [(0, .ref a0), (1, .int x1), (2, .int x2)] := hl
  refine lv_iload_n X.1 X.2.1 dX10_log_0 rfl (lv_at hl 1 rfl) ?_
  refine lv_iconst (v := 0) X.1 X.2.1 dX10_log_1 (by decide) ?_
  refine lv_aload_n X.1 X.2.1 dX10_log_2 rfl (lv_at hl 0 rfl) ?_
  refine mm_rgr X I fl_X10_28 dX10_log_3 h (fun v1 h => ?_)
  refine lv_sipush (v := 441) X.1 X.2.1 dX10_log_6 (by decide) ?_
  refine mm_ria X I dX10_log_9 h (fun v2 h => ?_)
  refine lv_iconst (v := 1) X.1 X.2.1 dX10_log_10 (by decide) ?_
  refine lv_isub X.1 X.2.1 dX10_log_11 ?_
  refine mm_cSi X I hl (As := [.int x1, .int 0, .int (v2 - 1)]) md_X10_in mv_X10_in ml_X10_69 (kX10_in (n := n)) (by decide) ⟨Nat.le_refl 0, Nat.le_refl 0⟩ rfl rfl (Nat.le_of_ble_eq_true rfl) dX10_log_12 h (fun v3 M H locs I h => ?_)
  refine mm_jeq (tgt := 55) X dX10_log_15 (by decide) h (fun h => ?_) (fun h => ?_)
  · refine lv_ldc (v := (-1000000)) X.1 X.2.1 X.2.2.2.1 (X.2.2.2.2.1 _ cn_X10_109) dX10_log_55 ?_
    exact mm_xi X I hr hlk dX10_log_57 h
  · refine lv_iload_n X.1 X.2.1 dX10_log_18 rfl (lv_at hl 2 rfl) ?_
    refine lv_iconst (v := 0) X.1 X.2.1 dX10_log_19 (by decide) ?_
    refine lv_iconst (v := 2) X.1 X.2.1 dX10_log_20 (by decide) ?_
    refine mm_cSi X I hl (As := [.int x2, .int 0, .int 2]) md_X10_in mv_X10_in ml_X10_69 (kX10_in (n := n)) (by decide) ⟨Nat.le_refl 0, Nat.le_refl 0⟩ rfl rfl (Nat.le_of_ble_eq_true rfl) dX10_log_21 h (fun v4 M H locs I h => ?_)
    refine mm_jeq (tgt := 55) X dX10_log_24 (by decide) h (fun h => ?_) (fun h => ?_)
    · refine lv_ldc (v := (-1000000)) X.1 X.2.1 X.2.2.2.1 (X.2.2.2.2.1 _ cn_X10_109) dX10_log_55 ?_
      exact mm_xi X I hr hlk dX10_log_57 h
    · refine lv_aload_n X.1 X.2.1 dX10_log_27 rfl (lv_at hl 0 rfl) ?_
      refine mm_rgr X I fl_X10_28 dX10_log_28 h (fun v5 h => ?_)
      refine lv_sipush (v := 442) X.1 X.2.1 dX10_log_31 (by decide) ?_
      refine lv_iconst (v := 3) X.1 X.2.1 dX10_log_34 (by decide) ?_
      refine lv_aload_n X.1 X.2.1 dX10_log_35 rfl (lv_at hl 0 rfl) ?_
      refine mm_rgr X I fl_X10_28 dX10_log_36 h (fun v6 h => ?_)
      refine lv_sipush (v := 441) X.1 X.2.1 dX10_log_39 (by decide) ?_
      refine mm_ria X I dX10_log_42 h (fun v7 h => ?_)
      refine lv_iconst (v := 1) X.1 X.2.1 dX10_log_43 (by decide) ?_
      refine lv_isub X.1 X.2.1 dX10_log_44 ?_
      refine lv_iload_n X.1 X.2.1 dX10_log_45 rfl (lv_at hl 1 rfl) ?_
      refine lv_isub X.1 X.2.1 dX10_log_46 ?_
      refine lv_imul X.1 X.2.1 dX10_log_47 ?_
      refine lv_iadd X.1 X.2.1 dX10_log_48 ?_
      refine lv_iload_n X.1 X.2.1 dX10_log_49 rfl (lv_at hl 2 rfl) ?_
      refine lv_iadd X.1 X.2.1 dX10_log_50 ?_
      refine mm_ria X I dX10_log_51 h (fun v8 h => ?_)
      refine lv_goto (tgt := 57) X.1 X.2.1 dX10_log_52 (by decide) ?_
      exact mm_xi X I hr hlk dX10_log_57 h
set_option maxHeartbeats 4000000 in
set_option maxRecDepth 100000 in
theorem kX10_rule {l : Launch} {D : va_G} {dA : Nat → ClassId} {lo : Nat} {n : Nat} {M : mm_M} {a0 : Nat} {x1 : Int32} (o : Int32 × mm_M) (h : pX10_rule n M a0 x1 = some o) : (∃ fs, M.2 a0 = some (mm_ob 10 fs)) ∧ mm_Met l D dA lo yX10_rule cX10_rule 2 (some .int) 7 159 0 0 [.ref a0, .int x1] M (some (.int o.1)) o.2 := by
  unfold pX10_rule at h
  obtain ⟨hob, h⟩ := mm_v_some h
  refine ⟨hob, mm_enter (by decide) (Nat.le_of_ble_eq_true rfl) (fun p e s m args below meth c ls X hr hlk hnm I hl => ?_)⟩
  have X : mm_C D dA lo cX10_rule RX10 2 p s m args c := X
  have hl : lv_has ls 2 [(0, .ref a0), (1, .int x1)] := hl
  refine lv_aload_n X.1 X.2.1 dX10_rule_0 rfl (lv_at hl 0 rfl) ?_
  refine mm_cVi X I hl (As := []) (ci := 10) md_X10_isStore mv_X10_isStore ml_X10_139 rfl (kX10_isStore (n := n)) (by decide) ⟨Nat.le_refl 0, Nat.le_refl 0⟩ rfl rfl (Nat.le_of_ble_eq_true rfl) dX10_rule_1 h (fun v1 M H locs I h => ?_)
  refine mm_jeq (tgt := 16) X dX10_rule_4 (by decide) h (fun h => ?_) (fun h => ?_)
  · refine lv_iconst (v := (-1)) X.1 X.2.1 dX10_rule_16 (by decide) ?_
    exact mm_xi X I hr hlk dX10_rule_17 h
  · refine lv_iload_n X.1 X.2.1 dX10_rule_7 rfl (lv_at hl 1 rfl) ?_
    refine lv_iconst (v := 0) X.1 X.2.1 dX10_rule_8 (by decide) ?_
    refine lv_iconst (v := 3) X.1 X.2.1 dX10_rule_9 (by decide) ?_
    refine mm_cSi X I hl (As := [.int x1, .int 0, .int 3]) md_X10_in mv_X10_in ml_X10_69 (kX10_in (n := n)) (by decide) ⟨Nat.le_refl 0, Nat.le_refl 0⟩ rfl rfl (Nat.le_of_ble_eq_true rfl) dX10_rule_10 h (fun v2 M H locs I h => ?_)
    refine mm_jne (tgt := 18) X dX10_rule_13 (by decide) h (fun h => ?_) (fun h => ?_)
    · refine lv_iload_n X.1 X.2.1 dX10_rule_18 rfl (lv_at hl 1 rfl) ?_
      by_cases z3_0 : x1 = 0
      · have h := mm_t z3_0 h
        refine lv_tableIn (tgt := 44) (off := 25) X.1 X.2.1 dX10_rule_19 (by rw [z3_0]; decide) (by rw [z3_0]; decide) (by rw [z3_0]; rfl) (by decide) ?_
        refine lv_aload_n X.1 X.2.1 dX10_rule_44 rfl (lv_at hl 0 rfl) ?_
        refine mm_rgr X I fl_X10_28 dX10_rule_45 h (fun v4 h => ?_)
        refine lv_iconst (v := 0) X.1 X.2.1 dX10_rule_48 (by decide) ?_
        refine mm_ria X I dX10_rule_49 h (fun v5 h => ?_)
        exact mm_xi X I hr hlk dX10_rule_50 h
      · have h := mm_f z3_0 h
        by_cases z3_1 : x1 = 1
        · have h := mm_t z3_1 h
          refine lv_tableIn (tgt := 51) (off := 32) X.1 X.2.1 dX10_rule_19 (by rw [z3_1]; decide) (by rw [z3_1]; decide) (by rw [z3_1]; rfl) (by decide) ?_
          refine lv_aload_n X.1 X.2.1 dX10_rule_51 rfl (lv_at hl 0 rfl) ?_
          refine mm_cVi X I hl (As := []) (ci := 10) md_X10_allSigns mv_X10_allSigns ml_X10_277 rfl (kX10_allSigns (n := n)) (by decide) ⟨Nat.le_refl 0, Nat.le_refl 0⟩ rfl rfl (Nat.le_of_ble_eq_true rfl) dX10_rule_52 h (fun v6 M H locs I h => ?_)
          exact mm_xi X I hr hlk dX10_rule_55 h
        · have h := mm_f z3_1 h
          by_cases z3_2 : x1 = 2
          · have h := mm_t z3_2 h
            refine lv_tableIn (tgt := 56) (off := 37) X.1 X.2.1 dX10_rule_19 (by rw [z3_2]; decide) (by rw [z3_2]; decide) (by rw [z3_2]; rfl) (by decide) ?_
            refine lv_aload_n X.1 X.2.1 dX10_rule_56 rfl (lv_at hl 0 rfl) ?_
            refine mm_cVi X I hl (As := []) (ci := 10) md_X10_laysWord mv_X10_laysWord ml_X10_327 rfl (kX10_laysWord (n := n)) (by decide) ⟨Nat.le_refl 0, Nat.le_refl 0⟩ rfl rfl (Nat.le_of_ble_eq_true rfl) dX10_rule_57 h (fun v7 M H locs I h => ?_)
            refine mm_jeq (tgt := 70) X dX10_rule_60 (by decide) h (fun h => ?_) (fun h => ?_)
            · refine lv_iconst (v := 0) X.1 X.2.1 dX10_rule_70 (by decide) ?_
              exact mm_xi X I hr hlk dX10_rule_71 h
            · refine lv_aload_n X.1 X.2.1 dX10_rule_63 rfl (lv_at hl 0 rfl) ?_
              refine mm_rgi X I fl_X10_170 dX10_rule_64 h (fun v8 h => ?_)
              refine lv_goto (tgt := 71) X.1 X.2.1 dX10_rule_67 (by decide) ?_
              exact mm_xi X I hr hlk dX10_rule_71 h
          · have h := mm_f z3_2 h
            have z3_q0 : ¬ Int32.toInt x1 = 0 := fun q => z3_0 (Int32.toInt_inj.mp q)
            have z3_q1 : ¬ Int32.toInt x1 = 1 := fun q => z3_1 (Int32.toInt_inj.mp q)
            have z3_q2 : ¬ Int32.toInt x1 = 2 := fun q => z3_2 (Int32.toInt_inj.mp q)
            refine mm_tdef (tgt := 72) X dX10_rule_19 (by decide) (fun i hi hq => ?_) (by decide) ?_
            · rcases (show i = 0 ∨ i = 1 ∨ i = 2 by simp at hi; omega) with rfl | rfl | rfl
              · exact absurd hq (by omega)
              · exact absurd hq (by omega)
              · exact absurd hq (by omega)
            · refine lv_aload_n X.1 X.2.1 dX10_rule_72 rfl (lv_at hl 0 rfl) ?_
              refine mm_rgi X I fl_X10_150 dX10_rule_73 h (fun v9 h => ?_)
              exact mm_xi X I hr hlk dX10_rule_76 h
    · refine lv_iconst (v := (-1)) X.1 X.2.1 dX10_rule_16 (by decide) ?_
      exact mm_xi X I hr hlk dX10_rule_17 h
set_option maxHeartbeats 4000000 in
set_option maxRecDepth 100000 in
theorem wpX10_line_b23 {p : Program} {l : Launch} {e : Env} {s : State} {m : MethodId} {args : Array Value} {below : List Frame} {meth : Method} {c : Code} {D : va_G} {dA : Nat → ClassId} {lo : Nat} (X : mm_C D dA lo cX10_line RX10 3 p s m args c) (hr : meth.sig.returnType = (some .int)) (hlk : meth.locks = false) (n : Nat) {o : Int32 × mm_M}  : ∀ (M : mm_M) (a0 : Nat) (x1 : Int32) (x2 : Int32) (s0 : Int32) (s1 : Nat) (H : Heap) (locs : List Loc) (ls : Array Slot), mm_I D dA lo s M H locs → lv_has ls 3 [(0, .ref a0), (1, .int x1), (2, .int x2)] → pX10_line_b23 n M a0 x1 x2 s0 s1 = some o → W p l e (mm_rm 2 43 0 0) s m args below meth c H locs 0 0 (MQ below (mm_Q D dA lo (some (.int o.1)) o.2) args s 0 0 (mm_fr lo)) (F0 m 23 ls [.int s0, .ref s1]) := by
  intro M a0 x1 x2 s0 s1 H locs ls I hl h
  unfold pX10_line_b23 at h
  refine mm_rpi X I fl_X10_58 dX10_line_23 h (fun M H locs I h => ?_)
  refine lv_aload_n X.1 X.2.1 dX10_line_26 rfl (lv_at hl 0 rfl) ?_
  refine mm_rgi X I fl_X10_58 dX10_line_27 h (fun v1 h => ?_)
  refine lv_iconst (v := 1) X.1 X.2.1 dX10_line_30 (by decide) ?_
  refine mm_kne (tgt := 38) X dX10_line_31 (by decide) h (fun h => ?_) (fun h => ?_)
  · refine lv_iload_n X.1 X.2.1 dX10_line_38 rfl (lv_at hl 2 rfl) ?_
    refine mm_jne (tgt := 50) X dX10_line_39 (by decide) h (fun h => ?_) (fun h => ?_)
    · refine lv_aload_n X.1 X.2.1 dX10_line_50 rfl (lv_at hl 0 rfl) ?_
      refine lv_iload_n X.1 X.2.1 dX10_line_51 rfl (lv_at hl 1 rfl) ?_
      refine mm_cVi X I hl (As := [.int x1]) (ci := 10) md_X10_longOf mv_X10_longOf ml_X10_136 rfl (kX10_longOf (n := n)) (by decide) ⟨Nat.le_refl 0, Nat.le_refl 0⟩ rfl rfl (Nat.le_of_ble_eq_true rfl) dX10_line_52 h (fun v2 M H locs I h => ?_)
      exact mm_xi X I hr hlk dX10_line_55 h
    · refine lv_aload_n X.1 X.2.1 dX10_line_42 rfl (lv_at hl 0 rfl) ?_
      refine lv_iload_n X.1 X.2.1 dX10_line_43 rfl (lv_at hl 1 rfl) ?_
      refine mm_cVi X I hl (As := [.int x1]) (ci := 10) md_X10_numberOf mv_X10_numberOf ml_X10_190 rfl (kX10_numberOf (n := n)) (by decide) ⟨Nat.le_refl 0, Nat.le_refl 0⟩ rfl rfl (Nat.le_of_ble_eq_true rfl) dX10_line_44 h (fun v3 M H locs I h => ?_)
      refine lv_goto (tgt := 55) X.1 X.2.1 dX10_line_47 (by decide) ?_
      exact mm_xi X I hr hlk dX10_line_55 h
  · refine lv_iconst (v := 0) X.1 X.2.1 dX10_line_34 (by decide) ?_
    refine lv_goto (tgt := 55) X.1 X.2.1 dX10_line_35 (by decide) ?_
    exact mm_xi X I hr hlk dX10_line_55 h
set_option maxHeartbeats 4000000 in
set_option maxRecDepth 100000 in
theorem kX10_line {l : Launch} {D : va_G} {dA : Nat → ClassId} {lo : Nat} {n : Nat} {M : mm_M} {a0 : Nat} {x1 : Int32} {x2 : Int32} (o : Int32 × mm_M) (h : pX10_line n M a0 x1 x2 = some o) : (∃ fs, M.2 a0 = some (mm_ob 10 fs)) ∧ mm_Met l D dA lo yX10_line cX10_line 3 (some .int) 2 43 0 0 [.ref a0, .int x1, .int x2] M (some (.int o.1)) o.2 := by
  unfold pX10_line at h
  obtain ⟨hob, h⟩ := mm_v_some h
  refine ⟨hob, mm_enter (by decide) (Nat.le_of_ble_eq_true rfl) (fun p e s m args below meth c ls X hr hlk hnm I hl => ?_)⟩
  have X : mm_C D dA lo cX10_line RX10 3 p s m args c := X
  have hl : lv_has ls 3 [(0, .ref a0), (1, .int x1), (2, .int x2)] := hl
  refine lv_aload_n X.1 X.2.1 dX10_line_0 rfl (lv_at hl 0 rfl) ?_
  refine lv_aload_n X.1 X.2.1 dX10_line_1 rfl (lv_at hl 0 rfl) ?_
  refine lv_iload_n X.1 X.2.1 dX10_line_2 rfl (lv_at hl 1 rfl) ?_
  refine mm_cVi X I hl (As := [.int x1]) (ci := 10) md_X10_isLine mv_X10_isLine ml_X10_132 rfl (kX10_isLine (n := n)) (by decide) ⟨Nat.le_refl 0, Nat.le_refl 0⟩ rfl rfl (Nat.le_of_ble_eq_true rfl) dX10_line_3 h (fun v1 M H locs I h => ?_)
  refine mm_jeq (tgt := 22) X dX10_line_6 (by decide) h (fun h => ?_) (fun h => ?_)
  · refine lv_iconst (v := 1) X.1 X.2.1 dX10_line_22 (by decide) ?_
    exact wpX10_line_b23 X hr hlk n  M _ _ _ _ _ _ _ _ I (lv_sub hl [0, 1, 2] rfl) h
  · refine lv_iload_n X.1 X.2.1 dX10_line_9 rfl (lv_at hl 2 rfl) ?_
    refine lv_iconst (v := 0) X.1 X.2.1 dX10_line_10 (by decide) ?_
    refine lv_iconst (v := 1) X.1 X.2.1 dX10_line_11 (by decide) ?_
    refine mm_cSi X I hl (As := [.int x2, .int 0, .int 1]) md_X10_in mv_X10_in ml_X10_69 (kX10_in (n := n)) (by decide) ⟨Nat.le_refl 0, Nat.le_refl 0⟩ rfl rfl (Nat.le_of_ble_eq_true rfl) dX10_line_12 h (fun v2 M H locs I h => ?_)
    refine mm_jeq (tgt := 22) X dX10_line_15 (by decide) h (fun h => ?_) (fun h => ?_)
    · refine lv_iconst (v := 1) X.1 X.2.1 dX10_line_22 (by decide) ?_
      exact wpX10_line_b23 X hr hlk n  M _ _ _ _ _ _ _ _ I (lv_sub hl [0, 1, 2] rfl) h
    · refine lv_iconst (v := 0) X.1 X.2.1 dX10_line_18 (by decide) ?_
      refine lv_goto (tgt := 23) X.1 X.2.1 dX10_line_19 (by decide) ?_
      exact wpX10_line_b23 X hr hlk n  M _ _ _ _ _ _ _ _ I (lv_sub hl [0, 1, 2] rfl) h
set_option maxHeartbeats 4000000 in
set_option maxRecDepth 100000 in
theorem kX10_sign {l : Launch} {D : va_G} {dA : Nat → ClassId} {lo : Nat} {n : Nat} {M : mm_M} {a0 : Nat} {x1 : Int32} {x2 : Int32} (o : Int32 × mm_M) (h : pX10_sign n M a0 x1 x2 = some o) : (∃ fs, M.2 a0 = some (mm_ob 10 fs)) ∧ mm_Met l D dA lo yX10_sign cX10_sign 3 (some .int) 3 65 0 0 [.ref a0, .int x1, .int x2] M (some (.int o.1)) o.2 := by
  unfold pX10_sign at h
  obtain ⟨hob, h⟩ := mm_v_some h
  refine ⟨hob, mm_enter (by decide) (Nat.le_of_ble_eq_true rfl) (fun p e s m args below meth c ls X hr hlk hnm I hl => ?_)⟩
  have X : mm_C D dA lo cX10_sign RX10 3 p s m args c := X
  have hl : lv_has ls 3 [(0, .ref a0), (1, .int x1), (2, .int x2)] := hl
  refine lv_aload_n X.1 X.2.1 dX10_sign_0 rfl (lv_at hl 0 rfl) ?_
  refine lv_iload_n X.1 X.2.1 dX10_sign_1 rfl (lv_at hl 1 rfl) ?_
  refine lv_iload_n X.1 X.2.1 dX10_sign_2 rfl (lv_at hl 2 rfl) ?_
  refine mm_cVi X I hl (As := [.int x1, .int x2]) (ci := 10) md_X10_isPlace mv_X10_isPlace ml_X10_330 rfl (kX10_isPlace (n := n)) (by decide) ⟨Nat.le_refl 0, Nat.le_refl 0⟩ rfl rfl (Nat.le_of_ble_eq_true rfl) dX10_sign_3 h (fun v1 M H locs I h => ?_)
  refine mm_jeq (tgt := 21) X dX10_sign_6 (by decide) h (fun h => ?_) (fun h => ?_)
  · refine lv_iconst (v := (-1)) X.1 X.2.1 dX10_sign_21 (by decide) ?_
    exact mm_xi X I hr hlk dX10_sign_22 h
  · refine lv_aload_n X.1 X.2.1 dX10_sign_9 rfl (lv_at hl 0 rfl) ?_
    refine lv_iload_n X.1 X.2.1 dX10_sign_10 rfl (lv_at hl 1 rfl) ?_
    refine lv_iload_n X.1 X.2.1 dX10_sign_11 rfl (lv_at hl 2 rfl) ?_
    refine mm_cVi X I hl (As := [.int x1, .int x2]) (ci := 10) md_X10_signAt mv_X10_signAt ml_X10_176 rfl (kX10_signAt (n := n)) (by decide) ⟨Nat.le_refl 0, Nat.le_refl 0⟩ rfl rfl (Nat.le_of_ble_eq_true rfl) dX10_sign_12 h (fun v2 M H locs I h => ?_)
    refine mm_cSi X I hl (As := [.int v2]) md_X10_byteBy mv_X10_byteBy ml_X10_334 (kX10_byteBy (n := n)) (by decide) ⟨Nat.le_refl 0, Nat.le_refl 0⟩ rfl rfl (Nat.le_of_ble_eq_true rfl) dX10_sign_15 h (fun v3 M H locs I h => ?_)
    refine lv_goto (tgt := 22) X.1 X.2.1 dX10_sign_18 (by decide) ?_
    exact mm_xi X I hr hlk dX10_sign_22 h
set_option maxHeartbeats 4000000 in
set_option maxRecDepth 100000 in
theorem kX10_hit {l : Launch} {D : va_G} {dA : Nat → ClassId} {lo : Nat} {n : Nat} {M : mm_M} {a0 : Nat} {x1 : Int32} {x2 : Int32} (o : Int32 × mm_M) (h : pX10_hit n M a0 x1 x2 = some o) : (∃ fs, M.2 a0 = some (mm_ob 10 fs)) ∧ mm_Met l D dA lo yX10_hit cX10_hit 3 (some .int) 7 159 0 0 [.ref a0, .int x1, .int x2] M (some (.int o.1)) o.2 := by
  unfold pX10_hit at h
  obtain ⟨hob, h⟩ := mm_v_some h
  refine ⟨hob, mm_enter (by decide) (Nat.le_of_ble_eq_true rfl) (fun p e s m args below meth c ls X hr hlk hnm I hl => ?_)⟩
  have X : mm_C D dA lo cX10_hit RX10 3 p s m args c := X
  have hl : lv_has ls 3 [(0, .ref a0), (1, .int x1), (2, .int x2)] := hl
  refine lv_aload_n X.1 X.2.1 dX10_hit_0 rfl (lv_at hl 0 rfl) ?_
  refine mm_cVi X I hl (As := []) (ci := 10) md_X10_laysWord mv_X10_laysWord ml_X10_327 rfl (kX10_laysWord (n := n)) (by decide) ⟨Nat.le_refl 0, Nat.le_refl 0⟩ rfl rfl (Nat.le_of_ble_eq_true rfl) dX10_hit_1 h (fun v1 M H locs I h => ?_)
  refine mm_jeq (tgt := 30) X dX10_hit_4 (by decide) h (fun h => ?_) (fun h => ?_)
  · refine lv_iconst (v := (-1)) X.1 X.2.1 dX10_hit_30 (by decide) ?_
    exact mm_xi X I hr hlk dX10_hit_31 h
  · refine lv_iload_n X.1 X.2.1 dX10_hit_7 rfl (lv_at hl 1 rfl) ?_
    refine lv_iconst (v := 0) X.1 X.2.1 dX10_hit_8 (by decide) ?_
    refine lv_aload_n X.1 X.2.1 dX10_hit_9 rfl (lv_at hl 0 rfl) ?_
    refine mm_rgi X I fl_X10_170 dX10_hit_10 h (fun v2 h => ?_)
    refine lv_iconst (v := 1) X.1 X.2.1 dX10_hit_13 (by decide) ?_
    refine lv_isub X.1 X.2.1 dX10_hit_14 ?_
    refine mm_cSi X I hl (As := [.int x1, .int 0, .int (v2 - 1)]) md_X10_in mv_X10_in ml_X10_69 (kX10_in (n := n)) (by decide) ⟨Nat.le_refl 0, Nat.le_refl 0⟩ rfl rfl (Nat.le_of_ble_eq_true rfl) dX10_hit_15 h (fun v3 M H locs I h => ?_)
    refine mm_jeq (tgt := 30) X dX10_hit_18 (by decide) h (fun h => ?_) (fun h => ?_)
    · refine lv_iconst (v := (-1)) X.1 X.2.1 dX10_hit_30 (by decide) ?_
      exact mm_xi X I hr hlk dX10_hit_31 h
    · refine lv_iload_n X.1 X.2.1 dX10_hit_21 rfl (lv_at hl 2 rfl) ?_
      refine lv_iconst (v := 0) X.1 X.2.1 dX10_hit_22 (by decide) ?_
      refine lv_iconst (v := 3) X.1 X.2.1 dX10_hit_23 (by decide) ?_
      refine mm_cSi X I hl (As := [.int x2, .int 0, .int 3]) md_X10_in mv_X10_in ml_X10_69 (kX10_in (n := n)) (by decide) ⟨Nat.le_refl 0, Nat.le_refl 0⟩ rfl rfl (Nat.le_of_ble_eq_true rfl) dX10_hit_24 h (fun v4 M H locs I h => ?_)
      refine mm_jne (tgt := 32) X dX10_hit_27 (by decide) h (fun h => ?_) (fun h => ?_)
      · refine lv_iload_n X.1 X.2.1 dX10_hit_32 rfl (lv_at hl 2 rfl) ?_
        by_cases z5_0 : x2 = 0
        · have h := mm_t z5_0 h
          refine lv_tableIn (tgt := 60) (off := 27) X.1 X.2.1 dX10_hit_33 (by rw [z5_0]; decide) (by rw [z5_0]; decide) (by rw [z5_0]; rfl) (by decide) ?_
          refine lv_aload_n X.1 X.2.1 dX10_hit_60 rfl (lv_at hl 0 rfl) ?_
          refine mm_rgr X I fl_X10_37 dX10_hit_61 h (fun v6 h => ?_)
          refine lv_iload_n X.1 X.2.1 dX10_hit_64 rfl (lv_at hl 1 rfl) ?_
          refine mm_ria X I dX10_hit_65 h (fun v7 h => ?_)
          exact mm_xi X I hr hlk dX10_hit_66 h
        · have h := mm_f z5_0 h
          by_cases z5_1 : x2 = 1
          · have h := mm_t z5_1 h
            refine lv_tableIn (tgt := 67) (off := 34) X.1 X.2.1 dX10_hit_33 (by rw [z5_1]; decide) (by rw [z5_1]; decide) (by rw [z5_1]; rfl) (by decide) ?_
            refine lv_aload_n X.1 X.2.1 dX10_hit_67 rfl (lv_at hl 0 rfl) ?_
            refine mm_rgr X I fl_X10_40 dX10_hit_68 h (fun v8 h => ?_)
            refine lv_iload_n X.1 X.2.1 dX10_hit_71 rfl (lv_at hl 1 rfl) ?_
            refine mm_ria X I dX10_hit_72 h (fun v9 h => ?_)
            exact mm_xi X I hr hlk dX10_hit_73 h
          · have h := mm_f z5_1 h
            by_cases z5_2 : x2 = 2
            · have h := mm_t z5_2 h
              refine lv_tableIn (tgt := 74) (off := 41) X.1 X.2.1 dX10_hit_33 (by rw [z5_2]; decide) (by rw [z5_2]; decide) (by rw [z5_2]; rfl) (by decide) ?_
              refine lv_aload_n X.1 X.2.1 dX10_hit_74 rfl (lv_at hl 0 rfl) ?_
              refine lv_aload_n X.1 X.2.1 dX10_hit_75 rfl (lv_at hl 0 rfl) ?_
              refine mm_rgr X I fl_X10_37 dX10_hit_76 h (fun v10 h => ?_)
              refine lv_iload_n X.1 X.2.1 dX10_hit_79 rfl (lv_at hl 1 rfl) ?_
              refine mm_ria X I dX10_hit_80 h (fun v11 h => ?_)
              refine mm_cVi X I hl (As := [.int v11]) (ci := 10) md_X10_longOf mv_X10_longOf ml_X10_136 rfl (kX10_longOf (n := n)) (by decide) ⟨Nat.le_refl 0, Nat.le_refl 0⟩ rfl rfl (Nat.le_of_ble_eq_true rfl) dX10_hit_81 h (fun v12 M H locs I h => ?_)
              refine lv_aload_n X.1 X.2.1 dX10_hit_84 rfl (lv_at hl 0 rfl) ?_
              refine mm_rgr X I fl_X10_40 dX10_hit_85 h (fun v13 h => ?_)
              refine lv_iload_n X.1 X.2.1 dX10_hit_88 rfl (lv_at hl 1 rfl) ?_
              refine mm_ria X I dX10_hit_89 h (fun v14 h => ?_)
              refine lv_isub X.1 X.2.1 dX10_hit_90 ?_
              refine lv_aload_n X.1 X.2.1 dX10_hit_91 rfl (lv_at hl 0 rfl) ?_
              refine mm_rgi X I fl_X10_150 dX10_hit_92 h (fun v15 h => ?_)
              refine lv_isub X.1 X.2.1 dX10_hit_95 ?_
              exact mm_xi X I hr hlk dX10_hit_96 h
            · have h := mm_f z5_2 h
              have z5_q0 : ¬ Int32.toInt x2 = 0 := fun q => z5_0 (Int32.toInt_inj.mp q)
              have z5_q1 : ¬ Int32.toInt x2 = 1 := fun q => z5_1 (Int32.toInt_inj.mp q)
              have z5_q2 : ¬ Int32.toInt x2 = 2 := fun q => z5_2 (Int32.toInt_inj.mp q)
              refine mm_tdef (tgt := 97) X dX10_hit_33 (by decide) (fun i hi hq => ?_) (by decide) ?_
              · rcases (show i = 0 ∨ i = 1 ∨ i = 2 by simp at hi; omega) with rfl | rfl | rfl
                · exact absurd hq (by omega)
                · exact absurd hq (by omega)
                · exact absurd hq (by omega)
              · refine lv_aload_n X.1 X.2.1 dX10_hit_97 rfl (lv_at hl 0 rfl) ?_
                refine mm_rgr X I fl_X10_40 dX10_hit_98 h (fun v16 h => ?_)
                refine lv_iload_n X.1 X.2.1 dX10_hit_101 rfl (lv_at hl 1 rfl) ?_
                refine mm_ria X I dX10_hit_102 h (fun v17 h => ?_)
                exact mm_xi X I hr hlk dX10_hit_103 h
      · refine lv_iconst (v := (-1)) X.1 X.2.1 dX10_hit_30 (by decide) ?_
        exact mm_xi X I hr hlk dX10_hit_31 h
set_option maxHeartbeats 4000000 in
set_option maxRecDepth 100000 in
theorem wpX10_rank_l8 {p : Program} {l : Launch} {e : Env} {s : State} {m : MethodId} {args : Array Value} {below : List Frame} {meth : Method} {c : Code} {D : va_G} {dA : Nat → ClassId} {lo : Nat} (X : mm_C D dA lo cX10_rank RX10 5 p s m args c) (hr : meth.sig.returnType = (some .int)) (hlk : meth.locks = false) (n : Nat) {o : Int32 × mm_M} (k : Nat) : ∀ (M : mm_M) (a0 : Nat) (x1 : Int32) (x2 : Int32) (x3 : Int32) (x4 : Int32) (H : Heap) (locs : List Loc) (ls : Array Slot), mm_I D dA lo s M H locs → lv_has ls 5 [(0, .ref a0), (1, .int x1), (2, .int x2), (3, .int x3), (4, .int x4)] → pX10_rank_l8 n k M a0 x1 x2 x3 x4 = some o → W p l e (mm_rm 7 159 0 0) s m args below meth c H locs 0 0 (MQ below (mm_Q D dA lo (some (.int o.1)) o.2) args s 0 0 (mm_fr lo)) (F0 m 8 ls []) := by
  induction k with
  | zero =>
    intro M a0 x1 x2 x3 x4 H locs ls I hl h
    have h : (none : Option (Int32 × mm_M)) = some o := h
    cases h
  | succ k ih =>
    intro M a0 x1 x2 x3 x4 H locs ls I hl h
    have h : pX10_rank_l8b n (pX10_rank_l8 n k) M a0 x1 x2 x3 x4 = some o := h
    unfold pX10_rank_l8b at h
    refine lv_iload X.1 X.2.1 dX10_rank_8 (lv_at hl 4 rfl) ?_
    refine lv_aload_n X.1 X.2.1 dX10_rank_10 rfl (lv_at hl 0 rfl) ?_
    refine mm_rgi X I fl_X10_170 dX10_rank_11 h (fun v1 h => ?_)
    refine mm_kge (tgt := 52) X dX10_rank_14 (by decide) h (fun h => ?_) (fun h => ?_)
    · refine lv_iconst (v := (-1)) X.1 X.2.1 dX10_rank_52 (by decide) ?_
      exact mm_xi X I hr hlk dX10_rank_53 h
    · refine lv_iload_n X.1 X.2.1 dX10_rank_17 rfl (lv_at hl 3 rfl) ?_
      refine mm_jeq (tgt := 52) X dX10_rank_18 (by decide) h (fun h => ?_) (fun h => ?_)
      · refine lv_iconst (v := (-1)) X.1 X.2.1 dX10_rank_52 (by decide) ?_
        exact mm_xi X I hr hlk dX10_rank_53 h
      · refine lv_aload_n X.1 X.2.1 dX10_rank_21 rfl (lv_at hl 0 rfl) ?_
        refine mm_rgr X I fl_X10_37 dX10_rank_22 h (fun v2 h => ?_)
        refine lv_iload X.1 X.2.1 dX10_rank_25 (lv_at hl 4 rfl) ?_
        refine mm_ria X I dX10_rank_27 h (fun v3 h => ?_)
        refine lv_iload_n X.1 X.2.1 dX10_rank_28 rfl (lv_at hl 1 rfl) ?_
        refine mm_kne (tgt := 46) X dX10_rank_29 (by decide) h (fun h => ?_) (fun h => ?_)
        · refine lv_iinc (v := (x4 + 1)) (lv' := [(4, .int (x4 + 1)), (0, .ref a0), (1, .int x1), (2, .int x2), (3, .int x3)]) X.1 X.2.1 dX10_rank_46 hl (k := 4) rfl rfl (by decide) rfl (fun ls hl => ?_)
          refine lv_goto (tgt := 8) X.1 X.2.1 dX10_rank_49 (by decide) ?_
          exact ih M _ _ _ _ _ _ _ _ I (lv_sub hl [1, 2, 3, 4, 0] rfl) h
        · refine lv_aload_n X.1 X.2.1 dX10_rank_32 rfl (lv_at hl 0 rfl) ?_
          refine mm_rgr X I fl_X10_40 dX10_rank_33 h (fun v4 h => ?_)
          refine lv_iload X.1 X.2.1 dX10_rank_36 (lv_at hl 4 rfl) ?_
          refine mm_ria X I dX10_rank_38 h (fun v5 h => ?_)
          refine lv_iload_n X.1 X.2.1 dX10_rank_39 rfl (lv_at hl 2 rfl) ?_
          refine mm_kne (tgt := 46) X dX10_rank_40 (by decide) h (fun h => ?_) (fun h => ?_)
          · refine lv_iinc (v := (x4 + 1)) (lv' := [(4, .int (x4 + 1)), (0, .ref a0), (1, .int x1), (2, .int x2), (3, .int x3)]) X.1 X.2.1 dX10_rank_46 hl (k := 4) rfl rfl (by decide) rfl (fun ls hl => ?_)
            refine lv_goto (tgt := 8) X.1 X.2.1 dX10_rank_49 (by decide) ?_
            exact ih M _ _ _ _ _ _ _ _ I (lv_sub hl [1, 2, 3, 4, 0] rfl) h
          · refine lv_iload X.1 X.2.1 dX10_rank_43 (lv_at hl 4 rfl) ?_
            exact mm_xi X I hr hlk dX10_rank_45 h
set_option maxHeartbeats 4000000 in
set_option maxRecDepth 100000 in
theorem kX10_rank {l : Launch} {D : va_G} {dA : Nat → ClassId} {lo : Nat} {n : Nat} {M : mm_M} {a0 : Nat} {x1 : Int32} {x2 : Int32} (o : Int32 × mm_M) (h : pX10_rank n M a0 x1 x2 = some o) : (∃ fs, M.2 a0 = some (mm_ob 10 fs)) ∧ mm_Met l D dA lo yX10_rank cX10_rank 5 (some .int) 7 159 0 0 [.ref a0, .int x1, .int x2] M (some (.int o.1)) o.2 := by
  unfold pX10_rank at h
  obtain ⟨hob, h⟩ := mm_v_some h
  refine ⟨hob, mm_enter (by decide) (Nat.le_of_ble_eq_true rfl) (fun p e s m args below meth c ls X hr hlk hnm I hl => ?_)⟩
  have X : mm_C D dA lo cX10_rank RX10 5 p s m args c := X
  have hl : lv_has ls 5 [(0, .ref a0), (1, .int x1), (2, .int x2)] := hl
  refine lv_aload_n X.1 X.2.1 dX10_rank_0 rfl (lv_at hl 0 rfl) ?_
  refine mm_cVi X I hl (As := []) (ci := 10) md_X10_laysWord mv_X10_laysWord ml_X10_327 rfl (kX10_laysWord (n := n)) (by decide) ⟨Nat.le_refl 0, Nat.le_refl 0⟩ rfl rfl (Nat.le_of_ble_eq_true rfl) dX10_rank_1 h (fun v1 M H locs I h => ?_)
  refine lv_istore_n (lv' := [(3, .int v1), (0, .ref a0), (1, .int x1), (2, .int x2)]) X.1 X.2.1 dX10_rank_4 rfl hl (by decide) rfl (fun ls hl => ?_)
  refine lv_iconst (v := 0) X.1 X.2.1 dX10_rank_5 (by decide) ?_
  refine lv_istore (lv' := [(4, .int 0), (3, .int v1), (0, .ref a0), (1, .int x1), (2, .int x2)]) X.1 X.2.1 dX10_rank_6 hl (by decide) rfl (fun ls hl => ?_)
  exact wpX10_rank_l8 X hr hlk n  n M _ _ _ _ _ _ _ _ I (lv_sub hl [2, 3, 4, 1, 0] rfl) h
set_option maxHeartbeats 4000000 in
set_option maxRecDepth 100000 in
theorem kX10_laysAll {l : Launch} {D : va_G} {dA : Nat → ClassId} {lo : Nat} {n : Nat} {M : mm_M} {a0 : Nat} (o : mm_M) (h : pX10_laysAll n M a0 = some o) : (∃ fs, M.2 a0 = some (mm_ob 10 fs)) ∧ mm_Met l D dA lo yX10_laysAll cX10_laysAll 1 none 6 139 0 0 [.ref a0] M none o := by
  unfold pX10_laysAll at h
  obtain ⟨hob, h⟩ := mm_v_some h
  refine ⟨hob, mm_enter (by decide) (Nat.le_of_ble_eq_true rfl) (fun p e s m args below meth c ls X hr hlk hnm I hl => ?_)⟩
  have X : mm_C D dA lo cX10_laysAll RX10 1 p s m args c := X
  have hl : lv_has ls 1 [(0, .ref a0)] := hl
  refine lv_aload_n X.1 X.2.1 dX10_laysAll_0 rfl (lv_at hl 0 rfl) ?_
  refine lv_aload_n X.1 X.2.1 dX10_laysAll_1 rfl (lv_at hl 0 rfl) ?_
  refine mm_rgr X I fl_X10_34 dX10_laysAll_2 h (fun v1 h => ?_)
  refine lv_iconst (v := 0) X.1 X.2.1 dX10_laysAll_5 (by decide) ?_
  refine lv_iconst (v := 0) X.1 X.2.1 dX10_laysAll_6 (by decide) ?_
  refine mm_cVv X I hl (As := [.ref v1, .int 0, .int 0]) (ci := 10) md_X10_laysHits mv_X10_laysHits ml_X10_166 rfl (kX10_laysHits (n := n)) (by decide) ⟨Nat.le_refl 0, Nat.le_refl 0⟩ rfl rfl (Nat.le_of_ble_eq_true rfl) dX10_laysAll_7 h (fun M H locs I h => ?_)
  exact mm_xv X I hr hlk dX10_laysAll_10 h
set_option maxHeartbeats 4000000 in
set_option maxRecDepth 100000 in
theorem wpX10_sharedAt_l2 {p : Program} {l : Launch} {e : Env} {s : State} {m : MethodId} {args : Array Value} {below : List Frame} {meth : Method} {c : Code} {D : va_G} {dA : Nat → ClassId} {lo : Nat} (X : mm_C D dA lo cX10_sharedAt RX10 3 p s m args c) (hr : meth.sig.returnType = (some .int)) (hlk : meth.locks = false) (n : Nat) {o : Int32 × mm_M} (k : Nat) : ∀ (M : mm_M) (a0 : Nat) (x1 : Int32) (x2 : Int32) (H : Heap) (locs : List Loc) (ls : Array Slot), mm_I D dA lo s M H locs → lv_has ls 3 [(0, .ref a0), (1, .int x1), (2, .int x2)] → pX10_sharedAt_l2 n k M a0 x1 x2 = some o → W p l e (mm_rm 3 65 0 0) s m args below meth c H locs 0 0 (MQ below (mm_Q D dA lo (some (.int o.1)) o.2) args s 0 0 (mm_fr lo)) (F0 m 2 ls []) := by
  induction k with
  | zero =>
    intro M a0 x1 x2 H locs ls I hl h
    have h : (none : Option (Int32 × mm_M)) = some o := h
    cases h
  | succ k ih =>
    intro M a0 x1 x2 H locs ls I hl h
    have h : pX10_sharedAt_l2b n (pX10_sharedAt_l2 n k) M a0 x1 x2 = some o := h
    unfold pX10_sharedAt_l2b at h
    refine lv_aload_n X.1 X.2.1 dX10_sharedAt_2 rfl (lv_at hl 0 rfl) ?_
    refine lv_aload_n X.1 X.2.1 dX10_sharedAt_3 rfl (lv_at hl 0 rfl) ?_
    refine mm_rgr X I fl_X10_37 dX10_sharedAt_4 h (fun v1 h => ?_)
    refine lv_iload_n X.1 X.2.1 dX10_sharedAt_7 rfl (lv_at hl 1 rfl) ?_
    refine mm_ria X I dX10_sharedAt_8 h (fun v2 h => ?_)
    refine lv_aload_n X.1 X.2.1 dX10_sharedAt_9 rfl (lv_at hl 0 rfl) ?_
    refine mm_rgr X I fl_X10_40 dX10_sharedAt_10 h (fun v3 h => ?_)
    refine lv_iload_n X.1 X.2.1 dX10_sharedAt_13 rfl (lv_at hl 1 rfl) ?_
    refine mm_ria X I dX10_sharedAt_14 h (fun v4 h => ?_)
    refine lv_iload_n X.1 X.2.1 dX10_sharedAt_15 rfl (lv_at hl 2 rfl) ?_
    refine mm_cVi X I hl (As := [.int v2, .int v4, .int x2]) (ci := 10) md_X10_following mv_X10_following ml_X10_180 rfl (kX10_following (n := n)) (by decide) ⟨Nat.le_refl 0, Nat.le_refl 0⟩ rfl rfl (Nat.le_of_ble_eq_true rfl) dX10_sharedAt_16 h (fun v5 M H locs I h => ?_)
    refine lv_iconst (v := (-1)) X.1 X.2.1 dX10_sharedAt_19 (by decide) ?_
    refine mm_keq (tgt := 70) X dX10_sharedAt_20 (by decide) h (fun h => ?_) (fun h => ?_)
    · refine lv_iload_n X.1 X.2.1 dX10_sharedAt_70 rfl (lv_at hl 2 rfl) ?_
      exact mm_xi X I hr hlk dX10_sharedAt_71 h
    · refine lv_aload_n X.1 X.2.1 dX10_sharedAt_23 rfl (lv_at hl 0 rfl) ?_
      refine lv_aload_n X.1 X.2.1 dX10_sharedAt_24 rfl (lv_at hl 0 rfl) ?_
      refine mm_rgr X I fl_X10_37 dX10_sharedAt_25 h (fun v6 h => ?_)
      refine lv_iload_n X.1 X.2.1 dX10_sharedAt_28 rfl (lv_at hl 1 rfl) ?_
      refine mm_ria X I dX10_sharedAt_29 h (fun v7 h => ?_)
      refine lv_aload_n X.1 X.2.1 dX10_sharedAt_30 rfl (lv_at hl 0 rfl) ?_
      refine mm_rgr X I fl_X10_40 dX10_sharedAt_31 h (fun v8 h => ?_)
      refine lv_iload_n X.1 X.2.1 dX10_sharedAt_34 rfl (lv_at hl 1 rfl) ?_
      refine mm_ria X I dX10_sharedAt_35 h (fun v9 h => ?_)
      refine lv_iload_n X.1 X.2.1 dX10_sharedAt_36 rfl (lv_at hl 2 rfl) ?_
      refine mm_cVi X I hl (As := [.int v7, .int v9, .int x2]) (ci := 10) md_X10_following mv_X10_following ml_X10_180 rfl (kX10_following (n := n)) (by decide) ⟨Nat.le_refl 0, Nat.le_refl 0⟩ rfl rfl (Nat.le_of_ble_eq_true rfl) dX10_sharedAt_37 h (fun v10 M H locs I h => ?_)
      refine lv_aload_n X.1 X.2.1 dX10_sharedAt_40 rfl (lv_at hl 0 rfl) ?_
      refine lv_aload_n X.1 X.2.1 dX10_sharedAt_41 rfl (lv_at hl 0 rfl) ?_
      refine mm_rgr X I fl_X10_37 dX10_sharedAt_42 h (fun v11 h => ?_)
      refine lv_iload_n X.1 X.2.1 dX10_sharedAt_45 rfl (lv_at hl 1 rfl) ?_
      refine lv_iconst (v := 1) X.1 X.2.1 dX10_sharedAt_46 (by decide) ?_
      refine lv_iadd X.1 X.2.1 dX10_sharedAt_47 ?_
      refine mm_ria X I dX10_sharedAt_48 h (fun v12 h => ?_)
      refine lv_aload_n X.1 X.2.1 dX10_sharedAt_49 rfl (lv_at hl 0 rfl) ?_
      refine mm_rgr X I fl_X10_40 dX10_sharedAt_50 h (fun v13 h => ?_)
      refine lv_iload_n X.1 X.2.1 dX10_sharedAt_53 rfl (lv_at hl 1 rfl) ?_
      refine lv_iconst (v := 1) X.1 X.2.1 dX10_sharedAt_54 (by decide) ?_
      refine lv_iadd X.1 X.2.1 dX10_sharedAt_55 ?_
      refine mm_ria X I dX10_sharedAt_56 h (fun v14 h => ?_)
      refine lv_iload_n X.1 X.2.1 dX10_sharedAt_57 rfl (lv_at hl 2 rfl) ?_
      refine mm_cVi X I hl (As := [.int v12, .int v14, .int x2]) (ci := 10) md_X10_following mv_X10_following ml_X10_180 rfl (kX10_following (n := n)) (by decide) ⟨Nat.le_refl 0, Nat.le_refl 0⟩ rfl rfl (Nat.le_of_ble_eq_true rfl) dX10_sharedAt_58 h (fun v15 M H locs I h => ?_)
      refine mm_kne (tgt := 70) X dX10_sharedAt_61 (by decide) h (fun h => ?_) (fun h => ?_)
      · refine lv_iload_n X.1 X.2.1 dX10_sharedAt_70 rfl (lv_at hl 2 rfl) ?_
        exact mm_xi X I hr hlk dX10_sharedAt_71 h
      · refine lv_iinc (v := (x2 + 1)) (lv' := [(2, .int (x2 + 1)), (0, .ref a0), (1, .int x1)]) X.1 X.2.1 dX10_sharedAt_64 hl (k := 2) rfl rfl (by decide) rfl (fun ls hl => ?_)
        refine lv_goto (tgt := 2) X.1 X.2.1 dX10_sharedAt_67 (by decide) ?_
        exact ih M _ _ _ _ _ _ I (lv_sub hl [1, 2, 0] rfl) h
set_option maxHeartbeats 4000000 in
set_option maxRecDepth 100000 in
theorem kX10_sharedAt {l : Launch} {D : va_G} {dA : Nat → ClassId} {lo : Nat} {n : Nat} {M : mm_M} {a0 : Nat} {x1 : Int32} (o : Int32 × mm_M) (h : pX10_sharedAt n M a0 x1 = some o) : (∃ fs, M.2 a0 = some (mm_ob 10 fs)) ∧ mm_Met l D dA lo yX10_sharedAt cX10_sharedAt 3 (some .int) 3 65 0 0 [.ref a0, .int x1] M (some (.int o.1)) o.2 := by
  unfold pX10_sharedAt at h
  obtain ⟨hob, h⟩ := mm_v_some h
  refine ⟨hob, mm_enter (by decide) (Nat.le_of_ble_eq_true rfl) (fun p e s m args below meth c ls X hr hlk hnm I hl => ?_)⟩
  have X : mm_C D dA lo cX10_sharedAt RX10 3 p s m args c := X
  have hl : lv_has ls 3 [(0, .ref a0), (1, .int x1)] := hl
  refine lv_iconst (v := 0) X.1 X.2.1 dX10_sharedAt_0 (by decide) ?_
  refine lv_istore_n (lv' := [(2, .int 0), (0, .ref a0), (1, .int x1)]) X.1 X.2.1 dX10_sharedAt_1 rfl hl (by decide) rfl (fun ls hl => ?_)
  exact wpX10_sharedAt_l2 X hr hlk n  n M _ _ _ _ _ _ I (lv_sub hl [1, 2, 0] rfl) h
set_option maxHeartbeats 4000000 in
set_option maxRecDepth 100000 in
theorem kX10_all {l : Launch} {D : va_G} {dA : Nat → ClassId} {lo : Nat} {n : Nat} {M : mm_M} {a0 : Nat} {x1 : Int32} {x2 : Int32} (o : Int32 × mm_M) (h : pX10_all n M a0 x1 x2 = some o) : (∃ fs, M.2 a0 = some (mm_ob 10 fs)) ∧ mm_Met l D dA lo yX10_all cX10_all 3 (some .int) 7 159 0 0 [.ref a0, .int x1, .int x2] M (some (.int o.1)) o.2 := by
  unfold pX10_all at h
  obtain ⟨hob, h⟩ := mm_v_some h
  refine ⟨hob, mm_enter (by decide) (Nat.le_of_ble_eq_true rfl) (fun p e s m args below meth c ls X hr hlk hnm I hl => ?_)⟩
  have X : mm_C D dA lo cX10_all RX10 3 p s m args c := X
  have hl : lv_has ls 3 [(0, .ref a0), (1, .int x1), (2, .int x2)] := hl
  refine lv_aload_n X.1 X.2.1 dX10_all_0 rfl (lv_at hl 0 rfl) ?_
  refine mm_cVi X I hl (As := []) (ci := 10) md_X10_isStore mv_X10_isStore ml_X10_139 rfl (kX10_isStore (n := n)) (by decide) ⟨Nat.le_refl 0, Nat.le_refl 0⟩ rfl rfl (Nat.le_of_ble_eq_true rfl) dX10_all_1 h (fun v1 M H locs I h => ?_)
  refine mm_jeq (tgt := 16) X dX10_all_4 (by decide) h (fun h => ?_) (fun h => ?_)
  · refine lv_iconst (v := (-1)) X.1 X.2.1 dX10_all_16 (by decide) ?_
    exact mm_xi X I hr hlk dX10_all_17 h
  · refine lv_iload_n X.1 X.2.1 dX10_all_7 rfl (lv_at hl 2 rfl) ?_
    refine lv_iconst (v := 0) X.1 X.2.1 dX10_all_8 (by decide) ?_
    refine lv_iconst (v := 2) X.1 X.2.1 dX10_all_9 (by decide) ?_
    refine mm_cSi X I hl (As := [.int x2, .int 0, .int 2]) md_X10_in mv_X10_in ml_X10_69 (kX10_in (n := n)) (by decide) ⟨Nat.le_refl 0, Nat.le_refl 0⟩ rfl rfl (Nat.le_of_ble_eq_true rfl) dX10_all_10 h (fun v2 M H locs I h => ?_)
    refine mm_jne (tgt := 18) X dX10_all_13 (by decide) h (fun h => ?_) (fun h => ?_)
    · refine lv_aload_n X.1 X.2.1 dX10_all_18 rfl (lv_at hl 0 rfl) ?_
      refine mm_cVv X I hl (As := []) (ci := 10) md_X10_laysAll mv_X10_laysAll ml_X10_337 rfl (kX10_laysAll (n := n)) (by decide) ⟨Nat.le_refl 0, Nat.le_refl 0⟩ rfl rfl (Nat.le_of_ble_eq_true rfl) dX10_all_19 h (fun M H locs I h => ?_)
      refine lv_iload_n X.1 X.2.1 dX10_all_22 rfl (lv_at hl 1 rfl) ?_
      refine lv_iconst (v := 0) X.1 X.2.1 dX10_all_23 (by decide) ?_
      refine lv_aload_n X.1 X.2.1 dX10_all_24 rfl (lv_at hl 0 rfl) ?_
      refine mm_rgi X I fl_X10_170 dX10_all_25 h (fun v4 h => ?_)
      refine lv_iconst (v := 1) X.1 X.2.1 dX10_all_28 (by decide) ?_
      refine lv_isub X.1 X.2.1 dX10_all_29 ?_
      refine mm_cSi X I hl (As := [.int x1, .int 0, .int (v4 - 1)]) md_X10_in mv_X10_in ml_X10_69 (kX10_in (n := n)) (by decide) ⟨Nat.le_refl 0, Nat.le_refl 0⟩ rfl rfl (Nat.le_of_ble_eq_true rfl) dX10_all_30 h (fun v5 M H locs I h => ?_)
      refine mm_jne (tgt := 38) X dX10_all_33 (by decide) h (fun h => ?_) (fun h => ?_)
      · refine lv_iload_n X.1 X.2.1 dX10_all_38 rfl (lv_at hl 2 rfl) ?_
        refine mm_jne (tgt := 51) X dX10_all_39 (by decide) h (fun h => ?_) (fun h => ?_)
        · refine lv_iload_n X.1 X.2.1 dX10_all_51 rfl (lv_at hl 2 rfl) ?_
          refine lv_iconst (v := 1) X.1 X.2.1 dX10_all_52 (by decide) ?_
          refine mm_kne (tgt := 65) X dX10_all_53 (by decide) h (fun h => ?_) (fun h => ?_)
          · refine lv_iload_n X.1 X.2.1 dX10_all_65 rfl (lv_at hl 1 rfl) ?_
            refine lv_aload_n X.1 X.2.1 dX10_all_66 rfl (lv_at hl 0 rfl) ?_
            refine mm_rgi X I fl_X10_170 dX10_all_67 h (fun v6 h => ?_)
            refine lv_iconst (v := 1) X.1 X.2.1 dX10_all_70 (by decide) ?_
            refine lv_isub X.1 X.2.1 dX10_all_71 ?_
            refine mm_kne (tgt := 79) X dX10_all_72 (by decide) h (fun h => ?_) (fun h => ?_)
            · refine lv_aload_n X.1 X.2.1 dX10_all_79 rfl (lv_at hl 0 rfl) ?_
              refine lv_iload_n X.1 X.2.1 dX10_all_80 rfl (lv_at hl 1 rfl) ?_
              refine mm_cVi X I hl (As := [.int x1]) (ci := 10) md_X10_sharedAt mv_X10_sharedAt ml_X10_340 rfl (kX10_sharedAt (n := n)) (by decide) ⟨Nat.le_refl 0, Nat.le_refl 0⟩ rfl rfl (Nat.le_of_ble_eq_true rfl) dX10_all_81 h (fun v7 M H locs I h => ?_)
              exact mm_xi X I hr hlk dX10_all_84 h
            · refine lv_iconst (v := (-1)) X.1 X.2.1 dX10_all_75 (by decide) ?_
              refine lv_goto (tgt := 84) X.1 X.2.1 dX10_all_76 (by decide) ?_
              exact mm_xi X I hr hlk dX10_all_84 h
          · refine lv_aload_n X.1 X.2.1 dX10_all_56 rfl (lv_at hl 0 rfl) ?_
            refine mm_rgr X I fl_X10_40 dX10_all_57 h (fun v8 h => ?_)
            refine lv_iload_n X.1 X.2.1 dX10_all_60 rfl (lv_at hl 1 rfl) ?_
            refine mm_ria X I dX10_all_61 h (fun v9 h => ?_)
            refine lv_goto (tgt := 84) X.1 X.2.1 dX10_all_62 (by decide) ?_
            exact mm_xi X I hr hlk dX10_all_84 h
        · refine lv_aload_n X.1 X.2.1 dX10_all_42 rfl (lv_at hl 0 rfl) ?_
          refine mm_rgr X I fl_X10_37 dX10_all_43 h (fun v10 h => ?_)
          refine lv_iload_n X.1 X.2.1 dX10_all_46 rfl (lv_at hl 1 rfl) ?_
          refine mm_ria X I dX10_all_47 h (fun v11 h => ?_)
          refine lv_goto (tgt := 84) X.1 X.2.1 dX10_all_48 (by decide) ?_
          exact mm_xi X I hr hlk dX10_all_84 h
      · refine lv_iconst (v := (-1)) X.1 X.2.1 dX10_all_36 (by decide) ?_
        exact mm_xi X I hr hlk dX10_all_37 h
    · refine lv_iconst (v := (-1)) X.1 X.2.1 dX10_all_16 (by decide) ?_
      exact mm_xi X I hr hlk dX10_all_17 h
set_option maxHeartbeats 4000000 in
set_option maxRecDepth 100000 in
theorem wpX10_mostShared_b37 {p : Program} {l : Launch} {e : Env} {s : State} {m : MethodId} {args : Array Value} {below : List Frame} {meth : Method} {c : Code} {D : va_G} {dA : Nat → ClassId} {lo : Nat} (X : mm_C D dA lo cX10_mostShared RX10 3 p s m args c) (hr : meth.sig.returnType = (some .int)) (hlk : meth.locks = false) (n : Nat) {o : Int32 × mm_M} {K8 : mm_M → Nat → Int32 → Int32 → Option (Int32 × mm_M)} (k8 : ∀ (M : mm_M) (a0 : Nat) (x1 : Int32) (x2 : Int32) (H : Heap) (locs : List Loc) (ls : Array Slot), mm_I D dA lo s M H locs → lv_has ls 3 [(0, .ref a0), (1, .int x1), (2, .int x2)] → K8 M a0 x1 x2 = some o → W p l e (mm_rm 7 159 0 0) s m args below meth c H locs 0 0 (MQ below (mm_Q D dA lo (some (.int o.1)) o.2) args s 0 0 (mm_fr lo)) (F0 m 8 ls []))  : ∀ (M : mm_M) (a0 : Nat) (x1 : Int32) (x2 : Int32) (s0 : Int32) (s1 : Int32) (H : Heap) (locs : List Loc) (ls : Array Slot), mm_I D dA lo s M H locs → lv_has ls 3 [(0, .ref a0), (1, .int x1), (2, .int x2)] → pX10_mostShared_b37 n K8 M a0 x1 x2 s0 s1 = some o → W p l e (mm_rm 7 159 0 0) s m args below meth c H locs 0 0 (MQ below (mm_Q D dA lo (some (.int o.1)) o.2) args s 0 0 (mm_fr lo)) (F0 m 37 ls [.int s0, .int s1]) := by
  intro M a0 x1 x2 s0 s1 H locs ls I hl h
  unfold pX10_mostShared_b37 at h
  refine mm_kle (tgt := 44) X dX10_mostShared_37 (by decide) h (fun h => ?_) (fun h => ?_)
  · refine lv_iload_n X.1 X.2.1 dX10_mostShared_44 rfl (lv_at hl 1 rfl) ?_
    refine lv_istore_n (lv' := [(1, .int x1), (0, .ref a0), (2, .int x2)]) X.1 X.2.1 dX10_mostShared_45 rfl hl (by decide) rfl (fun ls hl => ?_)
    refine lv_iinc (v := (x2 + 1)) (lv' := [(2, .int (x2 + 1)), (1, .int x1), (0, .ref a0)]) X.1 X.2.1 dX10_mostShared_46 hl (k := 2) rfl rfl (by decide) rfl (fun ls hl => ?_)
    refine lv_goto (tgt := 8) X.1 X.2.1 dX10_mostShared_49 (by decide) ?_
    exact k8 M _ _ _ _ _ _ I (lv_sub hl [2, 1, 0] rfl) h
  · refine lv_iload_n X.1 X.2.1 dX10_mostShared_40 rfl (lv_at hl 2 rfl) ?_
    refine lv_goto (tgt := 45) X.1 X.2.1 dX10_mostShared_41 (by decide) ?_
    refine lv_istore_n (lv' := [(1, .int x2), (0, .ref a0), (2, .int x2)]) X.1 X.2.1 dX10_mostShared_45 rfl hl (by decide) rfl (fun ls hl => ?_)
    refine lv_iinc (v := (x2 + 1)) (lv' := [(2, .int (x2 + 1)), (1, .int x2), (0, .ref a0)]) X.1 X.2.1 dX10_mostShared_46 hl (k := 2) rfl rfl (by decide) rfl (fun ls hl => ?_)
    refine lv_goto (tgt := 8) X.1 X.2.1 dX10_mostShared_49 (by decide) ?_
    exact k8 M _ _ _ _ _ _ I (lv_sub hl [2, 1, 0] rfl) h
set_option maxHeartbeats 4000000 in
set_option maxRecDepth 100000 in
theorem wpX10_mostShared_l8 {p : Program} {l : Launch} {e : Env} {s : State} {m : MethodId} {args : Array Value} {below : List Frame} {meth : Method} {c : Code} {D : va_G} {dA : Nat → ClassId} {lo : Nat} (X : mm_C D dA lo cX10_mostShared RX10 3 p s m args c) (hr : meth.sig.returnType = (some .int)) (hlk : meth.locks = false) (n : Nat) {o : Int32 × mm_M} (k : Nat) : ∀ (M : mm_M) (a0 : Nat) (x1 : Int32) (x2 : Int32) (H : Heap) (locs : List Loc) (ls : Array Slot), mm_I D dA lo s M H locs → lv_has ls 3 [(0, .ref a0), (1, .int x1), (2, .int x2)] → pX10_mostShared_l8 n k M a0 x1 x2 = some o → W p l e (mm_rm 7 159 0 0) s m args below meth c H locs 0 0 (MQ below (mm_Q D dA lo (some (.int o.1)) o.2) args s 0 0 (mm_fr lo)) (F0 m 8 ls []) := by
  induction k with
  | zero =>
    intro M a0 x1 x2 H locs ls I hl h
    have h : (none : Option (Int32 × mm_M)) = some o := h
    cases h
  | succ k ih =>
    intro M a0 x1 x2 H locs ls I hl h
    have h : pX10_mostShared_l8b n (pX10_mostShared_l8 n k) M a0 x1 x2 = some o := h
    unfold pX10_mostShared_l8b at h
    refine lv_iload_n X.1 X.2.1 dX10_mostShared_8 rfl (lv_at hl 2 rfl) ?_
    refine lv_iconst (v := 1) X.1 X.2.1 dX10_mostShared_9 (by decide) ?_
    refine lv_iadd X.1 X.2.1 dX10_mostShared_10 ?_
    refine lv_aload_n X.1 X.2.1 dX10_mostShared_11 rfl (lv_at hl 0 rfl) ?_
    refine mm_rgi X I fl_X10_170 dX10_mostShared_12 h (fun v1 h => ?_)
    refine mm_kge (tgt := 52) X dX10_mostShared_15 (by decide) h (fun h => ?_) (fun h => ?_)
    · refine lv_iload_n X.1 X.2.1 dX10_mostShared_52 rfl (lv_at hl 1 rfl) ?_
      exact mm_xi X I hr hlk dX10_mostShared_53 h
    · refine lv_aload_n X.1 X.2.1 dX10_mostShared_18 rfl (lv_at hl 0 rfl) ?_
      refine lv_iload_n X.1 X.2.1 dX10_mostShared_19 rfl (lv_at hl 2 rfl) ?_
      refine mm_cVi X I hl (As := [.int x2]) (ci := 10) md_X10_sharedAt mv_X10_sharedAt ml_X10_340 rfl (kX10_sharedAt (n := n)) (by decide) ⟨Nat.le_refl 0, Nat.le_refl 0⟩ rfl rfl (Nat.le_of_ble_eq_true rfl) dX10_mostShared_20 h (fun v2 M H locs I h => ?_)
      refine lv_iload_n X.1 X.2.1 dX10_mostShared_23 rfl (lv_at hl 1 rfl) ?_
      refine lv_iconst (v := (-1)) X.1 X.2.1 dX10_mostShared_24 (by decide) ?_
      refine mm_kne (tgt := 32) X dX10_mostShared_25 (by decide) h (fun h => ?_) (fun h => ?_)
      · refine lv_aload_n X.1 X.2.1 dX10_mostShared_32 rfl (lv_at hl 0 rfl) ?_
        refine lv_iload_n X.1 X.2.1 dX10_mostShared_33 rfl (lv_at hl 1 rfl) ?_
        refine mm_cVi X I hl (As := [.int x1]) (ci := 10) md_X10_sharedAt mv_X10_sharedAt ml_X10_340 rfl (kX10_sharedAt (n := n)) (by decide) ⟨Nat.le_refl 0, Nat.le_refl 0⟩ rfl rfl (Nat.le_of_ble_eq_true rfl) dX10_mostShared_34 h (fun v3 M H locs I h => ?_)
        exact wpX10_mostShared_b37 X hr hlk n ih M _ _ _ _ _ _ _ _ I (lv_sub hl [0, 1, 2] rfl) h
      · refine lv_iconst (v := 0) X.1 X.2.1 dX10_mostShared_28 (by decide) ?_
        refine lv_goto (tgt := 37) X.1 X.2.1 dX10_mostShared_29 (by decide) ?_
        exact wpX10_mostShared_b37 X hr hlk n ih M _ _ _ _ _ _ _ _ I (lv_sub hl [0, 1, 2] rfl) h
set_option maxHeartbeats 4000000 in
set_option maxRecDepth 100000 in
theorem kX10_mostShared {l : Launch} {D : va_G} {dA : Nat → ClassId} {lo : Nat} {n : Nat} {M : mm_M} {a0 : Nat} (o : Int32 × mm_M) (h : pX10_mostShared n M a0 = some o) : (∃ fs, M.2 a0 = some (mm_ob 10 fs)) ∧ mm_Met l D dA lo yX10_mostShared cX10_mostShared 3 (some .int) 7 159 0 0 [.ref a0] M (some (.int o.1)) o.2 := by
  unfold pX10_mostShared at h
  obtain ⟨hob, h⟩ := mm_v_some h
  refine ⟨hob, mm_enter (by decide) (Nat.le_of_ble_eq_true rfl) (fun p e s m args below meth c ls X hr hlk hnm I hl => ?_)⟩
  have X : mm_C D dA lo cX10_mostShared RX10 3 p s m args c := X
  have hl : lv_has ls 3 [(0, .ref a0)] := hl
  refine lv_aload_n X.1 X.2.1 dX10_mostShared_0 rfl (lv_at hl 0 rfl) ?_
  refine mm_cVv X I hl (As := []) (ci := 10) md_X10_laysAll mv_X10_laysAll ml_X10_337 rfl (kX10_laysAll (n := n)) (by decide) ⟨Nat.le_refl 0, Nat.le_refl 0⟩ rfl rfl (Nat.le_of_ble_eq_true rfl) dX10_mostShared_1 h (fun M H locs I h => ?_)
  refine lv_iconst (v := (-1)) X.1 X.2.1 dX10_mostShared_4 (by decide) ?_
  refine lv_istore_n (lv' := [(1, .int (-1)), (0, .ref a0)]) X.1 X.2.1 dX10_mostShared_5 rfl hl (by decide) rfl (fun ls hl => ?_)
  refine lv_iconst (v := 0) X.1 X.2.1 dX10_mostShared_6 (by decide) ?_
  refine lv_istore_n (lv' := [(2, .int 0), (1, .int (-1)), (0, .ref a0)]) X.1 X.2.1 dX10_mostShared_7 rfl hl (by decide) rfl (fun ls hl => ?_)
  exact wpX10_mostShared_l8 X hr hlk n  n M _ _ _ _ _ _ I (lv_sub hl [2, 1, 0] rfl) h
set_option maxHeartbeats 4000000 in
set_option maxRecDepth 100000 in
theorem kX10_twice {l : Launch} {D : va_G} {dA : Nat → ClassId} {lo : Nat} {n : Nat} {M : mm_M} {a0 : Nat} {x1 : Int32} (o : Int32 × mm_M) (h : pX10_twice n M a0 x1 = some o) : (∃ fs, M.2 a0 = some (mm_ob 10 fs)) ∧ mm_Met l D dA lo yX10_twice cX10_twice 3 (some .int) 8 181 0 0 [.ref a0, .int x1] M (some (.int o.1)) o.2 := by
  unfold pX10_twice at h
  obtain ⟨hob, h⟩ := mm_v_some h
  refine ⟨hob, mm_enter (by decide) (Nat.le_of_ble_eq_true rfl) (fun p e s m args below meth c ls X hr hlk hnm I hl => ?_)⟩
  have X : mm_C D dA lo cX10_twice RX10 3 p s m args c := X
  have hl : lv_has ls 3 [(0, .ref a0), (1, .int x1)] := hl
  refine lv_aload_n X.1 X.2.1 dX10_twice_0 rfl (lv_at hl 0 rfl) ?_
  refine mm_cVi X I hl (As := []) (ci := 10) md_X10_isStore mv_X10_isStore ml_X10_139 rfl (kX10_isStore (n := n)) (by decide) ⟨Nat.le_refl 0, Nat.le_refl 0⟩ rfl rfl (Nat.le_of_ble_eq_true rfl) dX10_twice_1 h (fun v1 M H locs I h => ?_)
  refine mm_jeq (tgt := 16) X dX10_twice_4 (by decide) h (fun h => ?_) (fun h => ?_)
  · refine lv_iconst (v := (-1)) X.1 X.2.1 dX10_twice_16 (by decide) ?_
    exact mm_xi X I hr hlk dX10_twice_17 h
  · refine lv_iload_n X.1 X.2.1 dX10_twice_7 rfl (lv_at hl 1 rfl) ?_
    refine lv_iconst (v := 0) X.1 X.2.1 dX10_twice_8 (by decide) ?_
    refine lv_iconst (v := 1) X.1 X.2.1 dX10_twice_9 (by decide) ?_
    refine mm_cSi X I hl (As := [.int x1, .int 0, .int 1]) md_X10_in mv_X10_in ml_X10_69 (kX10_in (n := n)) (by decide) ⟨Nat.le_refl 0, Nat.le_refl 0⟩ rfl rfl (Nat.le_of_ble_eq_true rfl) dX10_twice_10 h (fun v2 M H locs I h => ?_)
    refine mm_jne (tgt := 18) X dX10_twice_13 (by decide) h (fun h => ?_) (fun h => ?_)
    · refine lv_aload_n X.1 X.2.1 dX10_twice_18 rfl (lv_at hl 0 rfl) ?_
      refine mm_cVi X I hl (As := []) (ci := 10) md_X10_mostShared mv_X10_mostShared ml_X10_343 rfl (kX10_mostShared (n := n)) (by decide) ⟨Nat.le_refl 0, Nat.le_refl 0⟩ rfl rfl (Nat.le_of_ble_eq_true rfl) dX10_twice_19 h (fun v3 M H locs I h => ?_)
      refine lv_istore_n (lv' := [(2, .int v3), (0, .ref a0), (1, .int x1)]) X.1 X.2.1 dX10_twice_22 rfl hl (by decide) rfl (fun ls hl => ?_)
      refine lv_iload_n X.1 X.2.1 dX10_twice_23 rfl (lv_at hl 0 rfl) ?_
      refine lv_iconst (v := (-1)) X.1 X.2.1 dX10_twice_24 (by decide) ?_
      refine mm_keq (tgt := 32) X dX10_twice_25 (by decide) h (fun h => ?_) (fun h => ?_)
      · refine lv_iload_n X.1 X.2.1 dX10_twice_32 rfl (lv_at hl 0 rfl) ?_
        refine lv_goto (tgt := 41) X.1 X.2.1 dX10_twice_33 (by decide) ?_
        exact mm_xi X I hr hlk dX10_twice_41 h
      · refine lv_iload_n X.1 X.2.1 dX10_twice_28 rfl (lv_at hl 2 rfl) ?_
        refine mm_jne (tgt := 36) X dX10_twice_29 (by decide) h (fun h => ?_) (fun h => ?_)
        · refine lv_aload_n X.1 X.2.1 dX10_twice_36 rfl (lv_at hl 1 rfl) ?_
          refine lv_iload_n X.1 X.2.1 dX10_twice_37 rfl (lv_at hl 0 rfl) ?_
          refine mm_cVi X I hl (As := [.int v3]) (ci := 10) md_X10_sharedAt mv_X10_sharedAt ml_X10_340 rfl (kX10_sharedAt (n := n)) (by decide) ⟨Nat.le_refl 0, Nat.le_refl 0⟩ rfl rfl (Nat.le_of_ble_eq_true rfl) dX10_twice_38 h (fun v4 M H locs I h => ?_)
          exact mm_xi X I hr hlk dX10_twice_41 h
        · refine lv_iload_n X.1 X.2.1 dX10_twice_32 rfl (lv_at hl 0 rfl) ?_
          refine lv_goto (tgt := 41) X.1 X.2.1 dX10_twice_33 (by decide) ?_
          exact mm_xi X I hr hlk dX10_twice_41 h
    · refine lv_iconst (v := (-1)) X.1 X.2.1 dX10_twice_16 (by decide) ?_
      exact mm_xi X I hr hlk dX10_twice_17 h
set_option maxHeartbeats 4000000 in
set_option maxRecDepth 100000 in
theorem kX10_restOf {l : Launch} {D : va_G} {dA : Nat → ClassId} {lo : Nat} {n : Nat} {M : mm_M} {a0 : Nat} {x1 : Int32} (o : Int32 × mm_M) (h : pX10_restOf n M a0 x1 = some o) : (∃ fs, M.2 a0 = some (mm_ob 10 fs)) ∧ mm_Met l D dA lo yX10_restOf cX10_restOf 2 (some .int) 2 41 0 0 [.ref a0, .int x1] M (some (.int o.1)) o.2 := by
  unfold pX10_restOf at h
  obtain ⟨hob, h⟩ := mm_v_some h
  refine ⟨hob, mm_enter (by decide) (Nat.le_of_ble_eq_true rfl) (fun p e s m args below meth c ls X hr hlk hnm I hl => ?_)⟩
  have X : mm_C D dA lo cX10_restOf RX10 2 p s m args c := X
  have hl : lv_has ls 2 [(0, .ref a0), (1, .int x1)] := hl
  refine lv_aload_n X.1 X.2.1 dX10_restOf_0 rfl (lv_at hl 0 rfl) ?_
  refine lv_aload_n X.1 X.2.1 dX10_restOf_1 rfl (lv_at hl 0 rfl) ?_
  refine mm_rgr X I fl_X10_37 dX10_restOf_2 h (fun v1 h => ?_)
  refine lv_iload_n X.1 X.2.1 dX10_restOf_5 rfl (lv_at hl 1 rfl) ?_
  refine mm_ria X I dX10_restOf_6 h (fun v2 h => ?_)
  refine mm_cVi X I hl (As := [.int v2]) (ci := 10) md_X10_longOf mv_X10_longOf ml_X10_136 rfl (kX10_longOf (n := n)) (by decide) ⟨Nat.le_refl 0, Nat.le_refl 0⟩ rfl rfl (Nat.le_of_ble_eq_true rfl) dX10_restOf_7 h (fun v3 M H locs I h => ?_)
  refine lv_aload_n X.1 X.2.1 dX10_restOf_10 rfl (lv_at hl 0 rfl) ?_
  refine mm_rgr X I fl_X10_40 dX10_restOf_11 h (fun v4 h => ?_)
  refine lv_iload_n X.1 X.2.1 dX10_restOf_14 rfl (lv_at hl 1 rfl) ?_
  refine mm_ria X I dX10_restOf_15 h (fun v5 h => ?_)
  refine lv_isub X.1 X.2.1 dX10_restOf_16 ?_
  exact mm_xi X I hr hlk dX10_restOf_17 h
set_option maxHeartbeats 4000000 in
set_option maxRecDepth 100000 in
theorem wpX10_unlike_b64 {p : Program} {l : Launch} {e : Env} {s : State} {m : MethodId} {args : Array Value} {below : List Frame} {meth : Method} {c : Code} {D : va_G} {dA : Nat → ClassId} {lo : Nat} (X : mm_C D dA lo cX10_unlike RX10 5 p s m args c) (hr : meth.sig.returnType = (some .int)) (hlk : meth.locks = false) (n : Nat) {o : Int32 × mm_M} {K27 : mm_M → Nat → Int32 → Int32 → Int32 → Option (Int32 × mm_M)} (k27 : ∀ (M : mm_M) (a0 : Nat) (x1 : Int32) (x2 : Int32) (x3 : Int32) (H : Heap) (locs : List Loc) (ls : Array Slot), mm_I D dA lo s M H locs → lv_has ls 5 [(0, .ref a0), (1, .int x1), (2, .int x2), (3, .int x3)] → K27 M a0 x1 x2 x3 = some o → W p l e (mm_rm 7 159 0 0) s m args below meth c H locs 0 0 (MQ below (mm_Q D dA lo (some (.int o.1)) o.2) args s 0 0 (mm_fr lo)) (F0 m 27 ls []))  : ∀ (M : mm_M) (a0 : Nat) (x1 : Int32) (x2 : Int32) (x3 : Int32) (s0 : Int32) (H : Heap) (locs : List Loc) (ls : Array Slot), mm_I D dA lo s M H locs → lv_has ls 5 [(0, .ref a0), (1, .int x1), (2, .int x2), (3, .int x3)] → pX10_unlike_b64 n K27 M a0 x1 x2 x3 s0 = some o → W p l e (mm_rm 7 159 0 0) s m args below meth c H locs 0 0 (MQ below (mm_Q D dA lo (some (.int o.1)) o.2) args s 0 0 (mm_fr lo)) (F0 m 64 ls [.int s0]) := by
  intro M a0 x1 x2 x3 s0 H locs ls I hl h
  unfold pX10_unlike_b64 at h
  refine lv_istore (lv' := [(4, .int s0), (0, .ref a0), (1, .int x1), (2, .int x2), (3, .int x3)]) X.1 X.2.1 dX10_unlike_64 hl (by decide) rfl (fun ls hl => ?_)
  refine lv_iload_n X.1 X.2.1 dX10_unlike_66 rfl (lv_at hl 3 rfl) ?_
  refine lv_iload X.1 X.2.1 dX10_unlike_67 (lv_at hl 0 rfl) ?_
  refine mm_jeq (tgt := 76) X dX10_unlike_69 (by decide) h (fun h => ?_) (fun h => ?_)
  · refine lv_iconst (v := 0) X.1 X.2.1 dX10_unlike_76 (by decide) ?_
    refine lv_iadd X.1 X.2.1 dX10_unlike_77 ?_
    refine lv_istore_n (lv' := [(2, .int (x2 + 0)), (4, .int s0), (0, .ref a0), (1, .int x1), (3, .int x3)]) X.1 X.2.1 dX10_unlike_78 rfl hl (by decide) rfl (fun ls hl => ?_)
    refine lv_iinc (v := (x3 + 1)) (lv' := [(3, .int (x3 + 1)), (2, .int (x2 + 0)), (4, .int s0), (0, .ref a0), (1, .int x1)]) X.1 X.2.1 dX10_unlike_79 hl (k := 4) rfl rfl (by decide) rfl (fun ls hl => ?_)
    refine lv_goto (tgt := 27) X.1 X.2.1 dX10_unlike_82 (by decide) ?_
    exact k27 M _ _ _ _ _ _ _ I (lv_sub hl [3, 4, 1, 0] rfl) h
  · refine lv_iconst (v := 1) X.1 X.2.1 dX10_unlike_72 (by decide) ?_
    refine lv_goto (tgt := 77) X.1 X.2.1 dX10_unlike_73 (by decide) ?_
    refine lv_iadd X.1 X.2.1 dX10_unlike_77 ?_
    refine lv_istore_n (lv' := [(2, .int (x2 + 1)), (4, .int s0), (0, .ref a0), (1, .int x1), (3, .int x3)]) X.1 X.2.1 dX10_unlike_78 rfl hl (by decide) rfl (fun ls hl => ?_)
    refine lv_iinc (v := (x3 + 1)) (lv' := [(3, .int (x3 + 1)), (2, .int (x2 + 1)), (4, .int s0), (0, .ref a0), (1, .int x1)]) X.1 X.2.1 dX10_unlike_79 hl (k := 4) rfl rfl (by decide) rfl (fun ls hl => ?_)
    refine lv_goto (tgt := 27) X.1 X.2.1 dX10_unlike_82 (by decide) ?_
    exact k27 M _ _ _ _ _ _ _ I (lv_sub hl [3, 4, 1, 0] rfl) h
set_option maxHeartbeats 4000000 in
set_option maxRecDepth 100000 in
theorem wpX10_unlike_l27 {p : Program} {l : Launch} {e : Env} {s : State} {m : MethodId} {args : Array Value} {below : List Frame} {meth : Method} {c : Code} {D : va_G} {dA : Nat → ClassId} {lo : Nat} (X : mm_C D dA lo cX10_unlike RX10 5 p s m args c) (hr : meth.sig.returnType = (some .int)) (hlk : meth.locks = false) (n : Nat) {o : Int32 × mm_M} (k : Nat) : ∀ (M : mm_M) (a0 : Nat) (x1 : Int32) (x2 : Int32) (x3 : Int32) (H : Heap) (locs : List Loc) (ls : Array Slot), mm_I D dA lo s M H locs → lv_has ls 5 [(0, .ref a0), (1, .int x1), (2, .int x2), (3, .int x3)] → pX10_unlike_l27 n k M a0 x1 x2 x3 = some o → W p l e (mm_rm 7 159 0 0) s m args below meth c H locs 0 0 (MQ below (mm_Q D dA lo (some (.int o.1)) o.2) args s 0 0 (mm_fr lo)) (F0 m 27 ls []) := by
  induction k with
  | zero =>
    intro M a0 x1 x2 x3 H locs ls I hl h
    have h : (none : Option (Int32 × mm_M)) = some o := h
    cases h
  | succ k ih =>
    intro M a0 x1 x2 x3 H locs ls I hl h
    have h : pX10_unlike_l27b n (pX10_unlike_l27 n k) M a0 x1 x2 x3 = some o := h
    unfold pX10_unlike_l27b at h
    refine lv_iload_n X.1 X.2.1 dX10_unlike_27 rfl (lv_at hl 3 rfl) ?_
    refine lv_aload_n X.1 X.2.1 dX10_unlike_28 rfl (lv_at hl 0 rfl) ?_
    refine mm_rgi X I fl_X10_170 dX10_unlike_29 h (fun v1 h => ?_)
    refine mm_kge (tgt := 85) X dX10_unlike_32 (by decide) h (fun h => ?_) (fun h => ?_)
    · refine lv_iload_n X.1 X.2.1 dX10_unlike_85 rfl (lv_at hl 2 rfl) ?_
      exact mm_xi X I hr hlk dX10_unlike_86 h
    · refine lv_aload_n X.1 X.2.1 dX10_unlike_35 rfl (lv_at hl 0 rfl) ?_
      refine lv_iload_n X.1 X.2.1 dX10_unlike_36 rfl (lv_at hl 3 rfl) ?_
      refine mm_cVi X I hl (As := [.int x3]) (ci := 10) md_X10_restOf mv_X10_restOf ml_X10_346 rfl (kX10_restOf (n := n)) (by decide) ⟨Nat.le_refl 0, Nat.le_refl 0⟩ rfl rfl (Nat.le_of_ble_eq_true rfl) dX10_unlike_37 h (fun v2 M H locs I h => ?_)
      refine lv_iload_n X.1 X.2.1 dX10_unlike_40 rfl (lv_at hl 1 rfl) ?_
      refine mm_klt (tgt := 63) X dX10_unlike_41 (by decide) h (fun h => ?_) (fun h => ?_)
      · refine lv_iconst (v := 0) X.1 X.2.1 dX10_unlike_63 (by decide) ?_
        exact wpX10_unlike_b64 X hr hlk n ih M _ _ _ _ _ _ _ _ I (lv_sub hl [0, 1, 2, 3] rfl) h
      · refine lv_iload_n X.1 X.2.1 dX10_unlike_44 rfl (lv_at hl 3 rfl) ?_
        refine mm_jeq (tgt := 59) X dX10_unlike_45 (by decide) h (fun h => ?_) (fun h => ?_)
        · refine lv_iconst (v := 1) X.1 X.2.1 dX10_unlike_59 (by decide) ?_
          refine lv_goto (tgt := 64) X.1 X.2.1 dX10_unlike_60 (by decide) ?_
          exact wpX10_unlike_b64 X hr hlk n ih M _ _ _ _ _ _ _ _ I (lv_sub hl [0, 1, 2, 3] rfl) h
        · refine lv_aload_n X.1 X.2.1 dX10_unlike_48 rfl (lv_at hl 0 rfl) ?_
          refine lv_iload_n X.1 X.2.1 dX10_unlike_49 rfl (lv_at hl 3 rfl) ?_
          refine lv_iconst (v := 1) X.1 X.2.1 dX10_unlike_50 (by decide) ?_
          refine lv_isub X.1 X.2.1 dX10_unlike_51 ?_
          refine mm_cVi X I hl (As := [.int (x3 - 1)]) (ci := 10) md_X10_sharedAt mv_X10_sharedAt ml_X10_340 rfl (kX10_sharedAt (n := n)) (by decide) ⟨Nat.le_refl 0, Nat.le_refl 0⟩ rfl rfl (Nat.le_of_ble_eq_true rfl) dX10_unlike_52 h (fun v3 M H locs I h => ?_)
          refine lv_iload_n X.1 X.2.1 dX10_unlike_55 rfl (lv_at hl 1 rfl) ?_
          refine mm_kge (tgt := 63) X dX10_unlike_56 (by decide) h (fun h => ?_) (fun h => ?_)
          · refine lv_iconst (v := 0) X.1 X.2.1 dX10_unlike_63 (by decide) ?_
            exact wpX10_unlike_b64 X hr hlk n ih M _ _ _ _ _ _ _ _ I (lv_sub hl [0, 1, 2, 3] rfl) h
          · refine lv_iconst (v := 1) X.1 X.2.1 dX10_unlike_59 (by decide) ?_
            refine lv_goto (tgt := 64) X.1 X.2.1 dX10_unlike_60 (by decide) ?_
            exact wpX10_unlike_b64 X hr hlk n ih M _ _ _ _ _ _ _ _ I (lv_sub hl [0, 1, 2, 3] rfl) h
set_option maxHeartbeats 4000000 in
set_option maxRecDepth 100000 in
theorem kX10_unlike {l : Launch} {D : va_G} {dA : Nat → ClassId} {lo : Nat} {n : Nat} {M : mm_M} {a0 : Nat} {x1 : Int32} (o : Int32 × mm_M) (h : pX10_unlike n M a0 x1 = some o) : (∃ fs, M.2 a0 = some (mm_ob 10 fs)) ∧ mm_Met l D dA lo yX10_unlike cX10_unlike 5 (some .int) 7 159 0 0 [.ref a0, .int x1] M (some (.int o.1)) o.2 := by
  unfold pX10_unlike at h
  obtain ⟨hob, h⟩ := mm_v_some h
  refine ⟨hob, mm_enter (by decide) (Nat.le_of_ble_eq_true rfl) (fun p e s m args below meth c ls X hr hlk hnm I hl => ?_)⟩
  have X : mm_C D dA lo cX10_unlike RX10 5 p s m args c := X
  have hl : lv_has ls 5 [(0, .ref a0), (1, .int x1)] := hl
  refine lv_aload_n X.1 X.2.1 dX10_unlike_0 rfl (lv_at hl 0 rfl) ?_
  refine mm_cVi X I hl (As := []) (ci := 10) md_X10_isStore mv_X10_isStore ml_X10_139 rfl (kX10_isStore (n := n)) (by decide) ⟨Nat.le_refl 0, Nat.le_refl 0⟩ rfl rfl (Nat.le_of_ble_eq_true rfl) dX10_unlike_1 h (fun v1 M H locs I h => ?_)
  refine mm_jeq (tgt := 17) X dX10_unlike_4 (by decide) h (fun h => ?_) (fun h => ?_)
  · refine lv_iconst (v := (-1)) X.1 X.2.1 dX10_unlike_17 (by decide) ?_
    exact mm_xi X I hr hlk dX10_unlike_18 h
  · refine lv_iload_n X.1 X.2.1 dX10_unlike_7 rfl (lv_at hl 1 rfl) ?_
    refine lv_iconst (v := 1) X.1 X.2.1 dX10_unlike_8 (by decide) ?_
    refine lv_bipush (v := 6) X.1 X.2.1 dX10_unlike_9 (by decide) ?_
    refine mm_cSi X I hl (As := [.int x1, .int 1, .int 6]) md_X10_in mv_X10_in ml_X10_69 (kX10_in (n := n)) (by decide) ⟨Nat.le_refl 0, Nat.le_refl 0⟩ rfl rfl (Nat.le_of_ble_eq_true rfl) dX10_unlike_11 h (fun v2 M H locs I h => ?_)
    refine mm_jne (tgt := 19) X dX10_unlike_14 (by decide) h (fun h => ?_) (fun h => ?_)
    · refine lv_aload_n X.1 X.2.1 dX10_unlike_19 rfl (lv_at hl 0 rfl) ?_
      refine mm_cVv X I hl (As := []) (ci := 10) md_X10_laysAll mv_X10_laysAll ml_X10_337 rfl (kX10_laysAll (n := n)) (by decide) ⟨Nat.le_refl 0, Nat.le_refl 0⟩ rfl rfl (Nat.le_of_ble_eq_true rfl) dX10_unlike_20 h (fun M H locs I h => ?_)
      refine lv_iconst (v := 0) X.1 X.2.1 dX10_unlike_23 (by decide) ?_
      refine lv_istore_n (lv' := [(2, .int 0), (0, .ref a0), (1, .int x1)]) X.1 X.2.1 dX10_unlike_24 rfl hl (by decide) rfl (fun ls hl => ?_)
      refine lv_iconst (v := 0) X.1 X.2.1 dX10_unlike_25 (by decide) ?_
      refine lv_istore_n (lv' := [(3, .int 0), (2, .int 0), (0, .ref a0), (1, .int x1)]) X.1 X.2.1 dX10_unlike_26 rfl hl (by decide) rfl (fun ls hl => ?_)
      exact wpX10_unlike_l27 X hr hlk n  n M _ _ _ _ _ _ _ I (lv_sub hl [2, 3, 1, 0] rfl) h
    · refine lv_iconst (v := (-1)) X.1 X.2.1 dX10_unlike_17 (by decide) ?_
      exact mm_xi X I hr hlk dX10_unlike_18 h
set_option maxHeartbeats 4000000 in
set_option maxRecDepth 100000 in
theorem wpX10_laysOften_b56 {p : Program} {l : Launch} {e : Env} {s : State} {m : MethodId} {args : Array Value} {below : List Frame} {meth : Method} {c : Code} {D : va_G} {dA : Nat → ClassId} {lo : Nat} (X : mm_C D dA lo cX10_laysOften RX10 4 p s m args c) (hr : meth.sig.returnType = none) (hlk : meth.locks = false) (n : Nat) {o : mm_M} {K13 : mm_M → Nat → Int32 → Int32 → Int32 → Option (mm_M)} (k13 : ∀ (M : mm_M) (a0 : Nat) (x1 : Int32) (x2 : Int32) (x3 : Int32) (H : Heap) (locs : List Loc) (ls : Array Slot), mm_I D dA lo s M H locs → lv_has ls 4 [(0, .ref a0), (1, .int x1), (2, .int x2), (3, .int x3)] → K13 M a0 x1 x2 x3 = some o → W p l e (mm_rm 7 159 0 0) s m args below meth c H locs 0 0 (MQ below (mm_Q D dA lo none o) args s 0 0 (mm_fr lo)) (F0 m 13 ls []))  : ∀ (M : mm_M) (a0 : Nat) (x1 : Int32) (x3 : Int32) (s0 : Int32) (H : Heap) (locs : List Loc) (ls : Array Slot), mm_I D dA lo s M H locs → lv_has ls 4 [(0, .ref a0), (1, .int x1), (3, .int x3)] → pX10_laysOften_b56 n K13 M a0 x1 x3 s0 = some o → W p l e (mm_rm 7 159 0 0) s m args below meth c H locs 0 0 (MQ below (mm_Q D dA lo none o) args s 0 0 (mm_fr lo)) (F0 m 56 ls [.int s0]) := by
  intro M a0 x1 x3 s0 H locs ls I hl h
  unfold pX10_laysOften_b56 at h
  refine lv_istore_n (lv' := [(2, .int s0), (0, .ref a0), (1, .int x1), (3, .int x3)]) X.1 X.2.1 dX10_laysOften_56 rfl hl (by decide) rfl (fun ls hl => ?_)
  refine lv_iload_n X.1 X.2.1 dX10_laysOften_57 rfl (lv_at hl 0 rfl) ?_
  refine lv_aload_n X.1 X.2.1 dX10_laysOften_58 rfl (lv_at hl 1 rfl) ?_
  refine mm_rgi X I fl_X10_349 dX10_laysOften_59 h (fun v1 h => ?_)
  refine mm_kle (tgt := 90) X dX10_laysOften_62 (by decide) h (fun h => ?_) (fun h => ?_)
  · refine lv_iinc (v := (x3 + 1)) (lv' := [(3, .int (x3 + 1)), (2, .int s0), (0, .ref a0), (1, .int x1)]) X.1 X.2.1 dX10_laysOften_90 hl (k := 3) rfl rfl (by decide) rfl (fun ls hl => ?_)
    refine lv_goto (tgt := 13) X.1 X.2.1 dX10_laysOften_93 (by decide) ?_
    exact k13 M _ _ _ _ _ _ _ I (lv_sub hl [2, 3, 1, 0] rfl) h
  · refine lv_aload_n X.1 X.2.1 dX10_laysOften_65 rfl (lv_at hl 1 rfl) ?_
    refine lv_iload_n X.1 X.2.1 dX10_laysOften_66 rfl (lv_at hl 0 rfl) ?_
    refine mm_rpi X I fl_X10_349 dX10_laysOften_67 h (fun M H locs I h => ?_)
    refine lv_aload_n X.1 X.2.1 dX10_laysOften_70 rfl (lv_at hl 1 rfl) ?_
    refine lv_aload_n X.1 X.2.1 dX10_laysOften_71 rfl (lv_at hl 1 rfl) ?_
    refine mm_rgr X I fl_X10_37 dX10_laysOften_72 h (fun v2 h => ?_)
    refine lv_iload_n X.1 X.2.1 dX10_laysOften_75 rfl (lv_at hl 3 rfl) ?_
    refine mm_ria X I dX10_laysOften_76 h (fun v3 h => ?_)
    refine mm_rpi X I fl_X10_352 dX10_laysOften_77 h (fun M H locs I h => ?_)
    refine lv_aload_n X.1 X.2.1 dX10_laysOften_80 rfl (lv_at hl 1 rfl) ?_
    refine lv_aload_n X.1 X.2.1 dX10_laysOften_81 rfl (lv_at hl 1 rfl) ?_
    refine mm_rgr X I fl_X10_40 dX10_laysOften_82 h (fun v4 h => ?_)
    refine lv_iload_n X.1 X.2.1 dX10_laysOften_85 rfl (lv_at hl 3 rfl) ?_
    refine mm_ria X I dX10_laysOften_86 h (fun v5 h => ?_)
    refine mm_rpi X I fl_X10_355 dX10_laysOften_87 h (fun M H locs I h => ?_)
    refine lv_iinc (v := (x3 + 1)) (lv' := [(3, .int (x3 + 1)), (2, .int s0), (0, .ref a0), (1, .int x1)]) X.1 X.2.1 dX10_laysOften_90 hl (k := 3) rfl rfl (by decide) rfl (fun ls hl => ?_)
    refine lv_goto (tgt := 13) X.1 X.2.1 dX10_laysOften_93 (by decide) ?_
    exact k13 M _ _ _ _ _ _ _ I (lv_sub hl [2, 3, 1, 0] rfl) h
set_option maxHeartbeats 4000000 in
set_option maxRecDepth 100000 in
theorem wpX10_laysOften_b96 {p : Program} {l : Launch} {e : Env} {s : State} {m : MethodId} {args : Array Value} {below : List Frame} {meth : Method} {c : Code} {D : va_G} {dA : Nat → ClassId} {lo : Nat} (X : mm_C D dA lo cX10_laysOften RX10 4 p s m args c) (hr : meth.sig.returnType = none) (hlk : meth.locks = false) (n : Nat) {o : mm_M}  : ∀ (M : mm_M) (a0 : Nat) (x1 : Int32) (H : Heap) (locs : List Loc) (ls : Array Slot), mm_I D dA lo s M H locs → lv_has ls 4 [(0, .ref a0), (1, .int x1)] → pX10_laysOften_b96 n M a0 x1 = some o → W p l e (mm_rm 7 159 0 0) s m args below meth c H locs 0 0 (MQ below (mm_Q D dA lo none o) args s 0 0 (mm_fr lo)) (F0 m 96 ls []) := by
  intro M a0 x1 H locs ls I hl h
  unfold pX10_laysOften_b96 at h
  refine lv_aload_n X.1 X.2.1 dX10_laysOften_96 rfl (lv_at hl 0 rfl) ?_
  refine mm_rgi X I fl_X10_349 dX10_laysOften_97 h (fun v1 h => ?_)
  refine mm_jle (tgt := 146) X dX10_laysOften_100 (by decide) h (fun h => ?_) (fun h => ?_)
  · exact mm_xv X I hr hlk dX10_laysOften_146 h
  · refine lv_aload_n X.1 X.2.1 dX10_laysOften_103 rfl (lv_at hl 0 rfl) ?_
    refine lv_aload_n X.1 X.2.1 dX10_laysOften_104 rfl (lv_at hl 0 rfl) ?_
    refine mm_rgr X I fl_X10_28 dX10_laysOften_105 h (fun v2 h => ?_)
    refine lv_aload_n X.1 X.2.1 dX10_laysOften_108 rfl (lv_at hl 0 rfl) ?_
    refine mm_rgi X I fl_X10_352 dX10_laysOften_109 h (fun v3 h => ?_)
    refine mm_cSi X I hl (As := [.int v3]) md_X10_lineAt mv_X10_lineAt ml_X10_129 (kX10_lineAt (n := n)) (by decide) ⟨Nat.le_refl 0, Nat.le_refl 0⟩ rfl rfl (Nat.le_of_ble_eq_true rfl) dX10_laysOften_112 h (fun v4 M H locs I h => ?_)
    refine lv_iconst (v := 2) X.1 X.2.1 dX10_laysOften_115 (by decide) ?_
    refine lv_iadd X.1 X.2.1 dX10_laysOften_116 ?_
    refine lv_aload_n X.1 X.2.1 dX10_laysOften_117 rfl (lv_at hl 0 rfl) ?_
    refine mm_rgi X I fl_X10_355 dX10_laysOften_118 h (fun v5 h => ?_)
    refine lv_iadd X.1 X.2.1 dX10_laysOften_121 ?_
    refine lv_iload_n X.1 X.2.1 dX10_laysOften_122 rfl (lv_at hl 1 rfl) ?_
    refine mm_cVv X I hl (As := [.ref v2, .int ((v4 + 2) + v5), .int x1]) (ci := 10) md_X10_laysHits mv_X10_laysHits ml_X10_166 rfl (kX10_laysHits (n := n)) (by decide) ⟨Nat.le_refl 0, Nat.le_refl 0⟩ rfl rfl (Nat.le_of_ble_eq_true rfl) dX10_laysOften_123 h (fun M H locs I h => ?_)
    refine lv_aload_n X.1 X.2.1 dX10_laysOften_126 rfl (lv_at hl 0 rfl) ?_
    refine lv_aload_n X.1 X.2.1 dX10_laysOften_127 rfl (lv_at hl 0 rfl) ?_
    refine mm_rgr X I fl_X10_37 dX10_laysOften_128 h (fun v7 h => ?_)
    refine lv_iconst (v := 0) X.1 X.2.1 dX10_laysOften_131 (by decide) ?_
    refine mm_ria X I dX10_laysOften_132 h (fun v8 h => ?_)
    refine mm_rpi X I fl_X10_352 dX10_laysOften_133 h (fun M H locs I h => ?_)
    refine lv_aload_n X.1 X.2.1 dX10_laysOften_136 rfl (lv_at hl 0 rfl) ?_
    refine lv_aload_n X.1 X.2.1 dX10_laysOften_137 rfl (lv_at hl 0 rfl) ?_
    refine mm_rgr X I fl_X10_40 dX10_laysOften_138 h (fun v9 h => ?_)
    refine lv_iconst (v := 0) X.1 X.2.1 dX10_laysOften_141 (by decide) ?_
    refine mm_ria X I dX10_laysOften_142 h (fun v10 h => ?_)
    refine mm_rpi X I fl_X10_355 dX10_laysOften_143 h (fun M H locs I h => ?_)
    exact mm_xv X I hr hlk dX10_laysOften_146 h
set_option maxHeartbeats 4000000 in
set_option maxRecDepth 100000 in
theorem wpX10_laysOften_l13 {p : Program} {l : Launch} {e : Env} {s : State} {m : MethodId} {args : Array Value} {below : List Frame} {meth : Method} {c : Code} {D : va_G} {dA : Nat → ClassId} {lo : Nat} (X : mm_C D dA lo cX10_laysOften RX10 4 p s m args c) (hr : meth.sig.returnType = none) (hlk : meth.locks = false) (n : Nat) {o : mm_M} (k : Nat) : ∀ (M : mm_M) (a0 : Nat) (x1 : Int32) (x2 : Int32) (x3 : Int32) (H : Heap) (locs : List Loc) (ls : Array Slot), mm_I D dA lo s M H locs → lv_has ls 4 [(0, .ref a0), (1, .int x1), (2, .int x2), (3, .int x3)] → pX10_laysOften_l13 n k M a0 x1 x2 x3 = some o → W p l e (mm_rm 7 159 0 0) s m args below meth c H locs 0 0 (MQ below (mm_Q D dA lo none o) args s 0 0 (mm_fr lo)) (F0 m 13 ls []) := by
  induction k with
  | zero =>
    intro M a0 x1 x2 x3 H locs ls I hl h
    have h : (none : Option (mm_M)) = some o := h
    cases h
  | succ k ih =>
    intro M a0 x1 x2 x3 H locs ls I hl h
    have h : pX10_laysOften_l13b n (pX10_laysOften_l13 n k) M a0 x1 x2 x3 = some o := h
    unfold pX10_laysOften_l13b at h
    refine lv_iload_n X.1 X.2.1 dX10_laysOften_13 rfl (lv_at hl 3 rfl) ?_
    refine lv_aload_n X.1 X.2.1 dX10_laysOften_14 rfl (lv_at hl 0 rfl) ?_
    refine mm_rgi X I fl_X10_170 dX10_laysOften_15 h (fun v1 h => ?_)
    refine mm_kge (tgt := 96) X dX10_laysOften_18 (by decide) h (fun h => ?_) (fun h => ?_)
    · exact wpX10_laysOften_b96 X hr hlk n  M _ _ _ _ _ I (lv_sub hl [0, 1] rfl) h
    · refine lv_aload_n X.1 X.2.1 dX10_laysOften_21 rfl (lv_at hl 0 rfl) ?_
      refine lv_iload_n X.1 X.2.1 dX10_laysOften_22 rfl (lv_at hl 3 rfl) ?_
      refine mm_cVi X I hl (As := [.int x3]) (ci := 10) md_X10_restOf mv_X10_restOf ml_X10_346 rfl (kX10_restOf (n := n)) (by decide) ⟨Nat.le_refl 0, Nat.le_refl 0⟩ rfl rfl (Nat.le_of_ble_eq_true rfl) dX10_laysOften_23 h (fun v2 M H locs I h => ?_)
      refine lv_iload_n X.1 X.2.1 dX10_laysOften_26 rfl (lv_at hl 1 rfl) ?_
      refine mm_kge (tgt := 34) X dX10_laysOften_27 (by decide) h (fun h => ?_) (fun h => ?_)
      · refine lv_iload_n X.1 X.2.1 dX10_laysOften_34 rfl (lv_at hl 3 rfl) ?_
        refine mm_jle (tgt := 55) X dX10_laysOften_35 (by decide) h (fun h => ?_) (fun h => ?_)
        · refine lv_iconst (v := 1) X.1 X.2.1 dX10_laysOften_55 (by decide) ?_
          exact wpX10_laysOften_b56 X hr hlk n ih M _ _ _ _ _ _ _ I (lv_sub hl [0, 1, 3] rfl) h
        · refine lv_aload_n X.1 X.2.1 dX10_laysOften_38 rfl (lv_at hl 0 rfl) ?_
          refine lv_iload_n X.1 X.2.1 dX10_laysOften_39 rfl (lv_at hl 3 rfl) ?_
          refine lv_iconst (v := 1) X.1 X.2.1 dX10_laysOften_40 (by decide) ?_
          refine lv_isub X.1 X.2.1 dX10_laysOften_41 ?_
          refine mm_cVi X I hl (As := [.int (x3 - 1)]) (ci := 10) md_X10_sharedAt mv_X10_sharedAt ml_X10_340 rfl (kX10_sharedAt (n := n)) (by decide) ⟨Nat.le_refl 0, Nat.le_refl 0⟩ rfl rfl (Nat.le_of_ble_eq_true rfl) dX10_laysOften_42 h (fun v3 M H locs I h => ?_)
          refine lv_iload_n X.1 X.2.1 dX10_laysOften_45 rfl (lv_at hl 1 rfl) ?_
          refine mm_klt (tgt := 55) X dX10_laysOften_46 (by decide) h (fun h => ?_) (fun h => ?_)
          · refine lv_iconst (v := 1) X.1 X.2.1 dX10_laysOften_55 (by decide) ?_
            exact wpX10_laysOften_b56 X hr hlk n ih M _ _ _ _ _ _ _ I (lv_sub hl [0, 1, 3] rfl) h
          · refine lv_iload_n X.1 X.2.1 dX10_laysOften_49 rfl (lv_at hl 2 rfl) ?_
            refine lv_iconst (v := 1) X.1 X.2.1 dX10_laysOften_50 (by decide) ?_
            refine lv_iadd X.1 X.2.1 dX10_laysOften_51 ?_
            refine lv_goto (tgt := 56) X.1 X.2.1 dX10_laysOften_52 (by decide) ?_
            exact wpX10_laysOften_b56 X hr hlk n ih M _ _ _ _ _ _ _ I (lv_sub hl [0, 1, 3] rfl) h
      · refine lv_iconst (v := 0) X.1 X.2.1 dX10_laysOften_30 (by decide) ?_
        refine lv_goto (tgt := 56) X.1 X.2.1 dX10_laysOften_31 (by decide) ?_
        exact wpX10_laysOften_b56 X hr hlk n ih M _ _ _ _ _ _ _ I (lv_sub hl [0, 1, 3] rfl) h
set_option maxHeartbeats 4000000 in
set_option maxRecDepth 100000 in
theorem kX10_laysOften {l : Launch} {D : va_G} {dA : Nat → ClassId} {lo : Nat} {n : Nat} {M : mm_M} {a0 : Nat} {x1 : Int32} (o : mm_M) (h : pX10_laysOften n M a0 x1 = some o) : (∃ fs, M.2 a0 = some (mm_ob 10 fs)) ∧ mm_Met l D dA lo yX10_laysOften cX10_laysOften 4 none 7 159 0 0 [.ref a0, .int x1] M none o := by
  unfold pX10_laysOften at h
  obtain ⟨hob, h⟩ := mm_v_some h
  refine ⟨hob, mm_enter (by decide) (Nat.le_of_ble_eq_true rfl) (fun p e s m args below meth c ls X hr hlk hnm I hl => ?_)⟩
  have X : mm_C D dA lo cX10_laysOften RX10 4 p s m args c := X
  have hl : lv_has ls 4 [(0, .ref a0), (1, .int x1)] := hl
  refine lv_aload_n X.1 X.2.1 dX10_laysOften_0 rfl (lv_at hl 0 rfl) ?_
  refine mm_cVv X I hl (As := []) (ci := 10) md_X10_laysAll mv_X10_laysAll ml_X10_337 rfl (kX10_laysAll (n := n)) (by decide) ⟨Nat.le_refl 0, Nat.le_refl 0⟩ rfl rfl (Nat.le_of_ble_eq_true rfl) dX10_laysOften_1 h (fun M H locs I h => ?_)
  refine lv_aload_n X.1 X.2.1 dX10_laysOften_4 rfl (lv_at hl 0 rfl) ?_
  refine lv_iconst (v := 0) X.1 X.2.1 dX10_laysOften_5 (by decide) ?_
  refine mm_rpi X I fl_X10_349 dX10_laysOften_6 h (fun M H locs I h => ?_)
  refine lv_iconst (v := 0) X.1 X.2.1 dX10_laysOften_9 (by decide) ?_
  refine lv_istore_n (lv' := [(2, .int 0), (0, .ref a0), (1, .int x1)]) X.1 X.2.1 dX10_laysOften_10 rfl hl (by decide) rfl (fun ls hl => ?_)
  refine lv_iconst (v := 0) X.1 X.2.1 dX10_laysOften_11 (by decide) ?_
  refine lv_istore_n (lv' := [(3, .int 0), (2, .int 0), (0, .ref a0), (1, .int x1)]) X.1 X.2.1 dX10_laysOften_12 rfl hl (by decide) rfl (fun ls hl => ?_)
  exact wpX10_laysOften_l13 X hr hlk n  n M _ _ _ _ _ _ _ I (lv_sub hl [2, 3, 1, 0] rfl) h
set_option maxHeartbeats 4000000 in
set_option maxRecDepth 100000 in
theorem kX10_frequent {l : Launch} {D : va_G} {dA : Nat → ClassId} {lo : Nat} {n : Nat} {M : mm_M} {a0 : Nat} {x1 : Int32} {x2 : Int32} (o : Int32 × mm_M) (h : pX10_frequent n M a0 x1 x2 = some o) : (∃ fs, M.2 a0 = some (mm_ob 10 fs)) ∧ mm_Met l D dA lo yX10_frequent cX10_frequent 3 (some .int) 8 182 0 0 [.ref a0, .int x1, .int x2] M (some (.int o.1)) o.2 := by
  unfold pX10_frequent at h
  obtain ⟨hob, h⟩ := mm_v_some h
  refine ⟨hob, mm_enter (by decide) (Nat.le_of_ble_eq_true rfl) (fun p e s m args below meth c ls X hr hlk hnm I hl => ?_)⟩
  have X : mm_C D dA lo cX10_frequent RX10 3 p s m args c := X
  have hl : lv_has ls 3 [(0, .ref a0), (1, .int x1), (2, .int x2)] := hl
  refine lv_aload_n X.1 X.2.1 dX10_frequent_0 rfl (lv_at hl 0 rfl) ?_
  refine mm_cVi X I hl (As := []) (ci := 10) md_X10_isStore mv_X10_isStore ml_X10_139 rfl (kX10_isStore (n := n)) (by decide) ⟨Nat.le_refl 0, Nat.le_refl 0⟩ rfl rfl (Nat.le_of_ble_eq_true rfl) dX10_frequent_1 h (fun v1 M H locs I h => ?_)
  refine mm_jeq (tgt := 26) X dX10_frequent_4 (by decide) h (fun h => ?_) (fun h => ?_)
  · refine lv_iconst (v := (-1)) X.1 X.2.1 dX10_frequent_26 (by decide) ?_
    exact mm_xi X I hr hlk dX10_frequent_27 h
  · refine lv_iload_n X.1 X.2.1 dX10_frequent_7 rfl (lv_at hl 1 rfl) ?_
    refine lv_iconst (v := 1) X.1 X.2.1 dX10_frequent_8 (by decide) ?_
    refine lv_bipush (v := 6) X.1 X.2.1 dX10_frequent_9 (by decide) ?_
    refine mm_cSi X I hl (As := [.int x1, .int 1, .int 6]) md_X10_in mv_X10_in ml_X10_69 (kX10_in (n := n)) (by decide) ⟨Nat.le_refl 0, Nat.le_refl 0⟩ rfl rfl (Nat.le_of_ble_eq_true rfl) dX10_frequent_11 h (fun v2 M H locs I h => ?_)
    refine mm_jeq (tgt := 26) X dX10_frequent_14 (by decide) h (fun h => ?_) (fun h => ?_)
    · refine lv_iconst (v := (-1)) X.1 X.2.1 dX10_frequent_26 (by decide) ?_
      exact mm_xi X I hr hlk dX10_frequent_27 h
    · refine lv_iload_n X.1 X.2.1 dX10_frequent_17 rfl (lv_at hl 2 rfl) ?_
      refine lv_iconst (v := 0) X.1 X.2.1 dX10_frequent_18 (by decide) ?_
      refine lv_iconst (v := 2) X.1 X.2.1 dX10_frequent_19 (by decide) ?_
      refine mm_cSi X I hl (As := [.int x2, .int 0, .int 2]) md_X10_in mv_X10_in ml_X10_69 (kX10_in (n := n)) (by decide) ⟨Nat.le_refl 0, Nat.le_refl 0⟩ rfl rfl (Nat.le_of_ble_eq_true rfl) dX10_frequent_20 h (fun v3 M H locs I h => ?_)
      refine mm_jne (tgt := 28) X dX10_frequent_23 (by decide) h (fun h => ?_) (fun h => ?_)
      · refine lv_aload_n X.1 X.2.1 dX10_frequent_28 rfl (lv_at hl 0 rfl) ?_
        refine lv_iload_n X.1 X.2.1 dX10_frequent_29 rfl (lv_at hl 1 rfl) ?_
        refine mm_cVv X I hl (As := [.int x1]) (ci := 10) md_X10_laysOften mv_X10_laysOften ml_X10_358 rfl (kX10_laysOften (n := n)) (by decide) ⟨Nat.le_refl 0, Nat.le_refl 0⟩ rfl rfl (Nat.le_of_ble_eq_true rfl) dX10_frequent_30 h (fun M H locs I h => ?_)
        refine lv_aload_n X.1 X.2.1 dX10_frequent_33 rfl (lv_at hl 0 rfl) ?_
        refine mm_rgi X I fl_X10_349 dX10_frequent_34 h (fun v5 h => ?_)
        refine mm_jne (tgt := 44) X dX10_frequent_37 (by decide) h (fun h => ?_) (fun h => ?_)
        · refine lv_iload_n X.1 X.2.1 dX10_frequent_44 rfl (lv_at hl 2 rfl) ?_
          refine mm_jne (tgt := 55) X dX10_frequent_45 (by decide) h (fun h => ?_) (fun h => ?_)
          · refine lv_iload_n X.1 X.2.1 dX10_frequent_55 rfl (lv_at hl 2 rfl) ?_
            refine lv_iconst (v := 1) X.1 X.2.1 dX10_frequent_56 (by decide) ?_
            refine mm_kne (tgt := 67) X dX10_frequent_57 (by decide) h (fun h => ?_) (fun h => ?_)
            · refine lv_aload_n X.1 X.2.1 dX10_frequent_67 rfl (lv_at hl 0 rfl) ?_
              refine mm_rgi X I fl_X10_355 dX10_frequent_68 h (fun v6 h => ?_)
              exact mm_xi X I hr hlk dX10_frequent_71 h
            · refine lv_aload_n X.1 X.2.1 dX10_frequent_60 rfl (lv_at hl 0 rfl) ?_
              refine mm_rgi X I fl_X10_352 dX10_frequent_61 h (fun v7 h => ?_)
              refine lv_goto (tgt := 71) X.1 X.2.1 dX10_frequent_64 (by decide) ?_
              exact mm_xi X I hr hlk dX10_frequent_71 h
          · refine lv_aload_n X.1 X.2.1 dX10_frequent_48 rfl (lv_at hl 0 rfl) ?_
            refine mm_rgi X I fl_X10_349 dX10_frequent_49 h (fun v8 h => ?_)
            refine lv_goto (tgt := 71) X.1 X.2.1 dX10_frequent_52 (by decide) ?_
            exact mm_xi X I hr hlk dX10_frequent_71 h
        · refine lv_iconst (v := (-1)) X.1 X.2.1 dX10_frequent_40 (by decide) ?_
          refine lv_goto (tgt := 71) X.1 X.2.1 dX10_frequent_41 (by decide) ?_
          exact mm_xi X I hr hlk dX10_frequent_71 h
      · refine lv_iconst (v := (-1)) X.1 X.2.1 dX10_frequent_26 (by decide) ?_
        exact mm_xi X I hr hlk dX10_frequent_27 h
set_option maxHeartbeats 4000000 in
set_option maxRecDepth 100000 in
theorem wpX10_few_l13 {p : Program} {l : Launch} {e : Env} {s : State} {m : MethodId} {args : Array Value} {below : List Frame} {meth : Method} {c : Code} {D : va_G} {dA : Nat → ClassId} {lo : Nat} (X : mm_C D dA lo cX10_few RX10 4 p s m args c) (hr : meth.sig.returnType = (some .int)) (hlk : meth.locks = false) (n : Nat) {o : Int32 × mm_M} (k : Nat) : ∀ (M : mm_M) (a0 : Nat) (x1 : Int32) (x2 : Int32) (x3 : Int32) (H : Heap) (locs : List Loc) (ls : Array Slot), mm_I D dA lo s M H locs → lv_has ls 4 [(0, .ref a0), (1, .int x1), (2, .int x2), (3, .int x3)] → pX10_few_l13 n k M a0 x1 x2 x3 = some o → W p l e (mm_rm 4 95 0 0) s m args below meth c H locs 0 0 (MQ below (mm_Q D dA lo (some (.int o.1)) o.2) args s 0 0 (mm_fr lo)) (F0 m 13 ls []) := by
  induction k with
  | zero =>
    intro M a0 x1 x2 x3 H locs ls I hl h
    have h : (none : Option (Int32 × mm_M)) = some o := h
    cases h
  | succ k ih =>
    intro M a0 x1 x2 x3 H locs ls I hl h
    have h : pX10_few_l13b n (pX10_few_l13 n k) M a0 x1 x2 x3 = some o := h
    unfold pX10_few_l13b at h
    refine lv_iload_n X.1 X.2.1 dX10_few_13 rfl (lv_at hl 2 rfl) ?_
    refine lv_iload_n X.1 X.2.1 dX10_few_14 rfl (lv_at hl 3 rfl) ?_
    refine lv_iadd X.1 X.2.1 dX10_few_15 ?_
    refine lv_aload_n X.1 X.2.1 dX10_few_16 rfl (lv_at hl 0 rfl) ?_
    refine lv_iload_n X.1 X.2.1 dX10_few_17 rfl (lv_at hl 1 rfl) ?_
    refine mm_cVi X I hl (As := [.int x1]) (ci := 10) md_X10_longOf mv_X10_longOf ml_X10_136 rfl (kX10_longOf (n := n)) (by decide) ⟨Nat.le_refl 0, Nat.le_refl 0⟩ rfl rfl (Nat.le_of_ble_eq_true rfl) dX10_few_18 h (fun v1 M H locs I h => ?_)
    refine mm_kgt (tgt := 53) X dX10_few_21 (by decide) h (fun h => ?_) (fun h => ?_)
    · refine lv_iconst (v := (-1)) X.1 X.2.1 dX10_few_53 (by decide) ?_
      exact mm_xi X I hr hlk dX10_few_54 h
    · refine lv_aload_n X.1 X.2.1 dX10_few_24 rfl (lv_at hl 0 rfl) ?_
      refine lv_aload_n X.1 X.2.1 dX10_few_25 rfl (lv_at hl 0 rfl) ?_
      refine mm_rgr X I fl_X10_28 dX10_few_26 h (fun v2 h => ?_)
      refine lv_iload_n X.1 X.2.1 dX10_few_29 rfl (lv_at hl 1 rfl) ?_
      refine mm_cSi X I hl (As := [.int x1]) md_X10_lineAt mv_X10_lineAt ml_X10_129 (kX10_lineAt (n := n)) (by decide) ⟨Nat.le_refl 0, Nat.le_refl 0⟩ rfl rfl (Nat.le_of_ble_eq_true rfl) dX10_few_30 h (fun v3 M H locs I h => ?_)
      refine lv_iconst (v := 2) X.1 X.2.1 dX10_few_33 (by decide) ?_
      refine lv_iadd X.1 X.2.1 dX10_few_34 ?_
      refine lv_iload_n X.1 X.2.1 dX10_few_35 rfl (lv_at hl 2 rfl) ?_
      refine lv_iadd X.1 X.2.1 dX10_few_36 ?_
      refine lv_iload_n X.1 X.2.1 dX10_few_37 rfl (lv_at hl 3 rfl) ?_
      refine mm_cVi X I hl (As := [.ref v2, .int ((v3 + 2) + x2), .int x3]) (ci := 10) md_X10_countOf mv_X10_countOf ml_X10_361 rfl (kX10_countOf (n := n)) (by decide) ⟨Nat.le_refl 0, Nat.le_refl 0⟩ rfl rfl (Nat.le_of_ble_eq_true rfl) dX10_few_38 h (fun v4 M H locs I h => ?_)
      refine lv_iconst (v := 1) X.1 X.2.1 dX10_few_41 (by decide) ?_
      refine mm_kne (tgt := 47) X dX10_few_42 (by decide) h (fun h => ?_) (fun h => ?_)
      · refine lv_iinc (v := (x3 + 1)) (lv' := [(3, .int (x3 + 1)), (0, .ref a0), (1, .int x1), (2, .int x2)]) X.1 X.2.1 dX10_few_47 hl (k := 3) rfl rfl (by decide) rfl (fun ls hl => ?_)
        refine lv_goto (tgt := 13) X.1 X.2.1 dX10_few_50 (by decide) ?_
        exact ih M _ _ _ _ _ _ _ I (lv_sub hl [1, 2, 3, 0] rfl) h
      · refine lv_iload_n X.1 X.2.1 dX10_few_45 rfl (lv_at hl 3 rfl) ?_
        exact mm_xi X I hr hlk dX10_few_46 h
set_option maxHeartbeats 4000000 in
set_option maxRecDepth 100000 in
theorem kX10_few {l : Launch} {D : va_G} {dA : Nat → ClassId} {lo : Nat} {n : Nat} {M : mm_M} {a0 : Nat} {x1 : Int32} {x2 : Int32} (o : Int32 × mm_M) (h : pX10_few n M a0 x1 x2 = some o) : (∃ fs, M.2 a0 = some (mm_ob 10 fs)) ∧ mm_Met l D dA lo yX10_few cX10_few 4 (some .int) 4 95 0 0 [.ref a0, .int x1, .int x2] M (some (.int o.1)) o.2 := by
  unfold pX10_few at h
  obtain ⟨hob, h⟩ := mm_v_some h
  refine ⟨hob, mm_enter (by decide) (Nat.le_of_ble_eq_true rfl) (fun p e s m args below meth c ls X hr hlk hnm I hl => ?_)⟩
  have X : mm_C D dA lo cX10_few RX10 4 p s m args c := X
  have hl : lv_has ls 4 [(0, .ref a0), (1, .int x1), (2, .int x2)] := hl
  refine lv_aload_n X.1 X.2.1 dX10_few_0 rfl (lv_at hl 0 rfl) ?_
  refine lv_iload_n X.1 X.2.1 dX10_few_1 rfl (lv_at hl 1 rfl) ?_
  refine lv_iload_n X.1 X.2.1 dX10_few_2 rfl (lv_at hl 2 rfl) ?_
  refine mm_cVi X I hl (As := [.int x1, .int x2]) (ci := 10) md_X10_isPlace mv_X10_isPlace ml_X10_330 rfl (kX10_isPlace (n := n)) (by decide) ⟨Nat.le_refl 0, Nat.le_refl 0⟩ rfl rfl (Nat.le_of_ble_eq_true rfl) dX10_few_3 h (fun v1 M H locs I h => ?_)
  refine mm_jne (tgt := 11) X dX10_few_6 (by decide) h (fun h => ?_) (fun h => ?_)
  · refine lv_iconst (v := 1) X.1 X.2.1 dX10_few_11 (by decide) ?_
    refine lv_istore_n (lv' := [(3, .int 1), (0, .ref a0), (1, .int x1), (2, .int x2)]) X.1 X.2.1 dX10_few_12 rfl hl (by decide) rfl (fun ls hl => ?_)
    exact wpX10_few_l13 X hr hlk n  n M _ _ _ _ _ _ _ I (lv_sub hl [1, 2, 3, 0] rfl) h
  · refine lv_iconst (v := (-1)) X.1 X.2.1 dX10_few_9 (by decide) ?_
    exact mm_xi X I hr hlk dX10_few_10 h
set_option maxHeartbeats 4000000 in
set_option maxRecDepth 100000 in
theorem wpX10_beside_b94 {p : Program} {l : Launch} {e : Env} {s : State} {m : MethodId} {args : Array Value} {below : List Frame} {meth : Method} {c : Code} {D : va_G} {dA : Nat → ClassId} {lo : Nat} (X : mm_C D dA lo cX10_beside RX10 6 p s m args c) (hr : meth.sig.returnType = (some .int)) (hlk : meth.locks = false) (n : Nat) {o : Int32 × mm_M} {K24 : mm_M → Nat → Int32 → Int32 → Int32 → Int32 → Option (Int32 × mm_M)} (k24 : ∀ (M : mm_M) (a0 : Nat) (x1 : Int32) (x2 : Int32) (x3 : Int32) (x4 : Int32) (H : Heap) (locs : List Loc) (ls : Array Slot), mm_I D dA lo s M H locs → lv_has ls 6 [(0, .ref a0), (1, .int x1), (2, .int x2), (3, .int x3), (4, .int x4)] → K24 M a0 x1 x2 x3 x4 = some o → W p l e (mm_rm 7 159 0 0) s m args below meth c H locs 0 0 (MQ below (mm_Q D dA lo (some (.int o.1)) o.2) args s 0 0 (mm_fr lo)) (F0 m 24 ls []))  : ∀ (M : mm_M) (a0 : Nat) (x1 : Int32) (x2 : Int32) (x4 : Int32) (s0 : Int32) (s1 : Int32) (s2 : Int32) (H : Heap) (locs : List Loc) (ls : Array Slot), mm_I D dA lo s M H locs → lv_has ls 6 [(0, .ref a0), (1, .int x1), (2, .int x2), (4, .int x4)] → pX10_beside_b94 n K24 M a0 x1 x2 x4 s0 s1 s2 = some o → W p l e (mm_rm 7 159 0 0) s m args below meth c H locs 0 0 (MQ below (mm_Q D dA lo (some (.int o.1)) o.2) args s 0 0 (mm_fr lo)) (F0 m 94 ls [.int s0, .int s1, .int s2]) := by
  intro M a0 x1 x2 x4 s0 s1 s2 H locs ls I hl h
  unfold pX10_beside_b94 at h
  refine mm_kne (tgt := 101) X dX10_beside_94 (by decide) h (fun h => ?_) (fun h => ?_)
  · refine lv_iconst (v := 0) X.1 X.2.1 dX10_beside_101 (by decide) ?_
    refine lv_iadd X.1 X.2.1 dX10_beside_102 ?_
    refine lv_istore_n (lv' := [(3, .int (s2 + 0)), (0, .ref a0), (1, .int x1), (2, .int x2), (4, .int x4)]) X.1 X.2.1 dX10_beside_103 rfl hl (by decide) rfl (fun ls hl => ?_)
    refine lv_iinc (v := (x4 + 1)) (lv' := [(4, .int (x4 + 1)), (3, .int (s2 + 0)), (0, .ref a0), (1, .int x1), (2, .int x2)]) X.1 X.2.1 dX10_beside_104 hl (k := 4) rfl rfl (by decide) rfl (fun ls hl => ?_)
    refine lv_goto (tgt := 24) X.1 X.2.1 dX10_beside_107 (by decide) ?_
    exact k24 M _ _ _ _ _ _ _ _ I (lv_sub hl [2, 3, 4, 1, 0] rfl) h
  · refine lv_iconst (v := 1) X.1 X.2.1 dX10_beside_97 (by decide) ?_
    refine lv_goto (tgt := 102) X.1 X.2.1 dX10_beside_98 (by decide) ?_
    refine lv_iadd X.1 X.2.1 dX10_beside_102 ?_
    refine lv_istore_n (lv' := [(3, .int (s2 + 1)), (0, .ref a0), (1, .int x1), (2, .int x2), (4, .int x4)]) X.1 X.2.1 dX10_beside_103 rfl hl (by decide) rfl (fun ls hl => ?_)
    refine lv_iinc (v := (x4 + 1)) (lv' := [(4, .int (x4 + 1)), (3, .int (s2 + 1)), (0, .ref a0), (1, .int x1), (2, .int x2)]) X.1 X.2.1 dX10_beside_104 hl (k := 4) rfl rfl (by decide) rfl (fun ls hl => ?_)
    refine lv_goto (tgt := 24) X.1 X.2.1 dX10_beside_107 (by decide) ?_
    exact k24 M _ _ _ _ _ _ _ _ I (lv_sub hl [2, 3, 4, 1, 0] rfl) h
set_option maxHeartbeats 4000000 in
set_option maxRecDepth 100000 in
theorem wpX10_beside_b78 {p : Program} {l : Launch} {e : Env} {s : State} {m : MethodId} {args : Array Value} {below : List Frame} {meth : Method} {c : Code} {D : va_G} {dA : Nat → ClassId} {lo : Nat} (X : mm_C D dA lo cX10_beside RX10 6 p s m args c) (hr : meth.sig.returnType = (some .int)) (hlk : meth.locks = false) (n : Nat) {o : Int32 × mm_M} {K24 : mm_M → Nat → Int32 → Int32 → Int32 → Int32 → Option (Int32 × mm_M)} (k24 : ∀ (M : mm_M) (a0 : Nat) (x1 : Int32) (x2 : Int32) (x3 : Int32) (x4 : Int32) (H : Heap) (locs : List Loc) (ls : Array Slot), mm_I D dA lo s M H locs → lv_has ls 6 [(0, .ref a0), (1, .int x1), (2, .int x2), (3, .int x3), (4, .int x4)] → K24 M a0 x1 x2 x3 x4 = some o → W p l e (mm_rm 7 159 0 0) s m args below meth c H locs 0 0 (MQ below (mm_Q D dA lo (some (.int o.1)) o.2) args s 0 0 (mm_fr lo)) (F0 m 24 ls []))  : ∀ (M : mm_M) (a0 : Nat) (x1 : Int32) (x2 : Int32) (x3 : Int32) (x4 : Int32) (s0 : Int32) (H : Heap) (locs : List Loc) (ls : Array Slot), mm_I D dA lo s M H locs → lv_has ls 6 [(0, .ref a0), (1, .int x1), (2, .int x2), (3, .int x3), (4, .int x4)] → pX10_beside_b78 n K24 M a0 x1 x2 x3 x4 s0 = some o → W p l e (mm_rm 7 159 0 0) s m args below meth c H locs 0 0 (MQ below (mm_Q D dA lo (some (.int o.1)) o.2) args s 0 0 (mm_fr lo)) (F0 m 78 ls [.int s0]) := by
  intro M a0 x1 x2 x3 x4 s0 H locs ls I hl h
  unfold pX10_beside_b78 at h
  refine lv_istore (lv' := [(5, .int s0), (0, .ref a0), (1, .int x1), (2, .int x2), (3, .int x3), (4, .int x4)]) X.1 X.2.1 dX10_beside_78 hl (by decide) rfl (fun ls hl => ?_)
  refine lv_iload_n X.1 X.2.1 dX10_beside_80 rfl (lv_at hl 4 rfl) ?_
  refine lv_iload X.1 X.2.1 dX10_beside_81 (lv_at hl 0 rfl) ?_
  refine lv_iload_n X.1 X.2.1 dX10_beside_83 rfl (lv_at hl 3 rfl) ?_
  refine lv_bipush (v := 27) X.1 X.2.1 dX10_beside_84 (by decide) ?_
  refine mm_kne (tgt := 93) X dX10_beside_86 (by decide) h (fun h => ?_) (fun h => ?_)
  · refine lv_iload_n X.1 X.2.1 dX10_beside_93 rfl (lv_at hl 3 rfl) ?_
    exact wpX10_beside_b94 X hr hlk n k24 M _ _ _ _ _ _ _ _ _ _ I (lv_sub hl [1, 2, 3, 5] rfl) h
  · refine lv_iconst (v := (-1)) X.1 X.2.1 dX10_beside_89 (by decide) ?_
    refine lv_goto (tgt := 94) X.1 X.2.1 dX10_beside_90 (by decide) ?_
    exact wpX10_beside_b94 X hr hlk n k24 M _ _ _ _ _ _ _ _ _ _ I (lv_sub hl [1, 2, 3, 5] rfl) h
set_option maxHeartbeats 4000000 in
set_option maxRecDepth 100000 in
theorem wpX10_beside_l24 {p : Program} {l : Launch} {e : Env} {s : State} {m : MethodId} {args : Array Value} {below : List Frame} {meth : Method} {c : Code} {D : va_G} {dA : Nat → ClassId} {lo : Nat} (X : mm_C D dA lo cX10_beside RX10 6 p s m args c) (hr : meth.sig.returnType = (some .int)) (hlk : meth.locks = false) (n : Nat) {o : Int32 × mm_M} (k : Nat) : ∀ (M : mm_M) (a0 : Nat) (x1 : Int32) (x2 : Int32) (x3 : Int32) (x4 : Int32) (H : Heap) (locs : List Loc) (ls : Array Slot), mm_I D dA lo s M H locs → lv_has ls 6 [(0, .ref a0), (1, .int x1), (2, .int x2), (3, .int x3), (4, .int x4)] → pX10_beside_l24 n k M a0 x1 x2 x3 x4 = some o → W p l e (mm_rm 7 159 0 0) s m args below meth c H locs 0 0 (MQ below (mm_Q D dA lo (some (.int o.1)) o.2) args s 0 0 (mm_fr lo)) (F0 m 24 ls []) := by
  induction k with
  | zero =>
    intro M a0 x1 x2 x3 x4 H locs ls I hl h
    have h : (none : Option (Int32 × mm_M)) = some o := h
    cases h
  | succ k ih =>
    intro M a0 x1 x2 x3 x4 H locs ls I hl h
    have h : pX10_beside_l24b n (pX10_beside_l24 n k) M a0 x1 x2 x3 x4 = some o := h
    unfold pX10_beside_l24b at h
    refine lv_iload X.1 X.2.1 dX10_beside_24 (lv_at hl 4 rfl) ?_
    refine lv_aload_n X.1 X.2.1 dX10_beside_26 rfl (lv_at hl 0 rfl) ?_
    refine mm_rgi X I fl_X10_170 dX10_beside_27 h (fun v1 h => ?_)
    refine mm_kge (tgt := 110) X dX10_beside_30 (by decide) h (fun h => ?_) (fun h => ?_)
    · refine lv_iload_n X.1 X.2.1 dX10_beside_110 rfl (lv_at hl 3 rfl) ?_
      exact mm_xi X I hr hlk dX10_beside_111 h
    · refine lv_iload_n X.1 X.2.1 dX10_beside_33 rfl (lv_at hl 1 rfl) ?_
      refine mm_jeq (tgt := 59) X dX10_beside_34 (by decide) h (fun h => ?_) (fun h => ?_)
      · refine lv_aload_n X.1 X.2.1 dX10_beside_59 rfl (lv_at hl 0 rfl) ?_
        refine lv_aload_n X.1 X.2.1 dX10_beside_60 rfl (lv_at hl 0 rfl) ?_
        refine mm_rgr X I fl_X10_37 dX10_beside_61 h (fun v2 h => ?_)
        refine lv_iload X.1 X.2.1 dX10_beside_64 (lv_at hl 4 rfl) ?_
        refine mm_ria X I dX10_beside_66 h (fun v3 h => ?_)
        refine lv_aload_n X.1 X.2.1 dX10_beside_67 rfl (lv_at hl 0 rfl) ?_
        refine mm_rgr X I fl_X10_40 dX10_beside_68 h (fun v4 h => ?_)
        refine lv_iload X.1 X.2.1 dX10_beside_71 (lv_at hl 4 rfl) ?_
        refine mm_ria X I dX10_beside_73 h (fun v5 h => ?_)
        refine lv_iconst (v := 0) X.1 X.2.1 dX10_beside_74 (by decide) ?_
        refine mm_cVi X I hl (As := [.int v3, .int v5, .int 0]) (ci := 10) md_X10_before mv_X10_before ml_X10_187 rfl (kX10_before (n := n)) (by decide) ⟨Nat.le_refl 0, Nat.le_refl 0⟩ rfl rfl (Nat.le_of_ble_eq_true rfl) dX10_beside_75 h (fun v6 M H locs I h => ?_)
        exact wpX10_beside_b78 X hr hlk n ih M _ _ _ _ _ _ _ _ _ I (lv_sub hl [0, 1, 2, 3, 4] rfl) h
      · refine lv_aload_n X.1 X.2.1 dX10_beside_37 rfl (lv_at hl 0 rfl) ?_
        refine lv_aload_n X.1 X.2.1 dX10_beside_38 rfl (lv_at hl 0 rfl) ?_
        refine mm_rgr X I fl_X10_37 dX10_beside_39 h (fun v7 h => ?_)
        refine lv_iload X.1 X.2.1 dX10_beside_42 (lv_at hl 4 rfl) ?_
        refine mm_ria X I dX10_beside_44 h (fun v8 h => ?_)
        refine lv_aload_n X.1 X.2.1 dX10_beside_45 rfl (lv_at hl 0 rfl) ?_
        refine mm_rgr X I fl_X10_40 dX10_beside_46 h (fun v9 h => ?_)
        refine lv_iload X.1 X.2.1 dX10_beside_49 (lv_at hl 4 rfl) ?_
        refine mm_ria X I dX10_beside_51 h (fun v10 h => ?_)
        refine lv_iconst (v := 0) X.1 X.2.1 dX10_beside_52 (by decide) ?_
        refine mm_cVi X I hl (As := [.int v8, .int v10, .int 0]) (ci := 10) md_X10_following mv_X10_following ml_X10_180 rfl (kX10_following (n := n)) (by decide) ⟨Nat.le_refl 0, Nat.le_refl 0⟩ rfl rfl (Nat.le_of_ble_eq_true rfl) dX10_beside_53 h (fun v11 M H locs I h => ?_)
        refine lv_goto (tgt := 78) X.1 X.2.1 dX10_beside_56 (by decide) ?_
        exact wpX10_beside_b78 X hr hlk n ih M _ _ _ _ _ _ _ _ _ I (lv_sub hl [0, 1, 2, 3, 4] rfl) h
set_option maxHeartbeats 4000000 in
set_option maxRecDepth 100000 in
theorem kX10_beside {l : Launch} {D : va_G} {dA : Nat → ClassId} {lo : Nat} {n : Nat} {M : mm_M} {a0 : Nat} {x1 : Int32} {x2 : Int32} (o : Int32 × mm_M) (h : pX10_beside n M a0 x1 x2 = some o) : (∃ fs, M.2 a0 = some (mm_ob 10 fs)) ∧ mm_Met l D dA lo yX10_beside cX10_beside 6 (some .int) 7 159 0 0 [.ref a0, .int x1, .int x2] M (some (.int o.1)) o.2 := by
  unfold pX10_beside at h
  obtain ⟨hob, h⟩ := mm_v_some h
  refine ⟨hob, mm_enter (by decide) (Nat.le_of_ble_eq_true rfl) (fun p e s m args below meth c ls X hr hlk hnm I hl => ?_)⟩
  have X : mm_C D dA lo cX10_beside RX10 6 p s m args c := X
  have hl : lv_has ls 6 [(0, .ref a0), (1, .int x1), (2, .int x2)] := hl
  refine lv_iload_n X.1 X.2.1 dX10_beside_0 rfl (lv_at hl 2 rfl) ?_
  refine lv_iconst (v := 0) X.1 X.2.1 dX10_beside_1 (by decide) ?_
  refine lv_bipush (v := 27) X.1 X.2.1 dX10_beside_2 (by decide) ?_
  refine mm_cSi X I hl (As := [.int x2, .int 0, .int 27]) md_X10_in mv_X10_in ml_X10_69 (kX10_in (n := n)) (by decide) ⟨Nat.le_refl 0, Nat.le_refl 0⟩ rfl rfl (Nat.le_of_ble_eq_true rfl) dX10_beside_4 h (fun v1 M H locs I h => ?_)
  refine mm_jeq (tgt := 17) X dX10_beside_7 (by decide) h (fun h => ?_) (fun h => ?_)
  · refine lv_iconst (v := (-1)) X.1 X.2.1 dX10_beside_17 (by decide) ?_
    exact mm_xi X I hr hlk dX10_beside_18 h
  · refine lv_aload_n X.1 X.2.1 dX10_beside_10 rfl (lv_at hl 0 rfl) ?_
    refine mm_cVi X I hl (As := []) (ci := 10) md_X10_laysWord mv_X10_laysWord ml_X10_327 rfl (kX10_laysWord (n := n)) (by decide) ⟨Nat.le_refl 0, Nat.le_refl 0⟩ rfl rfl (Nat.le_of_ble_eq_true rfl) dX10_beside_11 h (fun v2 M H locs I h => ?_)
    refine mm_jne (tgt := 19) X dX10_beside_14 (by decide) h (fun h => ?_) (fun h => ?_)
    · refine lv_iconst (v := 0) X.1 X.2.1 dX10_beside_19 (by decide) ?_
      refine lv_istore_n (lv' := [(3, .int 0), (0, .ref a0), (1, .int x1), (2, .int x2)]) X.1 X.2.1 dX10_beside_20 rfl hl (by decide) rfl (fun ls hl => ?_)
      refine lv_iconst (v := 0) X.1 X.2.1 dX10_beside_21 (by decide) ?_
      refine lv_istore (lv' := [(4, .int 0), (3, .int 0), (0, .ref a0), (1, .int x1), (2, .int x2)]) X.1 X.2.1 dX10_beside_22 hl (by decide) rfl (fun ls hl => ?_)
      exact wpX10_beside_l24 X hr hlk n  n M _ _ _ _ _ _ _ _ I (lv_sub hl [2, 3, 4, 1, 0] rfl) h
    · refine lv_iconst (v := (-1)) X.1 X.2.1 dX10_beside_17 (by decide) ?_
      exact mm_xi X I hr hlk dX10_beside_18 h
set_option maxHeartbeats 4000000 in
set_option maxRecDepth 100000 in
theorem kX10_cursor {l : Launch} {D : va_G} {dA : Nat → ClassId} {lo : Nat} {n : Nat} {M : mm_M} {a0 : Nat} {x1 : Int32} {x2 : Int32} (o : Int32 × mm_M) (h : pX10_cursor n M a0 x1 x2 = some o) : (∃ fs, M.2 a0 = some (mm_ob 10 fs)) ∧ mm_Met l D dA lo yX10_cursor cX10_cursor 4 (some .int) 8 184 0 0 [.ref a0, .int x1, .int x2] M (some (.int o.1)) o.2 := by
  unfold pX10_cursor at h
  obtain ⟨hob, h⟩ := mm_v_some h
  refine ⟨hob, mm_enter (by decide) (Nat.le_of_ble_eq_true rfl) (fun p e s m args below meth c ls X hr hlk hnm I hl => ?_)⟩
  have X : mm_C D dA lo cX10_cursor RX10 4 p s m args c := X
  have hl : lv_has ls 4 [(0, .ref a0), (1, .int x1), (2, .int x2)] := hl
  refine lv_aload_n X.1 X.2.1 dX10_cursor_0 rfl (lv_at hl 0 rfl) ?_
  refine lv_iload_n X.1 X.2.1 dX10_cursor_1 rfl (lv_at hl 1 rfl) ?_
  refine mm_cVi X I hl (As := [.int x1]) (ci := 10) md_X10_isCursor mv_X10_isCursor ml_X10_240 rfl (kX10_isCursor (n := n)) (by decide) ⟨Nat.le_refl 0, Nat.le_refl 0⟩ rfl rfl (Nat.le_of_ble_eq_true rfl) dX10_cursor_2 h (fun v1 M H locs I h => ?_)
  refine mm_jeq (tgt := 17) X dX10_cursor_5 (by decide) h (fun h => ?_) (fun h => ?_)
  · refine lv_iconst (v := (-1)) X.1 X.2.1 dX10_cursor_17 (by decide) ?_
    exact mm_xi X I hr hlk dX10_cursor_18 h
  · refine lv_iload_n X.1 X.2.1 dX10_cursor_8 rfl (lv_at hl 2 rfl) ?_
    refine lv_iconst (v := 0) X.1 X.2.1 dX10_cursor_9 (by decide) ?_
    refine lv_iconst (v := 5) X.1 X.2.1 dX10_cursor_10 (by decide) ?_
    refine mm_cSi X I hl (As := [.int x2, .int 0, .int 5]) md_X10_in mv_X10_in ml_X10_69 (kX10_in (n := n)) (by decide) ⟨Nat.le_refl 0, Nat.le_refl 0⟩ rfl rfl (Nat.le_of_ble_eq_true rfl) dX10_cursor_11 h (fun v2 M H locs I h => ?_)
    refine mm_jne (tgt := 19) X dX10_cursor_14 (by decide) h (fun h => ?_) (fun h => ?_)
    · refine lv_iload_n X.1 X.2.1 dX10_cursor_19 rfl (lv_at hl 1 rfl) ?_
      refine mm_cSi X I hl (As := [.int x1]) md_X10_cursorAt mv_X10_cursorAt ml_X10_143 (kX10_cursorAt (n := n)) (by decide) ⟨Nat.le_refl 0, Nat.le_refl 0⟩ rfl rfl (Nat.le_of_ble_eq_true rfl) dX10_cursor_20 h (fun v3 M H locs I h => ?_)
      refine lv_istore_n (lv' := [(3, .int v3), (0, .ref a0), (1, .int x1), (2, .int x2)]) X.1 X.2.1 dX10_cursor_23 rfl hl (by decide) rfl (fun ls hl => ?_)
      refine lv_iload_n X.1 X.2.1 dX10_cursor_24 rfl (lv_at hl 3 rfl) ?_
      by_cases z4_0 : x2 = 0
      · have h := mm_t z4_0 h
        refine lv_tableIn (tgt := 60) (off := 35) X.1 X.2.1 dX10_cursor_25 (by rw [z4_0]; decide) (by rw [z4_0]; decide) (by rw [z4_0]; rfl) (by decide) ?_
        refine lv_aload_n X.1 X.2.1 dX10_cursor_60 rfl (lv_at hl 1 rfl) ?_
        refine mm_rgr X I fl_X10_28 dX10_cursor_61 h (fun v5 h => ?_)
        refine lv_iload_n X.1 X.2.1 dX10_cursor_64 rfl (lv_at hl 0 rfl) ?_
        refine lv_bipush (v := 7) X.1 X.2.1 dX10_cursor_65 (by decide) ?_
        refine lv_iadd X.1 X.2.1 dX10_cursor_67 ?_
        refine mm_ria X I dX10_cursor_68 h (fun v6 h => ?_)
        exact mm_xi X I hr hlk dX10_cursor_69 h
      · have h := mm_f z4_0 h
        by_cases z4_1 : x2 = 1
        · have h := mm_t z4_1 h
          refine lv_tableIn (tgt := 70) (off := 45) X.1 X.2.1 dX10_cursor_25 (by rw [z4_1]; decide) (by rw [z4_1]; decide) (by rw [z4_1]; rfl) (by decide) ?_
          refine lv_aload_n X.1 X.2.1 dX10_cursor_70 rfl (lv_at hl 1 rfl) ?_
          refine mm_rgr X I fl_X10_28 dX10_cursor_71 h (fun v7 h => ?_)
          refine lv_iload_n X.1 X.2.1 dX10_cursor_74 rfl (lv_at hl 0 rfl) ?_
          refine lv_iconst (v := 0) X.1 X.2.1 dX10_cursor_75 (by decide) ?_
          refine lv_iadd X.1 X.2.1 dX10_cursor_76 ?_
          refine mm_ria X I dX10_cursor_77 h (fun v8 h => ?_)
          exact mm_xi X I hr hlk dX10_cursor_78 h
        · have h := mm_f z4_1 h
          by_cases z4_2 : x2 = 2
          · have h := mm_t z4_2 h
            refine lv_tableIn (tgt := 79) (off := 54) X.1 X.2.1 dX10_cursor_25 (by rw [z4_2]; decide) (by rw [z4_2]; decide) (by rw [z4_2]; rfl) (by decide) ?_
            refine lv_aload_n X.1 X.2.1 dX10_cursor_79 rfl (lv_at hl 1 rfl) ?_
            refine mm_rgr X I fl_X10_28 dX10_cursor_80 h (fun v9 h => ?_)
            refine lv_iload_n X.1 X.2.1 dX10_cursor_83 rfl (lv_at hl 0 rfl) ?_
            refine lv_bipush (v := 53) X.1 X.2.1 dX10_cursor_84 (by decide) ?_
            refine lv_iadd X.1 X.2.1 dX10_cursor_86 ?_
            refine mm_ria X I dX10_cursor_87 h (fun v10 h => ?_)
            exact mm_xi X I hr hlk dX10_cursor_88 h
          · have h := mm_f z4_2 h
            by_cases z4_3 : x2 = 3
            · have h := mm_t z4_3 h
              refine lv_tableIn (tgt := 89) (off := 64) X.1 X.2.1 dX10_cursor_25 (by rw [z4_3]; decide) (by rw [z4_3]; decide) (by rw [z4_3]; rfl) (by decide) ?_
              refine lv_aload_n X.1 X.2.1 dX10_cursor_89 rfl (lv_at hl 1 rfl) ?_
              refine mm_rgr X I fl_X10_28 dX10_cursor_90 h (fun v11 h => ?_)
              refine lv_iload_n X.1 X.2.1 dX10_cursor_93 rfl (lv_at hl 0 rfl) ?_
              refine lv_bipush (v := 54) X.1 X.2.1 dX10_cursor_94 (by decide) ?_
              refine lv_iadd X.1 X.2.1 dX10_cursor_96 ?_
              refine mm_ria X I dX10_cursor_97 h (fun v12 h => ?_)
              exact mm_xi X I hr hlk dX10_cursor_98 h
            · have h := mm_f z4_3 h
              by_cases z4_4 : x2 = 4
              · have h := mm_t z4_4 h
                refine lv_tableIn (tgt := 99) (off := 74) X.1 X.2.1 dX10_cursor_25 (by rw [z4_4]; decide) (by rw [z4_4]; decide) (by rw [z4_4]; rfl) (by decide) ?_
                refine lv_aload_n X.1 X.2.1 dX10_cursor_99 rfl (lv_at hl 1 rfl) ?_
                refine lv_iload_n X.1 X.2.1 dX10_cursor_100 rfl (lv_at hl 2 rfl) ?_
                refine mm_cVi X I hl (As := [.int x1]) (ci := 10) md_X10_leftOf mv_X10_leftOf ml_X10_223 rfl (kX10_leftOf (n := n)) (by decide) ⟨Nat.le_refl 0, Nat.le_refl 0⟩ rfl rfl (Nat.le_of_ble_eq_true rfl) dX10_cursor_101 h (fun v13 M H locs I h => ?_)
                exact mm_xi X I hr hlk dX10_cursor_104 h
              · have h := mm_f z4_4 h
                have z4_q0 : ¬ Int32.toInt x2 = 0 := fun q => z4_0 (Int32.toInt_inj.mp q)
                have z4_q1 : ¬ Int32.toInt x2 = 1 := fun q => z4_1 (Int32.toInt_inj.mp q)
                have z4_q2 : ¬ Int32.toInt x2 = 2 := fun q => z4_2 (Int32.toInt_inj.mp q)
                have z4_q3 : ¬ Int32.toInt x2 = 3 := fun q => z4_3 (Int32.toInt_inj.mp q)
                have z4_q4 : ¬ Int32.toInt x2 = 4 := fun q => z4_4 (Int32.toInt_inj.mp q)
                refine mm_tdef (tgt := 105) X dX10_cursor_25 (by decide) (fun i hi hq => ?_) (by decide) ?_
                · rcases (show i = 0 ∨ i = 1 ∨ i = 2 ∨ i = 3 ∨ i = 4 by simp at hi; omega) with rfl | rfl | rfl | rfl | rfl
                  · exact absurd hq (by omega)
                  · exact absurd hq (by omega)
                  · exact absurd hq (by omega)
                  · exact absurd hq (by omega)
                  · exact absurd hq (by omega)
                · refine lv_aload_n X.1 X.2.1 dX10_cursor_105 rfl (lv_at hl 1 rfl) ?_
                  refine mm_rgr X I fl_X10_28 dX10_cursor_106 h (fun v14 h => ?_)
                  refine lv_iload_n X.1 X.2.1 dX10_cursor_109 rfl (lv_at hl 0 rfl) ?_
                  refine lv_bipush (v := 8) X.1 X.2.1 dX10_cursor_110 (by decide) ?_
                  refine lv_iadd X.1 X.2.1 dX10_cursor_112 ?_
                  refine mm_ria X I dX10_cursor_113 h (fun v15 h => ?_)
                  exact mm_xi X I hr hlk dX10_cursor_114 h
    · refine lv_iconst (v := (-1)) X.1 X.2.1 dX10_cursor_17 (by decide) ?_
      exact mm_xi X I hr hlk dX10_cursor_18 h
set_option maxHeartbeats 4000000 in
set_option maxRecDepth 100000 in
theorem kX10_told {l : Launch} {D : va_G} {dA : Nat → ClassId} {lo : Nat} {n : Nat} {M : mm_M} {a0 : Nat} {x1 : Int32} {x2 : Int32} {x3 : Int32} (o : Int32 × mm_M) (h : pX10_told n M a0 x1 x2 x3 = some o) : (∃ fs, M.2 a0 = some (mm_ob 10 fs)) ∧ mm_Met l D dA lo yX10_told cX10_told 4 (some .int) 2 43 0 0 [.ref a0, .int x1, .int x2, .int x3] M (some (.int o.1)) o.2 := by
  unfold pX10_told at h
  obtain ⟨hob, h⟩ := mm_v_some h
  refine ⟨hob, mm_enter (by decide) (Nat.le_of_ble_eq_true rfl) (fun p e s m args below meth c ls X hr hlk hnm I hl => ?_)⟩
  have X : mm_C D dA lo cX10_told RX10 4 p s m args c := X
  have hl : lv_has ls 4 [(0, .ref a0), (1, .int x1), (2, .int x2), (3, .int x3)] := hl
  refine lv_aload_n X.1 X.2.1 dX10_told_0 rfl (lv_at hl 0 rfl) ?_
  refine lv_iload_n X.1 X.2.1 dX10_told_1 rfl (lv_at hl 1 rfl) ?_
  refine mm_cVi X I hl (As := [.int x1]) (ci := 10) md_X10_isCursor mv_X10_isCursor ml_X10_240 rfl (kX10_isCursor (n := n)) (by decide) ⟨Nat.le_refl 0, Nat.le_refl 0⟩ rfl rfl (Nat.le_of_ble_eq_true rfl) dX10_told_2 h (fun v1 M H locs I h => ?_)
  refine mm_jeq (tgt := 60) X dX10_told_5 (by decide) h (fun h => ?_) (fun h => ?_)
  · refine lv_iconst (v := (-1)) X.1 X.2.1 dX10_told_60 (by decide) ?_
    exact mm_xi X I hr hlk dX10_told_61 h
  · refine lv_iload_n X.1 X.2.1 dX10_told_8 rfl (lv_at hl 2 rfl) ?_
    refine lv_iconst (v := 0) X.1 X.2.1 dX10_told_9 (by decide) ?_
    refine lv_aload_n X.1 X.2.1 dX10_told_10 rfl (lv_at hl 0 rfl) ?_
    refine mm_rgr X I fl_X10_28 dX10_told_11 h (fun v2 h => ?_)
    refine lv_iload_n X.1 X.2.1 dX10_told_14 rfl (lv_at hl 1 rfl) ?_
    refine mm_cSi X I hl (As := [.int x1]) md_X10_cursorAt mv_X10_cursorAt ml_X10_143 (kX10_cursorAt (n := n)) (by decide) ⟨Nat.le_refl 0, Nat.le_refl 0⟩ rfl rfl (Nat.le_of_ble_eq_true rfl) dX10_told_15 h (fun v3 M H locs I h => ?_)
    refine lv_bipush (v := 53) X.1 X.2.1 dX10_told_18 (by decide) ?_
    refine lv_iadd X.1 X.2.1 dX10_told_20 ?_
    refine mm_ria X I dX10_told_21 h (fun v4 h => ?_)
    refine lv_iconst (v := 1) X.1 X.2.1 dX10_told_22 (by decide) ?_
    refine lv_isub X.1 X.2.1 dX10_told_23 ?_
    refine mm_cSi X I hl (As := [.int x2, .int 0, .int (v4 - 1)]) md_X10_in mv_X10_in ml_X10_69 (kX10_in (n := n)) (by decide) ⟨Nat.le_refl 0, Nat.le_refl 0⟩ rfl rfl (Nat.le_of_ble_eq_true rfl) dX10_told_24 h (fun v5 M H locs I h => ?_)
    refine mm_jeq (tgt := 60) X dX10_told_27 (by decide) h (fun h => ?_) (fun h => ?_)
    · refine lv_iconst (v := (-1)) X.1 X.2.1 dX10_told_60 (by decide) ?_
      exact mm_xi X I hr hlk dX10_told_61 h
    · refine lv_iload_n X.1 X.2.1 dX10_told_30 rfl (lv_at hl 3 rfl) ?_
      refine lv_iconst (v := 0) X.1 X.2.1 dX10_told_31 (by decide) ?_
      refine lv_iconst (v := 1) X.1 X.2.1 dX10_told_32 (by decide) ?_
      refine mm_cSi X I hl (As := [.int x3, .int 0, .int 1]) md_X10_in mv_X10_in ml_X10_69 (kX10_in (n := n)) (by decide) ⟨Nat.le_refl 0, Nat.le_refl 0⟩ rfl rfl (Nat.le_of_ble_eq_true rfl) dX10_told_33 h (fun v6 M H locs I h => ?_)
      refine mm_jeq (tgt := 60) X dX10_told_36 (by decide) h (fun h => ?_) (fun h => ?_)
      · refine lv_iconst (v := (-1)) X.1 X.2.1 dX10_told_60 (by decide) ?_
        exact mm_xi X I hr hlk dX10_told_61 h
      · refine lv_aload_n X.1 X.2.1 dX10_told_39 rfl (lv_at hl 0 rfl) ?_
        refine mm_rgr X I fl_X10_28 dX10_told_40 h (fun v7 h => ?_)
        refine lv_iload_n X.1 X.2.1 dX10_told_43 rfl (lv_at hl 1 rfl) ?_
        refine mm_cSi X I hl (As := [.int x1]) md_X10_cursorAt mv_X10_cursorAt ml_X10_143 (kX10_cursorAt (n := n)) (by decide) ⟨Nat.le_refl 0, Nat.le_refl 0⟩ rfl rfl (Nat.le_of_ble_eq_true rfl) dX10_told_44 h (fun v8 M H locs I h => ?_)
        refine lv_bipush (v := 55) X.1 X.2.1 dX10_told_47 (by decide) ?_
        refine lv_iadd X.1 X.2.1 dX10_told_49 ?_
        refine lv_iconst (v := 2) X.1 X.2.1 dX10_told_50 (by decide) ?_
        refine lv_iload_n X.1 X.2.1 dX10_told_51 rfl (lv_at hl 2 rfl) ?_
        refine lv_imul X.1 X.2.1 dX10_told_52 ?_
        refine lv_iadd X.1 X.2.1 dX10_told_53 ?_
        refine lv_iload_n X.1 X.2.1 dX10_told_54 rfl (lv_at hl 3 rfl) ?_
        refine lv_iadd X.1 X.2.1 dX10_told_55 ?_
        refine mm_ria X I dX10_told_56 h (fun v9 h => ?_)
        refine lv_goto (tgt := 61) X.1 X.2.1 dX10_told_57 (by decide) ?_
        exact mm_xi X I hr hlk dX10_told_61 h
set_option maxHeartbeats 4000000 in
set_option maxRecDepth 100000 in
theorem kX10_spells {l : Launch} {D : va_G} {dA : Nat → ClassId} {lo : Nat} {n : Nat} {M : mm_M} {a0 : Nat} {x1 : Int32} (o : mm_M) (h : pX10_spells n M a0 x1 = some o) : (∃ fs, M.2 a0 = some (mm_ob 10 fs)) ∧ mm_Met l D dA lo yX10_spells cX10_spells 2 none 0 0 0 0 [.ref a0, .int x1] M none o := by
  unfold pX10_spells at h
  obtain ⟨hob, h⟩ := mm_v_some h
  refine ⟨hob, mm_enter (by decide) (Nat.le_of_ble_eq_true rfl) (fun p e s m args below meth c ls X hr hlk hnm I hl => ?_)⟩
  have X : mm_C D dA lo cX10_spells RX10 2 p s m args c := X
  have hl : lv_has ls 2 [(0, .ref a0), (1, .int x1)] := hl
  refine lv_aload_n X.1 X.2.1 dX10_spells_0 rfl (lv_at hl 0 rfl) ?_
  refine mm_rgr X I fl_X10_49 dX10_spells_1 h (fun v1 h => ?_)
  refine lv_aload_n X.1 X.2.1 dX10_spells_4 rfl (lv_at hl 0 rfl) ?_
  refine mm_rgi X I fl_X10_364 dX10_spells_5 h (fun v2 h => ?_)
  refine lv_iload_n X.1 X.2.1 dX10_spells_8 rfl (lv_at hl 1 rfl) ?_
  refine mm_ris X I dX10_spells_9 h (fun M H locs I h => ?_)
  refine lv_aload_n X.1 X.2.1 dX10_spells_10 rfl (lv_at hl 0 rfl) ?_
  refine lv_dup X.1 X.2.1 dX10_spells_11 rfl ?_
  refine mm_rgi X I fl_X10_364 dX10_spells_12 h (fun v3 h => ?_)
  refine lv_iconst (v := 1) X.1 X.2.1 dX10_spells_15 (by decide) ?_
  refine lv_iadd X.1 X.2.1 dX10_spells_16 ?_
  refine mm_rpi X I fl_X10_364 dX10_spells_17 h (fun M H locs I h => ?_)
  exact mm_xv X I hr hlk dX10_spells_20 h
set_option maxHeartbeats 4000000 in
set_option maxRecDepth 100000 in
theorem wpX10_spell_b179 {p : Program} {l : Launch} {e : Env} {s : State} {m : MethodId} {args : Array Value} {below : List Frame} {meth : Method} {c : Code} {D : va_G} {dA : Nat → ClassId} {lo : Nat} (X : mm_C D dA lo cX10_spell RX10 6 p s m args c) (hr : meth.sig.returnType = (some .int)) (hlk : meth.locks = false) (n : Nat) {o : Int32 × mm_M}  : ∀ (M : mm_M) (a0 : Nat) (x2 : Int32) (H : Heap) (locs : List Loc) (ls : Array Slot), mm_I D dA lo s M H locs → lv_has ls 6 [(0, .ref a0), (2, .int x2)] → pX10_spell_b179 n M a0 x2 = some o → W p l e (mm_rm 7 159 0 0) s m args below meth c H locs 0 0 (MQ below (mm_Q D dA lo (some (.int o.1)) o.2) args s 0 0 (mm_fr lo)) (F0 m 179 ls []) := by
  intro M a0 x2 H locs ls I hl h
  unfold pX10_spell_b179 at h
  refine lv_iload_n X.1 X.2.1 dX10_spell_179 rfl (lv_at hl 1 rfl) ?_
  refine lv_iconst (v := (-1)) X.1 X.2.1 dX10_spell_180 (by decide) ?_
  refine mm_kne (tgt := 191) X dX10_spell_181 (by decide) h (fun h => ?_) (fun h => ?_)
  · refine lv_iload_n X.1 X.2.1 dX10_spell_191 rfl (lv_at hl 1 rfl) ?_
    refine lv_iconst (v := 0) X.1 X.2.1 dX10_spell_192 (by decide) ?_
    refine lv_aload_n X.1 X.2.1 dX10_spell_193 rfl (lv_at hl 0 rfl) ?_
    refine mm_rgi X I fl_X10_364 dX10_spell_194 h (fun v1 h => ?_)
    refine lv_iconst (v := 1) X.1 X.2.1 dX10_spell_197 (by decide) ?_
    refine lv_isub X.1 X.2.1 dX10_spell_198 ?_
    refine mm_cSi X I hl (As := [.int x2, .int 0, .int (v1 - 1)]) md_X10_in mv_X10_in ml_X10_69 (kX10_in (n := n)) (by decide) ⟨Nat.le_refl 0, Nat.le_refl 0⟩ rfl rfl (Nat.le_of_ble_eq_true rfl) dX10_spell_199 h (fun v2 M H locs I h => ?_)
    refine mm_jeq (tgt := 214) X dX10_spell_202 (by decide) h (fun h => ?_) (fun h => ?_)
    · refine lv_iconst (v := (-1)) X.1 X.2.1 dX10_spell_214 (by decide) ?_
      exact mm_xi X I hr hlk dX10_spell_215 h
    · refine lv_aload_n X.1 X.2.1 dX10_spell_205 rfl (lv_at hl 0 rfl) ?_
      refine mm_rgr X I fl_X10_49 dX10_spell_206 h (fun v3 h => ?_)
      refine lv_iload_n X.1 X.2.1 dX10_spell_209 rfl (lv_at hl 1 rfl) ?_
      refine mm_ria X I dX10_spell_210 h (fun v4 h => ?_)
      refine lv_goto (tgt := 215) X.1 X.2.1 dX10_spell_211 (by decide) ?_
      exact mm_xi X I hr hlk dX10_spell_215 h
  · refine lv_aload_n X.1 X.2.1 dX10_spell_184 rfl (lv_at hl 0 rfl) ?_
    refine mm_rgi X I fl_X10_364 dX10_spell_185 h (fun v5 h => ?_)
    refine lv_goto (tgt := 215) X.1 X.2.1 dX10_spell_188 (by decide) ?_
    exact mm_xi X I hr hlk dX10_spell_215 h
set_option maxHeartbeats 4000000 in
set_option maxRecDepth 100000 in
theorem wpX10_spell_l137 {p : Program} {l : Launch} {e : Env} {s : State} {m : MethodId} {args : Array Value} {below : List Frame} {meth : Method} {c : Code} {D : va_G} {dA : Nat → ClassId} {lo : Nat} (X : mm_C D dA lo cX10_spell RX10 6 p s m args c) (hr : meth.sig.returnType = (some .int)) (hlk : meth.locks = false) (n : Nat) {o : Int32 × mm_M} (k : Nat) : ∀ (M : mm_M) (a0 : Nat) (x2 : Int32) (x3 : Int32) (x4 : Int32) (x5 : Int32) (H : Heap) (locs : List Loc) (ls : Array Slot), mm_I D dA lo s M H locs → lv_has ls 6 [(0, .ref a0), (2, .int x2), (3, .int x3), (4, .int x4), (5, .int x5)] → pX10_spell_l137 n k M a0 x2 x3 x4 x5 = some o → W p l e (mm_rm 7 159 0 0) s m args below meth c H locs 0 0 (MQ below (mm_Q D dA lo (some (.int o.1)) o.2) args s 0 0 (mm_fr lo)) (F0 m 137 ls []) := by
  induction k with
  | zero =>
    intro M a0 x2 x3 x4 x5 H locs ls I hl h
    have h : (none : Option (Int32 × mm_M)) = some o := h
    cases h
  | succ k ih =>
    intro M a0 x2 x3 x4 x5 H locs ls I hl h
    have h : pX10_spell_l137b n (pX10_spell_l137 n k) M a0 x2 x3 x4 x5 = some o := h
    unfold pX10_spell_l137b at h
    refine lv_iload X.1 X.2.1 dX10_spell_137 (lv_at hl 4 rfl) ?_
    refine lv_aload_n X.1 X.2.1 dX10_spell_139 rfl (lv_at hl 0 rfl) ?_
    refine lv_iload_n X.1 X.2.1 dX10_spell_140 rfl (lv_at hl 2 rfl) ?_
    refine mm_cVi X I hl (As := [.int x3]) (ci := 10) md_X10_longOf mv_X10_longOf ml_X10_136 rfl (kX10_longOf (n := n)) (by decide) ⟨Nat.le_refl 0, Nat.le_refl 0⟩ rfl rfl (Nat.le_of_ble_eq_true rfl) dX10_spell_141 h (fun v1 M H locs I h => ?_)
    refine lv_iload X.1 X.2.1 dX10_spell_144 (lv_at hl 3 rfl) ?_
    refine lv_aload_n X.1 X.2.1 dX10_spell_146 rfl (lv_at hl 0 rfl) ?_
    refine mm_rgi X I fl_X10_150 dX10_spell_147 h (fun v2 h => ?_)
    refine lv_iadd X.1 X.2.1 dX10_spell_150 ?_
    refine lv_iconst (v := 5) X.1 X.2.1 dX10_spell_151 (by decide) ?_
    refine lv_iadd X.1 X.2.1 dX10_spell_152 ?_
    refine mm_rmin X hl ml_X10_216 (by decide) (Nat.le_of_ble_eq_true rfl) (by decide) (by decide) dX10_spell_153 ?_
    refine mm_kge (tgt := 179) X dX10_spell_156 (by decide) h (fun h => ?_) (fun h => ?_)
    · exact wpX10_spell_b179 X hr hlk n  M _ _ _ _ _ I (lv_sub hl [0, 1] rfl) h
    · refine lv_aload_n X.1 X.2.1 dX10_spell_159 rfl (lv_at hl 0 rfl) ?_
      refine lv_aload_n X.1 X.2.1 dX10_spell_160 rfl (lv_at hl 0 rfl) ?_
      refine lv_iload_n X.1 X.2.1 dX10_spell_161 rfl (lv_at hl 2 rfl) ?_
      refine lv_iload X.1 X.2.1 dX10_spell_162 (lv_at hl 4 rfl) ?_
      refine mm_cVi X I hl (As := [.int x3, .int x5]) (ci := 10) md_X10_signAt mv_X10_signAt ml_X10_176 rfl (kX10_signAt (n := n)) (by decide) ⟨Nat.le_refl 0, Nat.le_refl 0⟩ rfl rfl (Nat.le_of_ble_eq_true rfl) dX10_spell_164 h (fun v3 M H locs I h => ?_)
      refine mm_cSi X I hl (As := [.int v3]) md_X10_byteBy mv_X10_byteBy ml_X10_334 (kX10_byteBy (n := n)) (by decide) ⟨Nat.le_refl 0, Nat.le_refl 0⟩ rfl rfl (Nat.le_of_ble_eq_true rfl) dX10_spell_167 h (fun v4 M H locs I h => ?_)
      refine mm_cVv X I hl (As := [.int v4]) (ci := 10) md_X10_spells mv_X10_spells ml_X10_367 rfl (kX10_spells (n := n)) (by decide) ⟨Nat.le_refl 0, Nat.le_refl 0⟩ rfl rfl (Nat.le_of_ble_eq_true rfl) dX10_spell_170 h (fun M H locs I h => ?_)
      refine lv_iinc (v := (x5 + 1)) (lv' := [(5, .int (x5 + 1)), (0, .ref a0), (2, .int x2), (3, .int x3), (4, .int x4)]) X.1 X.2.1 dX10_spell_173 hl (k := 4) rfl rfl (by decide) rfl (fun ls hl => ?_)
      refine lv_goto (tgt := 137) X.1 X.2.1 dX10_spell_176 (by decide) ?_
      exact ih M _ _ _ _ _ _ _ _ I (lv_sub hl [1, 2, 3, 4, 0] rfl) h
set_option maxHeartbeats 4000000 in
set_option maxRecDepth 100000 in
theorem wpX10_spell_b122 {p : Program} {l : Launch} {e : Env} {s : State} {m : MethodId} {args : Array Value} {below : List Frame} {meth : Method} {c : Code} {D : va_G} {dA : Nat → ClassId} {lo : Nat} (X : mm_C D dA lo cX10_spell RX10 6 p s m args c) (hr : meth.sig.returnType = (some .int)) (hlk : meth.locks = false) (n : Nat) {o : Int32 × mm_M}  : ∀ (M : mm_M) (a0 : Nat) (x2 : Int32) (x3 : Int32) (x4 : Int32) (H : Heap) (locs : List Loc) (ls : Array Slot), mm_I D dA lo s M H locs → lv_has ls 6 [(0, .ref a0), (2, .int x2), (3, .int x3), (4, .int x4)] → pX10_spell_b122 n M a0 x2 x3 x4 = some o → W p l e (mm_rm 7 159 0 0) s m args below meth c H locs 0 0 (MQ below (mm_Q D dA lo (some (.int o.1)) o.2) args s 0 0 (mm_fr lo)) (F0 m 122 ls []) := by
  intro M a0 x2 x3 x4 H locs ls I hl h
  unfold pX10_spell_b122 at h
  refine lv_aload_n X.1 X.2.1 dX10_spell_122 rfl (lv_at hl 0 rfl) ?_
  refine lv_bipush (v := 93) X.1 X.2.1 dX10_spell_123 (by decide) ?_
  refine mm_cVv X I hl (As := [.int 93]) (ci := 10) md_X10_spells mv_X10_spells ml_X10_367 rfl (kX10_spells (n := n)) (by decide) ⟨Nat.le_refl 0, Nat.le_refl 0⟩ rfl rfl (Nat.le_of_ble_eq_true rfl) dX10_spell_125 h (fun M H locs I h => ?_)
  refine lv_iload X.1 X.2.1 dX10_spell_128 (lv_at hl 3 rfl) ?_
  refine lv_aload_n X.1 X.2.1 dX10_spell_130 rfl (lv_at hl 0 rfl) ?_
  refine mm_rgi X I fl_X10_150 dX10_spell_131 h (fun v2 h => ?_)
  refine lv_iadd X.1 X.2.1 dX10_spell_134 ?_
  refine lv_istore (lv' := [(5, .int (x4 + v2)), (0, .ref a0), (2, .int x2), (3, .int x3), (4, .int x4)]) X.1 X.2.1 dX10_spell_135 hl (by decide) rfl (fun ls hl => ?_)
  exact wpX10_spell_l137 X hr hlk n  n M _ _ _ _ _ _ _ _ I (lv_sub hl [1, 2, 3, 4, 0] rfl) h
set_option maxHeartbeats 4000000 in
set_option maxRecDepth 100000 in
theorem wpX10_spell_l90 {p : Program} {l : Launch} {e : Env} {s : State} {m : MethodId} {args : Array Value} {below : List Frame} {meth : Method} {c : Code} {D : va_G} {dA : Nat → ClassId} {lo : Nat} (X : mm_C D dA lo cX10_spell RX10 6 p s m args c) (hr : meth.sig.returnType = (some .int)) (hlk : meth.locks = false) (n : Nat) {o : Int32 × mm_M} (k : Nat) : ∀ (M : mm_M) (a0 : Nat) (x2 : Int32) (x3 : Int32) (x4 : Int32) (x5 : Int32) (H : Heap) (locs : List Loc) (ls : Array Slot), mm_I D dA lo s M H locs → lv_has ls 6 [(0, .ref a0), (2, .int x2), (3, .int x3), (4, .int x4), (5, .int x5)] → pX10_spell_l90 n k M a0 x2 x3 x4 x5 = some o → W p l e (mm_rm 7 159 0 0) s m args below meth c H locs 0 0 (MQ below (mm_Q D dA lo (some (.int o.1)) o.2) args s 0 0 (mm_fr lo)) (F0 m 90 ls []) := by
  induction k with
  | zero =>
    intro M a0 x2 x3 x4 x5 H locs ls I hl h
    have h : (none : Option (Int32 × mm_M)) = some o := h
    cases h
  | succ k ih =>
    intro M a0 x2 x3 x4 x5 H locs ls I hl h
    have h : pX10_spell_l90b n (pX10_spell_l90 n k) M a0 x2 x3 x4 x5 = some o := h
    unfold pX10_spell_l90b at h
    refine lv_iload X.1 X.2.1 dX10_spell_90 (lv_at hl 4 rfl) ?_
    refine lv_iload X.1 X.2.1 dX10_spell_92 (lv_at hl 3 rfl) ?_
    refine lv_aload_n X.1 X.2.1 dX10_spell_94 rfl (lv_at hl 0 rfl) ?_
    refine mm_rgi X I fl_X10_150 dX10_spell_95 h (fun v1 h => ?_)
    refine lv_iadd X.1 X.2.1 dX10_spell_98 ?_
    refine mm_kge (tgt := 122) X dX10_spell_99 (by decide) h (fun h => ?_) (fun h => ?_)
    · exact wpX10_spell_b122 X hr hlk n  M _ _ _ _ _ _ _ I (lv_sub hl [0, 1, 2, 3] rfl) h
    · refine lv_aload_n X.1 X.2.1 dX10_spell_102 rfl (lv_at hl 0 rfl) ?_
      refine lv_aload_n X.1 X.2.1 dX10_spell_103 rfl (lv_at hl 0 rfl) ?_
      refine lv_iload_n X.1 X.2.1 dX10_spell_104 rfl (lv_at hl 2 rfl) ?_
      refine lv_iload X.1 X.2.1 dX10_spell_105 (lv_at hl 4 rfl) ?_
      refine mm_cVi X I hl (As := [.int x3, .int x5]) (ci := 10) md_X10_signAt mv_X10_signAt ml_X10_176 rfl (kX10_signAt (n := n)) (by decide) ⟨Nat.le_refl 0, Nat.le_refl 0⟩ rfl rfl (Nat.le_of_ble_eq_true rfl) dX10_spell_107 h (fun v2 M H locs I h => ?_)
      refine mm_cSi X I hl (As := [.int v2]) md_X10_byteBy mv_X10_byteBy ml_X10_334 (kX10_byteBy (n := n)) (by decide) ⟨Nat.le_refl 0, Nat.le_refl 0⟩ rfl rfl (Nat.le_of_ble_eq_true rfl) dX10_spell_110 h (fun v3 M H locs I h => ?_)
      refine mm_cVv X I hl (As := [.int v3]) (ci := 10) md_X10_spells mv_X10_spells ml_X10_367 rfl (kX10_spells (n := n)) (by decide) ⟨Nat.le_refl 0, Nat.le_refl 0⟩ rfl rfl (Nat.le_of_ble_eq_true rfl) dX10_spell_113 h (fun M H locs I h => ?_)
      refine lv_iinc (v := (x5 + 1)) (lv' := [(5, .int (x5 + 1)), (0, .ref a0), (2, .int x2), (3, .int x3), (4, .int x4)]) X.1 X.2.1 dX10_spell_116 hl (k := 4) rfl rfl (by decide) rfl (fun ls hl => ?_)
      refine lv_goto (tgt := 90) X.1 X.2.1 dX10_spell_119 (by decide) ?_
      exact ih M _ _ _ _ _ _ _ _ I (lv_sub hl [1, 2, 3, 4, 0] rfl) h
set_option maxHeartbeats 4000000 in
set_option maxRecDepth 100000 in
theorem wpX10_spell_l53 {p : Program} {l : Launch} {e : Env} {s : State} {m : MethodId} {args : Array Value} {below : List Frame} {meth : Method} {c : Code} {D : va_G} {dA : Nat → ClassId} {lo : Nat} (X : mm_C D dA lo cX10_spell RX10 6 p s m args c) (hr : meth.sig.returnType = (some .int)) (hlk : meth.locks = false) (n : Nat) {o : Int32 × mm_M} (k : Nat) : ∀ (M : mm_M) (a0 : Nat) (x2 : Int32) (x3 : Int32) (x4 : Int32) (x5 : Int32) (H : Heap) (locs : List Loc) (ls : Array Slot), mm_I D dA lo s M H locs → lv_has ls 6 [(0, .ref a0), (2, .int x2), (3, .int x3), (4, .int x4), (5, .int x5)] → pX10_spell_l53 n k M a0 x2 x3 x4 x5 = some o → W p l e (mm_rm 7 159 0 0) s m args below meth c H locs 0 0 (MQ below (mm_Q D dA lo (some (.int o.1)) o.2) args s 0 0 (mm_fr lo)) (F0 m 53 ls []) := by
  induction k with
  | zero =>
    intro M a0 x2 x3 x4 x5 H locs ls I hl h
    have h : (none : Option (Int32 × mm_M)) = some o := h
    cases h
  | succ k ih =>
    intro M a0 x2 x3 x4 x5 H locs ls I hl h
    have h : pX10_spell_l53b n (pX10_spell_l53 n k) M a0 x2 x3 x4 x5 = some o := h
    unfold pX10_spell_l53b at h
    refine lv_iload X.1 X.2.1 dX10_spell_53 (lv_at hl 4 rfl) ?_
    refine lv_iload X.1 X.2.1 dX10_spell_55 (lv_at hl 3 rfl) ?_
    refine mm_kge (tgt := 80) X dX10_spell_57 (by decide) h (fun h => ?_) (fun h => ?_)
    · refine lv_aload_n X.1 X.2.1 dX10_spell_80 rfl (lv_at hl 0 rfl) ?_
      refine lv_bipush (v := 91) X.1 X.2.1 dX10_spell_81 (by decide) ?_
      refine mm_cVv X I hl (As := [.int 91]) (ci := 10) md_X10_spells mv_X10_spells ml_X10_367 rfl (kX10_spells (n := n)) (by decide) ⟨Nat.le_refl 0, Nat.le_refl 0⟩ rfl rfl (Nat.le_of_ble_eq_true rfl) dX10_spell_83 h (fun M H locs I h => ?_)
      refine lv_iload X.1 X.2.1 dX10_spell_86 (lv_at hl 3 rfl) ?_
      refine lv_istore (lv' := [(5, .int x4), (0, .ref a0), (2, .int x2), (3, .int x3), (4, .int x4)]) X.1 X.2.1 dX10_spell_88 hl (by decide) rfl (fun ls hl => ?_)
      exact wpX10_spell_l90 X hr hlk n  n M _ _ _ _ _ _ _ _ I (lv_sub hl [1, 2, 3, 4, 0] rfl) h
    · refine lv_aload_n X.1 X.2.1 dX10_spell_60 rfl (lv_at hl 0 rfl) ?_
      refine lv_aload_n X.1 X.2.1 dX10_spell_61 rfl (lv_at hl 0 rfl) ?_
      refine lv_iload_n X.1 X.2.1 dX10_spell_62 rfl (lv_at hl 2 rfl) ?_
      refine lv_iload X.1 X.2.1 dX10_spell_63 (lv_at hl 4 rfl) ?_
      refine mm_cVi X I hl (As := [.int x3, .int x5]) (ci := 10) md_X10_signAt mv_X10_signAt ml_X10_176 rfl (kX10_signAt (n := n)) (by decide) ⟨Nat.le_refl 0, Nat.le_refl 0⟩ rfl rfl (Nat.le_of_ble_eq_true rfl) dX10_spell_65 h (fun v2 M H locs I h => ?_)
      refine mm_cSi X I hl (As := [.int v2]) md_X10_byteBy mv_X10_byteBy ml_X10_334 (kX10_byteBy (n := n)) (by decide) ⟨Nat.le_refl 0, Nat.le_refl 0⟩ rfl rfl (Nat.le_of_ble_eq_true rfl) dX10_spell_68 h (fun v3 M H locs I h => ?_)
      refine mm_cVv X I hl (As := [.int v3]) (ci := 10) md_X10_spells mv_X10_spells ml_X10_367 rfl (kX10_spells (n := n)) (by decide) ⟨Nat.le_refl 0, Nat.le_refl 0⟩ rfl rfl (Nat.le_of_ble_eq_true rfl) dX10_spell_71 h (fun M H locs I h => ?_)
      refine lv_iinc (v := (x5 + 1)) (lv' := [(5, .int (x5 + 1)), (0, .ref a0), (2, .int x2), (3, .int x3), (4, .int x4)]) X.1 X.2.1 dX10_spell_74 hl (k := 4) rfl rfl (by decide) rfl (fun ls hl => ?_)
      refine lv_goto (tgt := 53) X.1 X.2.1 dX10_spell_77 (by decide) ?_
      exact ih M _ _ _ _ _ _ _ _ I (lv_sub hl [1, 2, 3, 4, 0] rfl) h
set_option maxHeartbeats 4000000 in
set_option maxRecDepth 100000 in
theorem kX10_spell {l : Launch} {D : va_G} {dA : Nat → ClassId} {lo : Nat} {n : Nat} {M : mm_M} {a0 : Nat} {x1 : Int32} {x2 : Int32} (o : Int32 × mm_M) (h : pX10_spell n M a0 x1 x2 = some o) : (∃ fs, M.2 a0 = some (mm_ob 10 fs)) ∧ mm_Met l D dA lo yX10_spell cX10_spell 6 (some .int) 7 159 0 0 [.ref a0, .int x1, .int x2] M (some (.int o.1)) o.2 := by
  unfold pX10_spell at h
  obtain ⟨hob, h⟩ := mm_v_some h
  refine ⟨hob, mm_enter (by decide) (Nat.le_of_ble_eq_true rfl) (fun p e s m args below meth c ls X hr hlk hnm I hl => ?_)⟩
  have X : mm_C D dA lo cX10_spell RX10 6 p s m args c := X
  have hl : lv_has ls 6 [(0, .ref a0), (1, .int x1), (2, .int x2)] := hl
  refine lv_aload_n X.1 X.2.1 dX10_spell_0 rfl (lv_at hl 0 rfl) ?_
  refine mm_cVi X I hl (As := []) (ci := 10) md_X10_laysWord mv_X10_laysWord ml_X10_327 rfl (kX10_laysWord (n := n)) (by decide) ⟨Nat.le_refl 0, Nat.le_refl 0⟩ rfl rfl (Nat.le_of_ble_eq_true rfl) dX10_spell_1 h (fun v1 M H locs I h => ?_)
  refine mm_jeq (tgt := 21) X dX10_spell_4 (by decide) h (fun h => ?_) (fun h => ?_)
  · refine lv_iconst (v := (-1)) X.1 X.2.1 dX10_spell_21 (by decide) ?_
    exact mm_xi X I hr hlk dX10_spell_22 h
  · refine lv_iload_n X.1 X.2.1 dX10_spell_7 rfl (lv_at hl 1 rfl) ?_
    refine lv_iconst (v := 0) X.1 X.2.1 dX10_spell_8 (by decide) ?_
    refine lv_aload_n X.1 X.2.1 dX10_spell_9 rfl (lv_at hl 0 rfl) ?_
    refine mm_rgi X I fl_X10_170 dX10_spell_10 h (fun v2 h => ?_)
    refine lv_iconst (v := 1) X.1 X.2.1 dX10_spell_13 (by decide) ?_
    refine lv_isub X.1 X.2.1 dX10_spell_14 ?_
    refine mm_cSi X I hl (As := [.int x1, .int 0, .int (v2 - 1)]) md_X10_in mv_X10_in ml_X10_69 (kX10_in (n := n)) (by decide) ⟨Nat.le_refl 0, Nat.le_refl 0⟩ rfl rfl (Nat.le_of_ble_eq_true rfl) dX10_spell_15 h (fun v3 M H locs I h => ?_)
    refine mm_jne (tgt := 23) X dX10_spell_18 (by decide) h (fun h => ?_) (fun h => ?_)
    · refine lv_aload_n X.1 X.2.1 dX10_spell_23 rfl (lv_at hl 0 rfl) ?_
      refine lv_iconst (v := 0) X.1 X.2.1 dX10_spell_24 (by decide) ?_
      refine mm_rpi X I fl_X10_364 dX10_spell_25 h (fun M H locs I h => ?_)
      refine lv_aload_n X.1 X.2.1 dX10_spell_28 rfl (lv_at hl 0 rfl) ?_
      refine mm_rgr X I fl_X10_37 dX10_spell_29 h (fun v4 h => ?_)
      refine lv_iload_n X.1 X.2.1 dX10_spell_32 rfl (lv_at hl 1 rfl) ?_
      refine mm_ria X I dX10_spell_33 h (fun v5 h => ?_)
      refine lv_istore_n (lv' := [(3, .int v5), (0, .ref a0), (1, .int x1), (2, .int x2)]) X.1 X.2.1 dX10_spell_34 rfl hl (by decide) rfl (fun ls hl => ?_)
      refine lv_aload_n X.1 X.2.1 dX10_spell_35 rfl (lv_at hl 1 rfl) ?_
      refine mm_rgr X I fl_X10_40 dX10_spell_36 h (fun v6 h => ?_)
      refine lv_iload_n X.1 X.2.1 dX10_spell_39 rfl (lv_at hl 2 rfl) ?_
      refine mm_ria X I dX10_spell_40 h (fun v7 h => ?_)
      refine lv_istore (lv' := [(4, .int v7), (3, .int v5), (0, .ref a0), (1, .int x1), (2, .int x2)]) X.1 X.2.1 dX10_spell_41 hl (by decide) rfl (fun ls hl => ?_)
      refine lv_iconst (v := 0) X.1 X.2.1 dX10_spell_43 (by decide) ?_
      refine lv_iload X.1 X.2.1 dX10_spell_44 (lv_at hl 0 rfl) ?_
      refine lv_iconst (v := 5) X.1 X.2.1 dX10_spell_46 (by decide) ?_
      refine lv_isub X.1 X.2.1 dX10_spell_47 ?_
      refine mm_rmax X hl ml_X10_211 (by decide) (Nat.le_of_ble_eq_true rfl) (by decide) (by decide) dX10_spell_48 ?_
      refine lv_istore (lv' := [(5, .int (mm_max 0 (v7 - 5))), (4, .int v7), (3, .int v5), (0, .ref a0), (1, .int x1), (2, .int x2)]) X.1 X.2.1 dX10_spell_51 hl (by decide) rfl (fun ls hl => ?_)
      exact wpX10_spell_l53 X hr hlk n  n M _ _ _ _ _ _ _ _ I (lv_sub hl [3, 5, 2, 1, 0] rfl) h
    · refine lv_iconst (v := (-1)) X.1 X.2.1 dX10_spell_21 (by decide) ?_
      exact mm_xi X I hr hlk dX10_spell_22 h
set_option maxHeartbeats 4000000 in
set_option maxRecDepth 100000 in
theorem wpX10_putAside_l2 {p : Program} {l : Launch} {e : Env} {s : State} {m : MethodId} {args : Array Value} {below : List Frame} {meth : Method} {c : Code} {D : va_G} {dA : Nat → ClassId} {lo : Nat} (X : mm_C D dA lo cX10_putAside RX10 2 p s m args c) (hr : meth.sig.returnType = none) (hlk : meth.locks = false) (n : Nat) {o : mm_M} (k : Nat) : ∀ (M : mm_M) (a0 : Nat) (x1 : Int32) (H : Heap) (locs : List Loc) (ls : Array Slot), mm_I D dA lo s M H locs → lv_has ls 2 [(0, .ref a0), (1, .int x1)] → pX10_putAside_l2 n k M a0 x1 = some o → W p l e (mm_rm 0 0 0 0) s m args below meth c H locs 0 0 (MQ below (mm_Q D dA lo none o) args s 0 0 (mm_fr lo)) (F0 m 2 ls []) := by
  induction k with
  | zero =>
    intro M a0 x1 H locs ls I hl h
    have h : (none : Option (mm_M)) = some o := h
    cases h
  | succ k ih =>
    intro M a0 x1 H locs ls I hl h
    have h : pX10_putAside_l2b n (pX10_putAside_l2 n k) M a0 x1 = some o := h
    unfold pX10_putAside_l2b at h
    refine lv_iload_n X.1 X.2.1 dX10_putAside_2 rfl (lv_at hl 1 rfl) ?_
    refine lv_sipush (v := 441) X.1 X.2.1 dX10_putAside_3 (by decide) ?_
    refine mm_kge (tgt := 27) X dX10_putAside_6 (by decide) h (fun h => ?_) (fun h => ?_)
    · exact mm_xv X I hr hlk dX10_putAside_27 h
    · refine lv_aload_n X.1 X.2.1 dX10_putAside_9 rfl (lv_at hl 0 rfl) ?_
      refine mm_rgr X I fl_X10_52 dX10_putAside_10 h (fun v1 h => ?_)
      refine lv_iload_n X.1 X.2.1 dX10_putAside_13 rfl (lv_at hl 1 rfl) ?_
      refine lv_aload_n X.1 X.2.1 dX10_putAside_14 rfl (lv_at hl 0 rfl) ?_
      refine mm_rgr X I fl_X10_28 dX10_putAside_15 h (fun v2 h => ?_)
      refine lv_iload_n X.1 X.2.1 dX10_putAside_18 rfl (lv_at hl 1 rfl) ?_
      refine mm_ria X I dX10_putAside_19 h (fun v3 h => ?_)
      refine mm_ris X I dX10_putAside_20 h (fun M H locs I h => ?_)
      refine lv_iinc (v := (x1 + 1)) (lv' := [(1, .int (x1 + 1)), (0, .ref a0)]) X.1 X.2.1 dX10_putAside_21 hl (k := 1) rfl rfl (by decide) rfl (fun ls hl => ?_)
      refine lv_goto (tgt := 2) X.1 X.2.1 dX10_putAside_24 (by decide) ?_
      exact ih M _ _ _ _ _ I (lv_sub hl [1, 0] rfl) h
set_option maxHeartbeats 4000000 in
set_option maxRecDepth 100000 in
theorem kX10_putAside {l : Launch} {D : va_G} {dA : Nat → ClassId} {lo : Nat} {n : Nat} {M : mm_M} {a0 : Nat} (o : mm_M) (h : pX10_putAside n M a0 = some o) : (∃ fs, M.2 a0 = some (mm_ob 10 fs)) ∧ mm_Met l D dA lo yX10_putAside cX10_putAside 2 none 0 0 0 0 [.ref a0] M none o := by
  unfold pX10_putAside at h
  obtain ⟨hob, h⟩ := mm_v_some h
  refine ⟨hob, mm_enter (by decide) (Nat.le_of_ble_eq_true rfl) (fun p e s m args below meth c ls X hr hlk hnm I hl => ?_)⟩
  have X : mm_C D dA lo cX10_putAside RX10 2 p s m args c := X
  have hl : lv_has ls 2 [(0, .ref a0)] := hl
  refine lv_iconst (v := 0) X.1 X.2.1 dX10_putAside_0 (by decide) ?_
  refine lv_istore_n (lv' := [(1, .int 0), (0, .ref a0)]) X.1 X.2.1 dX10_putAside_1 rfl hl (by decide) rfl (fun ls hl => ?_)
  exact wpX10_putAside_l2 X hr hlk n  n M _ _ _ _ _ I (lv_sub hl [1, 0] rfl) h
set_option maxHeartbeats 4000000 in
set_option maxRecDepth 100000 in
theorem wpX10_bringBack_l2 {p : Program} {l : Launch} {e : Env} {s : State} {m : MethodId} {args : Array Value} {below : List Frame} {meth : Method} {c : Code} {D : va_G} {dA : Nat → ClassId} {lo : Nat} (X : mm_C D dA lo cX10_bringBack RX10 2 p s m args c) (hr : meth.sig.returnType = none) (hlk : meth.locks = false) (n : Nat) {o : mm_M} (k : Nat) : ∀ (M : mm_M) (a0 : Nat) (x1 : Int32) (H : Heap) (locs : List Loc) (ls : Array Slot), mm_I D dA lo s M H locs → lv_has ls 2 [(0, .ref a0), (1, .int x1)] → pX10_bringBack_l2 n k M a0 x1 = some o → W p l e (mm_rm 0 0 0 0) s m args below meth c H locs 0 0 (MQ below (mm_Q D dA lo none o) args s 0 0 (mm_fr lo)) (F0 m 2 ls []) := by
  induction k with
  | zero =>
    intro M a0 x1 H locs ls I hl h
    have h : (none : Option (mm_M)) = some o := h
    cases h
  | succ k ih =>
    intro M a0 x1 H locs ls I hl h
    have h : pX10_bringBack_l2b n (pX10_bringBack_l2 n k) M a0 x1 = some o := h
    unfold pX10_bringBack_l2b at h
    refine lv_iload_n X.1 X.2.1 dX10_bringBack_2 rfl (lv_at hl 1 rfl) ?_
    refine lv_sipush (v := 441) X.1 X.2.1 dX10_bringBack_3 (by decide) ?_
    refine mm_kge (tgt := 27) X dX10_bringBack_6 (by decide) h (fun h => ?_) (fun h => ?_)
    · exact mm_xv X I hr hlk dX10_bringBack_27 h
    · refine lv_aload_n X.1 X.2.1 dX10_bringBack_9 rfl (lv_at hl 0 rfl) ?_
      refine mm_rgr X I fl_X10_28 dX10_bringBack_10 h (fun v1 h => ?_)
      refine lv_iload_n X.1 X.2.1 dX10_bringBack_13 rfl (lv_at hl 1 rfl) ?_
      refine lv_aload_n X.1 X.2.1 dX10_bringBack_14 rfl (lv_at hl 0 rfl) ?_
      refine mm_rgr X I fl_X10_52 dX10_bringBack_15 h (fun v2 h => ?_)
      refine lv_iload_n X.1 X.2.1 dX10_bringBack_18 rfl (lv_at hl 1 rfl) ?_
      refine mm_ria X I dX10_bringBack_19 h (fun v3 h => ?_)
      refine mm_ris X I dX10_bringBack_20 h (fun M H locs I h => ?_)
      refine lv_iinc (v := (x1 + 1)) (lv' := [(1, .int (x1 + 1)), (0, .ref a0)]) X.1 X.2.1 dX10_bringBack_21 hl (k := 1) rfl rfl (by decide) rfl (fun ls hl => ?_)
      refine lv_goto (tgt := 2) X.1 X.2.1 dX10_bringBack_24 (by decide) ?_
      exact ih M _ _ _ _ _ I (lv_sub hl [1, 0] rfl) h
set_option maxHeartbeats 4000000 in
set_option maxRecDepth 100000 in
theorem kX10_bringBack {l : Launch} {D : va_G} {dA : Nat → ClassId} {lo : Nat} {n : Nat} {M : mm_M} {a0 : Nat} (o : mm_M) (h : pX10_bringBack n M a0 = some o) : (∃ fs, M.2 a0 = some (mm_ob 10 fs)) ∧ mm_Met l D dA lo yX10_bringBack cX10_bringBack 2 none 0 0 0 0 [.ref a0] M none o := by
  unfold pX10_bringBack at h
  obtain ⟨hob, h⟩ := mm_v_some h
  refine ⟨hob, mm_enter (by decide) (Nat.le_of_ble_eq_true rfl) (fun p e s m args below meth c ls X hr hlk hnm I hl => ?_)⟩
  have X : mm_C D dA lo cX10_bringBack RX10 2 p s m args c := X
  have hl : lv_has ls 2 [(0, .ref a0)] := hl
  refine lv_iconst (v := 0) X.1 X.2.1 dX10_bringBack_0 (by decide) ?_
  refine lv_istore_n (lv' := [(1, .int 0), (0, .ref a0)]) X.1 X.2.1 dX10_bringBack_1 rfl hl (by decide) rfl (fun ls hl => ?_)
  exact wpX10_bringBack_l2 X hr hlk n  n M _ _ _ _ _ I (lv_sub hl [1, 0] rfl) h
set_option maxHeartbeats 4000000 in
set_option maxRecDepth 100000 in
theorem kX10_would {l : Launch} {D : va_G} {dA : Nat → ClassId} {lo : Nat} {n : Nat} {M : mm_M} {a0 : Nat} {x1 : Int32} (o : Int32 × mm_M) (h : pX10_would n M a0 x1 = some o) : (∃ fs, M.2 a0 = some (mm_ob 10 fs)) ∧ mm_Met l D dA lo yX10_would cX10_would 2 (some .int) 7 159 0 0 [.ref a0, .int x1] M (some (.int o.1)) o.2 := by
  unfold pX10_would at h
  obtain ⟨hob, h⟩ := mm_v_some h
  refine ⟨hob, mm_enter (by decide) (Nat.le_of_ble_eq_true rfl) (fun p e s m args below meth c ls X hr hlk hnm I hl => ?_)⟩
  have X : mm_C D dA lo cX10_would RX10 2 p s m args c := X
  have hl : lv_has ls 2 [(0, .ref a0), (1, .int x1)] := hl
  refine lv_aload_n X.1 X.2.1 dX10_would_0 rfl (lv_at hl 0 rfl) ?_
  refine lv_iload_n X.1 X.2.1 dX10_would_1 rfl (lv_at hl 1 rfl) ?_
  refine mm_cVi X I hl (As := [.int x1]) (ci := 10) md_X10_isLine mv_X10_isLine ml_X10_132 rfl (kX10_isLine (n := n)) (by decide) ⟨Nat.le_refl 0, Nat.le_refl 0⟩ rfl rfl (Nat.le_of_ble_eq_true rfl) dX10_would_2 h (fun v1 M H locs I h => ?_)
  refine mm_jeq (tgt := 22) X dX10_would_5 (by decide) h (fun h => ?_) (fun h => ?_)
  · refine lv_iconst (v := (-1)) X.1 X.2.1 dX10_would_22 (by decide) ?_
    exact mm_xi X I hr hlk dX10_would_23 h
  · refine lv_aload_n X.1 X.2.1 dX10_would_8 rfl (lv_at hl 0 rfl) ?_
    refine mm_rgi X I fl_X10_150 dX10_would_9 h (fun v2 h => ?_)
    refine mm_jeq (tgt := 22) X dX10_would_12 (by decide) h (fun h => ?_) (fun h => ?_)
    · refine lv_iconst (v := (-1)) X.1 X.2.1 dX10_would_22 (by decide) ?_
      exact mm_xi X I hr hlk dX10_would_23 h
    · refine lv_aload_n X.1 X.2.1 dX10_would_15 rfl (lv_at hl 0 rfl) ?_
      refine mm_cVi X I hl (As := []) (ci := 10) md_X10_lineInHand mv_X10_lineInHand ml_X10_296 rfl (kX10_lineInHand (n := n)) (by decide) ⟨Nat.le_refl 0, Nat.le_refl 0⟩ rfl rfl (Nat.le_of_ble_eq_true rfl) dX10_would_16 h (fun v3 M H locs I h => ?_)
      refine mm_jne (tgt := 24) X dX10_would_19 (by decide) h (fun h => ?_) (fun h => ?_)
      · refine lv_aload_n X.1 X.2.1 dX10_would_24 rfl (lv_at hl 0 rfl) ?_
        refine mm_cVv X I hl (As := []) (ci := 10) md_X10_putAside mv_X10_putAside ml_X10_370 rfl (kX10_putAside (n := n)) (by decide) ⟨Nat.le_refl 0, Nat.le_refl 0⟩ rfl rfl (Nat.le_of_ble_eq_true rfl) dX10_would_25 h (fun M H locs I h => ?_)
        refine lv_aload_n X.1 X.2.1 dX10_would_28 rfl (lv_at hl 0 rfl) ?_
        refine lv_iload_n X.1 X.2.1 dX10_would_29 rfl (lv_at hl 1 rfl) ?_
        refine lv_aload_n X.1 X.2.1 dX10_would_30 rfl (lv_at hl 0 rfl) ?_
        refine mm_rgr X I fl_X10_25 dX10_would_31 h (fun v5 h => ?_)
        refine lv_iconst (v := 0) X.1 X.2.1 dX10_would_34 (by decide) ?_
        refine lv_aload_n X.1 X.2.1 dX10_would_35 rfl (lv_at hl 0 rfl) ?_
        refine mm_rgi X I fl_X10_117 dX10_would_36 h (fun v6 h => ?_)
        refine mm_cVv X I hl (As := [.int x1, .ref v5, .int 0, .int v6]) (ci := 10) md_X10_laysSigns mv_X10_laysSigns ml_X10_146 rfl (kX10_laysSigns (n := n)) (by decide) ⟨Nat.le_refl 0, Nat.le_refl 0⟩ rfl rfl (Nat.le_of_ble_eq_true rfl) dX10_would_39 h (fun M H locs I h => ?_)
        refine lv_aload_n X.1 X.2.1 dX10_would_42 rfl (lv_at hl 0 rfl) ?_
        refine mm_cVi X I hl (As := []) (ci := 10) md_X10_laysWord mv_X10_laysWord ml_X10_327 rfl (kX10_laysWord (n := n)) (by decide) ⟨Nat.le_refl 0, Nat.le_refl 0⟩ rfl rfl (Nat.le_of_ble_eq_true rfl) dX10_would_43 h (fun v8 M H locs I h => ?_)
        refine lv_pop X.1 X.2.1 dX10_would_46 rfl ?_
        refine lv_aload_n X.1 X.2.1 dX10_would_47 rfl (lv_at hl 0 rfl) ?_
        refine mm_cVv X I hl (As := []) (ci := 10) md_X10_bringBack mv_X10_bringBack ml_X10_373 rfl (kX10_bringBack (n := n)) (by decide) ⟨Nat.le_refl 0, Nat.le_refl 0⟩ rfl rfl (Nat.le_of_ble_eq_true rfl) dX10_would_48 h (fun M H locs I h => ?_)
        refine lv_aload_n X.1 X.2.1 dX10_would_51 rfl (lv_at hl 0 rfl) ?_
        refine mm_rgi X I fl_X10_170 dX10_would_52 h (fun v10 h => ?_)
        exact mm_xi X I hr hlk dX10_would_55 h
      · refine lv_iconst (v := (-1)) X.1 X.2.1 dX10_would_22 (by decide) ?_
        exact mm_xi X I hr hlk dX10_would_23 h
set_option maxHeartbeats 4000000 in
set_option maxRecDepth 100000 in
theorem kX10_isScript {l : Launch} {D : va_G} {dA : Nat → ClassId} {lo : Nat} {n : Nat} {M : mm_M} {a0 : Nat} {x1 : Int32} (o : Int32 × mm_M) (h : pX10_isScript n M a0 x1 = some o) : (∃ fs, M.2 a0 = some (mm_ob 10 fs)) ∧ mm_Met l D dA lo yX10_isScript cX10_isScript 2 (some .boolean) 1 22 0 0 [.ref a0, .int x1] M (some (.int o.1)) o.2 := by
  unfold pX10_isScript at h
  obtain ⟨hob, h⟩ := mm_v_some h
  refine ⟨hob, mm_enter (by decide) (Nat.le_of_ble_eq_true rfl) (fun p e s m args below meth c ls X hr hlk hnm I hl => ?_)⟩
  have X : mm_C D dA lo cX10_isScript RX10 2 p s m args c := X
  have hl : lv_has ls 2 [(0, .ref a0), (1, .int x1)] := hl
  refine lv_iload_n X.1 X.2.1 dX10_isScript_0 rfl (lv_at hl 1 rfl) ?_
  refine lv_iconst (v := 0) X.1 X.2.1 dX10_isScript_1 (by decide) ?_
  refine lv_aload_n X.1 X.2.1 dX10_isScript_2 rfl (lv_at hl 0 rfl) ?_
  refine mm_rgi X I fl_X10_163 dX10_isScript_3 h (fun v1 h => ?_)
  refine lv_iconst (v := 1) X.1 X.2.1 dX10_isScript_6 (by decide) ?_
  refine lv_isub X.1 X.2.1 dX10_isScript_7 ?_
  refine mm_cSi X I hl (As := [.int x1, .int 0, .int (v1 - 1)]) md_X10_in mv_X10_in ml_X10_69 (kX10_in (n := n)) (by decide) ⟨Nat.le_refl 0, Nat.le_refl 0⟩ rfl rfl (Nat.le_of_ble_eq_true rfl) dX10_isScript_8 h (fun v2 M H locs I h => ?_)
  exact mm_xz X I hr hlk dX10_isScript_11 h
set_option maxHeartbeats 4000000 in
set_option maxRecDepth 100000 in
theorem kX10_step {l : Launch} {D : va_G} {dA : Nat → ClassId} {lo : Nat} {n : Nat} {M : mm_M} {a0 : Nat} {x1 : Int32} {x2 : Int32} {x3 : Int32} (o : Int32 × mm_M) (h : pX10_step n M a0 x1 x2 x3 = some o) : (∃ fs, M.2 a0 = some (mm_ob 10 fs)) ∧ mm_Met l D dA lo yX10_step cX10_step 4 (some .int) 2 43 0 0 [.ref a0, .int x1, .int x2, .int x3] M (some (.int o.1)) o.2 := by
  unfold pX10_step at h
  obtain ⟨hob, h⟩ := mm_v_some h
  refine ⟨hob, mm_enter (by decide) (Nat.le_of_ble_eq_true rfl) (fun p e s m args below meth c ls X hr hlk hnm I hl => ?_)⟩
  have X : mm_C D dA lo cX10_step RX10 4 p s m args c := X
  have hl : lv_has ls 4 [(0, .ref a0), (1, .int x1), (2, .int x2), (3, .int x3)] := hl
  refine lv_aload_n X.1 X.2.1 dX10_step_0 rfl (lv_at hl 0 rfl) ?_
  refine lv_iload_n X.1 X.2.1 dX10_step_1 rfl (lv_at hl 1 rfl) ?_
  refine mm_cVi X I hl (As := [.int x1]) (ci := 10) md_X10_isScript mv_X10_isScript ml_X10_376 rfl (kX10_isScript (n := n)) (by decide) ⟨Nat.le_refl 0, Nat.le_refl 0⟩ rfl rfl (Nat.le_of_ble_eq_true rfl) dX10_step_2 h (fun v1 M H locs I h => ?_)
  refine mm_jeq (tgt := 52) X dX10_step_5 (by decide) h (fun h => ?_) (fun h => ?_)
  · refine lv_ldc (v := (-1000000)) X.1 X.2.1 X.2.2.2.1 (X.2.2.2.2.1 _ cn_X10_109) dX10_step_52 ?_
    exact mm_xi X I hr hlk dX10_step_54 h
  · refine lv_iload_n X.1 X.2.1 dX10_step_8 rfl (lv_at hl 2 rfl) ?_
    refine lv_iconst (v := 0) X.1 X.2.1 dX10_step_9 (by decide) ?_
    refine lv_aload_n X.1 X.2.1 dX10_step_10 rfl (lv_at hl 0 rfl) ?_
    refine mm_rgr X I fl_X10_22 dX10_step_11 h (fun v2 h => ?_)
    refine lv_iload_n X.1 X.2.1 dX10_step_14 rfl (lv_at hl 1 rfl) ?_
    refine mm_ria X I dX10_step_15 h (fun v3 h => ?_)
    refine lv_iconst (v := 1) X.1 X.2.1 dX10_step_16 (by decide) ?_
    refine lv_isub X.1 X.2.1 dX10_step_17 ?_
    refine mm_cSi X I hl (As := [.int x2, .int 0, .int (v3 - 1)]) md_X10_in mv_X10_in ml_X10_69 (kX10_in (n := n)) (by decide) ⟨Nat.le_refl 0, Nat.le_refl 0⟩ rfl rfl (Nat.le_of_ble_eq_true rfl) dX10_step_18 h (fun v4 M H locs I h => ?_)
    refine mm_jeq (tgt := 52) X dX10_step_21 (by decide) h (fun h => ?_) (fun h => ?_)
    · refine lv_ldc (v := (-1000000)) X.1 X.2.1 X.2.2.2.1 (X.2.2.2.2.1 _ cn_X10_109) dX10_step_52 ?_
      exact mm_xi X I hr hlk dX10_step_54 h
    · refine lv_iload_n X.1 X.2.1 dX10_step_24 rfl (lv_at hl 3 rfl) ?_
      refine lv_iconst (v := 0) X.1 X.2.1 dX10_step_25 (by decide) ?_
      refine lv_iconst (v := 3) X.1 X.2.1 dX10_step_26 (by decide) ?_
      refine mm_cSi X I hl (As := [.int x3, .int 0, .int 3]) md_X10_in mv_X10_in ml_X10_69 (kX10_in (n := n)) (by decide) ⟨Nat.le_refl 0, Nat.le_refl 0⟩ rfl rfl (Nat.le_of_ble_eq_true rfl) dX10_step_27 h (fun v5 M H locs I h => ?_)
      refine mm_jeq (tgt := 52) X dX10_step_30 (by decide) h (fun h => ?_) (fun h => ?_)
      · refine lv_ldc (v := (-1000000)) X.1 X.2.1 X.2.2.2.1 (X.2.2.2.2.1 _ cn_X10_109) dX10_step_52 ?_
        exact mm_xi X I hr hlk dX10_step_54 h
      · refine lv_aload_n X.1 X.2.1 dX10_step_33 rfl (lv_at hl 0 rfl) ?_
        refine mm_rgr X I fl_X10_19 dX10_step_34 h (fun v6 h => ?_)
        refine lv_bipush (v := 24) X.1 X.2.1 dX10_step_37 (by decide) ?_
        refine lv_bipush (v := 12) X.1 X.2.1 dX10_step_39 (by decide) ?_
        refine lv_iload_n X.1 X.2.1 dX10_step_41 rfl (lv_at hl 1 rfl) ?_
        refine lv_imul X.1 X.2.1 dX10_step_42 ?_
        refine lv_iload_n X.1 X.2.1 dX10_step_43 rfl (lv_at hl 2 rfl) ?_
        refine lv_iadd X.1 X.2.1 dX10_step_44 ?_
        refine lv_imul X.1 X.2.1 dX10_step_45 ?_
        refine lv_iload_n X.1 X.2.1 dX10_step_46 rfl (lv_at hl 3 rfl) ?_
        refine lv_iadd X.1 X.2.1 dX10_step_47 ?_
        refine mm_ria X I dX10_step_48 h (fun v7 h => ?_)
        refine lv_goto (tgt := 54) X.1 X.2.1 dX10_step_49 (by decide) ?_
        exact mm_xi X I hr hlk dX10_step_54 h
set_option maxHeartbeats 4000000 in
set_option maxRecDepth 100000 in
theorem wpX10_goSteps_l2 {p : Program} {l : Launch} {e : Env} {s : State} {m : MethodId} {args : Array Value} {below : List Frame} {meth : Method} {c : Code} {D : va_G} {dA : Nat → ClassId} {lo : Nat} (X : mm_C D dA lo cX10_goSteps RX10 7 p s m args c) (hr : meth.sig.returnType = (some .int)) (hlk : meth.locks = false) (n : Nat) {o : Int32 × mm_M} (k : Nat) : ∀ (M : mm_M) (a0 : Nat) (x1 : Int32) (x2 : Int32) (x3 : Int32) (H : Heap) (locs : List Loc) (ls : Array Slot), mm_I D dA lo s M H locs → lv_has ls 7 [(0, .ref a0), (1, .int x1), (2, .int x2), (3, .int x3)] → pX10_goSteps_l2 n k M a0 x1 x2 x3 = some o → W p l e (mm_rm 11 265 0 0) s m args below meth c H locs 0 0 (MQ below (mm_Q D dA lo (some (.int o.1)) o.2) args s 0 0 (mm_fr lo)) (F0 m 2 ls []) := by
  induction k with
  | zero =>
    intro M a0 x1 x2 x3 H locs ls I hl h
    have h : (none : Option (Int32 × mm_M)) = some o := h
    cases h
  | succ k ih =>
    intro M a0 x1 x2 x3 H locs ls I hl h
    have h : pX10_goSteps_l2b n (pX10_goSteps_l2 n k) M a0 x1 x2 x3 = some o := h
    unfold pX10_goSteps_l2b at h
    refine lv_iload_n X.1 X.2.1 dX10_goSteps_2 rfl (lv_at hl 3 rfl) ?_
    refine lv_aload_n X.1 X.2.1 dX10_goSteps_3 rfl (lv_at hl 0 rfl) ?_
    refine mm_rgr X I fl_X10_22 dX10_goSteps_4 h (fun v1 h => ?_)
    refine lv_iload_n X.1 X.2.1 dX10_goSteps_7 rfl (lv_at hl 1 rfl) ?_
    refine mm_ria X I dX10_goSteps_8 h (fun v2 h => ?_)
    refine mm_kge (tgt := 164) X dX10_goSteps_9 (by decide) h (fun h => ?_) (fun h => ?_)
    · refine lv_aload_n X.1 X.2.1 dX10_goSteps_164 rfl (lv_at hl 0 rfl) ?_
      refine mm_rgr X I fl_X10_22 dX10_goSteps_165 h (fun v3 h => ?_)
      refine lv_iload_n X.1 X.2.1 dX10_goSteps_168 rfl (lv_at hl 1 rfl) ?_
      refine mm_ria X I dX10_goSteps_169 h (fun v4 h => ?_)
      exact mm_xi X I hr hlk dX10_goSteps_170 h
    · refine lv_bipush (v := 24) X.1 X.2.1 dX10_goSteps_12 (by decide) ?_
      refine lv_bipush (v := 12) X.1 X.2.1 dX10_goSteps_14 (by decide) ?_
      refine lv_iload_n X.1 X.2.1 dX10_goSteps_16 rfl (lv_at hl 1 rfl) ?_
      refine lv_imul X.1 X.2.1 dX10_goSteps_17 ?_
      refine lv_iload_n X.1 X.2.1 dX10_goSteps_18 rfl (lv_at hl 3 rfl) ?_
      refine lv_iadd X.1 X.2.1 dX10_goSteps_19 ?_
      refine lv_imul X.1 X.2.1 dX10_goSteps_20 ?_
      refine lv_istore (lv' := [(4, .int (24 * ((12 * x1) + x3))), (0, .ref a0), (1, .int x1), (2, .int x2), (3, .int x3)]) X.1 X.2.1 dX10_goSteps_21 hl (by decide) rfl (fun ls hl => ?_)
      refine lv_aload_n X.1 X.2.1 dX10_goSteps_23 rfl (lv_at hl 1 rfl) ?_
      refine mm_rgr X I fl_X10_19 dX10_goSteps_24 h (fun v5 h => ?_)
      refine lv_iload X.1 X.2.1 dX10_goSteps_27 (lv_at hl 0 rfl) ?_
      refine lv_iconst (v := 1) X.1 X.2.1 dX10_goSteps_29 (by decide) ?_
      refine lv_iadd X.1 X.2.1 dX10_goSteps_30 ?_
      refine mm_ria X I dX10_goSteps_31 h (fun v6 h => ?_)
      refine lv_istore (lv' := [(5, .int v6), (4, .int (24 * ((12 * x1) + x3))), (0, .ref a0), (1, .int x1), (2, .int x2), (3, .int x3)]) X.1 X.2.1 dX10_goSteps_32 hl (by decide) rfl (fun ls hl => ?_)
      refine lv_aload_n X.1 X.2.1 dX10_goSteps_34 rfl (lv_at hl 2 rfl) ?_
      refine mm_rgr X I fl_X10_19 dX10_goSteps_35 h (fun v7 h => ?_)
      refine lv_iload X.1 X.2.1 dX10_goSteps_38 (lv_at hl 1 rfl) ?_
      refine lv_iconst (v := 1) X.1 X.2.1 dX10_goSteps_40 (by decide) ?_
      refine lv_iadd X.1 X.2.1 dX10_goSteps_41 ?_
      refine lv_iconst (v := 1) X.1 X.2.1 dX10_goSteps_42 (by decide) ?_
      refine lv_iadd X.1 X.2.1 dX10_goSteps_43 ?_
      refine mm_ria X I dX10_goSteps_44 h (fun v8 h => ?_)
      refine lv_istore (lv' := [(6, .int v8), (5, .int v6), (4, .int (24 * ((12 * x1) + x3))), (0, .ref a0), (1, .int x1), (2, .int x2), (3, .int x3)]) X.1 X.2.1 dX10_goSteps_45 hl (by decide) rfl (fun ls hl => ?_)
      refine lv_aload_n X.1 X.2.1 dX10_goSteps_47 rfl (lv_at hl 3 rfl) ?_
      refine lv_aload_n X.1 X.2.1 dX10_goSteps_48 rfl (lv_at hl 3 rfl) ?_
      refine mm_rgr X I fl_X10_19 dX10_goSteps_49 h (fun v9 h => ?_)
      refine lv_iload X.1 X.2.1 dX10_goSteps_52 (lv_at hl 2 rfl) ?_
      refine mm_ria X I dX10_goSteps_54 h (fun v10 h => ?_)
      refine lv_iload X.1 X.2.1 dX10_goSteps_55 (lv_at hl 1 rfl) ?_
      refine lv_iload X.1 X.2.1 dX10_goSteps_57 (lv_at hl 0 rfl) ?_
      refine lv_aload_n X.1 X.2.1 dX10_goSteps_59 rfl (lv_at hl 3 rfl) ?_
      refine mm_rgr X I fl_X10_19 dX10_goSteps_60 h (fun v11 h => ?_)
      refine lv_iload X.1 X.2.1 dX10_goSteps_63 (lv_at hl 2 rfl) ?_
      refine lv_iconst (v := 4) X.1 X.2.1 dX10_goSteps_65 (by decide) ?_
      refine lv_iadd X.1 X.2.1 dX10_goSteps_66 ?_
      refine lv_aload_n X.1 X.2.1 dX10_goSteps_67 rfl (lv_at hl 3 rfl) ?_
      refine mm_rgr X I fl_X10_19 dX10_goSteps_68 h (fun v12 h => ?_)
      refine lv_iload X.1 X.2.1 dX10_goSteps_71 (lv_at hl 2 rfl) ?_
      refine lv_iconst (v := 3) X.1 X.2.1 dX10_goSteps_73 (by decide) ?_
      refine lv_iadd X.1 X.2.1 dX10_goSteps_74 ?_
      refine mm_ria X I dX10_goSteps_75 h (fun v13 h => ?_)
      refine mm_cVi X I hl (As := [.int v10, .int v6, .int v8, .ref v11, .int ((24 * ((12 * x1) + x3)) + 4), .int v13]) (ci := 10) md_X10_whyNot mv_X10_whyNot ml_X10_290 rfl (kX10_whyNot (n := n)) (by decide) ⟨Nat.le_refl 0, Nat.le_refl 0⟩ rfl rfl (Nat.le_of_ble_eq_true rfl) dX10_goSteps_76 h (fun v14 M H locs I h => ?_)
      refine lv_iconst (v := (-1)) X.1 X.2.1 dX10_goSteps_79 (by decide) ?_
      refine mm_keq (tgt := 85) X dX10_goSteps_80 (by decide) h (fun h => ?_) (fun h => ?_)
      · refine lv_iload_n X.1 X.2.1 dX10_goSteps_85 rfl (lv_at hl 5 rfl) ?_
        refine mm_jeq (tgt := 125) X dX10_goSteps_86 (by decide) h (fun h => ?_) (fun h => ?_)
        · refine lv_aload_n X.1 X.2.1 dX10_goSteps_125 rfl (lv_at hl 3 rfl) ?_
          refine lv_aload_n X.1 X.2.1 dX10_goSteps_126 rfl (lv_at hl 3 rfl) ?_
          refine mm_rgr X I fl_X10_19 dX10_goSteps_127 h (fun v15 h => ?_)
          refine lv_iload X.1 X.2.1 dX10_goSteps_130 (lv_at hl 2 rfl) ?_
          refine mm_ria X I dX10_goSteps_132 h (fun v16 h => ?_)
          refine lv_iload X.1 X.2.1 dX10_goSteps_133 (lv_at hl 1 rfl) ?_
          refine lv_iload X.1 X.2.1 dX10_goSteps_135 (lv_at hl 0 rfl) ?_
          refine lv_aload_n X.1 X.2.1 dX10_goSteps_137 rfl (lv_at hl 3 rfl) ?_
          refine mm_rgr X I fl_X10_19 dX10_goSteps_138 h (fun v17 h => ?_)
          refine lv_iload X.1 X.2.1 dX10_goSteps_141 (lv_at hl 2 rfl) ?_
          refine lv_iconst (v := 4) X.1 X.2.1 dX10_goSteps_143 (by decide) ?_
          refine lv_iadd X.1 X.2.1 dX10_goSteps_144 ?_
          refine lv_aload_n X.1 X.2.1 dX10_goSteps_145 rfl (lv_at hl 3 rfl) ?_
          refine mm_rgr X I fl_X10_19 dX10_goSteps_146 h (fun v18 h => ?_)
          refine lv_iload X.1 X.2.1 dX10_goSteps_149 (lv_at hl 2 rfl) ?_
          refine lv_iconst (v := 3) X.1 X.2.1 dX10_goSteps_151 (by decide) ?_
          refine lv_iadd X.1 X.2.1 dX10_goSteps_152 ?_
          refine mm_ria X I dX10_goSteps_153 h (fun v19 h => ?_)
          refine mm_cVi X I hl (As := [.int v16, .int v6, .int v8, .ref v17, .int ((24 * ((12 * x1) + x3)) + 4), .int v19]) (ci := 10) md_X10_doNow mv_X10_doNow ml_X10_283 rfl (kX10_doNow (n := n)) (by decide) ⟨Nat.le_refl 0, Nat.le_refl 0⟩ rfl rfl (Nat.le_of_ble_eq_true rfl) dX10_goSteps_154 h (fun v20 M H locs I h => ?_)
          refine lv_pop X.1 X.2.1 dX10_goSteps_157 rfl ?_
          refine lv_iinc (v := (x3 + 1)) (lv' := [(3, .int (x3 + 1)), (6, .int v8), (5, .int v6), (4, .int (24 * ((12 * x1) + x3))), (0, .ref a0), (1, .int x1), (2, .int x2)]) X.1 X.2.1 dX10_goSteps_158 hl (k := 6) rfl rfl (by decide) rfl (fun ls hl => ?_)
          refine lv_goto (tgt := 2) X.1 X.2.1 dX10_goSteps_161 (by decide) ?_
          exact ih M _ _ _ _ _ _ _ I (lv_sub hl [4, 5, 6, 0] rfl) h
        · refine lv_aload_n X.1 X.2.1 dX10_goSteps_89 rfl (lv_at hl 3 rfl) ?_
          refine lv_aload_n X.1 X.2.1 dX10_goSteps_90 rfl (lv_at hl 3 rfl) ?_
          refine mm_rgr X I fl_X10_19 dX10_goSteps_91 h (fun v21 h => ?_)
          refine lv_iload X.1 X.2.1 dX10_goSteps_94 (lv_at hl 2 rfl) ?_
          refine mm_ria X I dX10_goSteps_96 h (fun v22 h => ?_)
          refine lv_iload X.1 X.2.1 dX10_goSteps_97 (lv_at hl 1 rfl) ?_
          refine lv_iload X.1 X.2.1 dX10_goSteps_99 (lv_at hl 0 rfl) ?_
          refine lv_aload_n X.1 X.2.1 dX10_goSteps_101 rfl (lv_at hl 3 rfl) ?_
          refine mm_rgr X I fl_X10_19 dX10_goSteps_102 h (fun v23 h => ?_)
          refine lv_iload X.1 X.2.1 dX10_goSteps_105 (lv_at hl 2 rfl) ?_
          refine lv_iconst (v := 4) X.1 X.2.1 dX10_goSteps_107 (by decide) ?_
          refine lv_iadd X.1 X.2.1 dX10_goSteps_108 ?_
          refine lv_aload_n X.1 X.2.1 dX10_goSteps_109 rfl (lv_at hl 3 rfl) ?_
          refine mm_rgr X I fl_X10_19 dX10_goSteps_110 h (fun v24 h => ?_)
          refine lv_iload X.1 X.2.1 dX10_goSteps_113 (lv_at hl 2 rfl) ?_
          refine lv_iconst (v := 3) X.1 X.2.1 dX10_goSteps_115 (by decide) ?_
          refine lv_iadd X.1 X.2.1 dX10_goSteps_116 ?_
          refine mm_ria X I dX10_goSteps_117 h (fun v25 h => ?_)
          refine mm_cVi X I hl (As := [.int v22, .int v6, .int v8, .ref v23, .int ((24 * ((12 * x1) + x3)) + 4), .int v25]) (ci := 10) md_X10_act mv_X10_act ml_X10_293 rfl (kX10_act (n := n)) (by decide) ⟨Nat.le_refl 0, Nat.le_refl 0⟩ rfl rfl (Nat.le_of_ble_eq_true rfl) dX10_goSteps_118 h (fun v26 M H locs I h => ?_)
          refine lv_pop X.1 X.2.1 dX10_goSteps_121 rfl ?_
          refine lv_goto (tgt := 158) X.1 X.2.1 dX10_goSteps_122 (by decide) ?_
          refine lv_iinc (v := (x3 + 1)) (lv' := [(3, .int (x3 + 1)), (6, .int v8), (5, .int v6), (4, .int (24 * ((12 * x1) + x3))), (0, .ref a0), (1, .int x1), (2, .int x2)]) X.1 X.2.1 dX10_goSteps_158 hl (k := 6) rfl rfl (by decide) rfl (fun ls hl => ?_)
          refine lv_goto (tgt := 2) X.1 X.2.1 dX10_goSteps_161 (by decide) ?_
          exact ih M _ _ _ _ _ _ _ I (lv_sub hl [4, 5, 6, 0] rfl) h
      · refine lv_iload_n X.1 X.2.1 dX10_goSteps_83 rfl (lv_at hl 6 rfl) ?_
        exact mm_xi X I hr hlk dX10_goSteps_84 h
set_option maxHeartbeats 4000000 in
set_option maxRecDepth 100000 in
theorem kX10_goSteps {l : Launch} {D : va_G} {dA : Nat → ClassId} {lo : Nat} {n : Nat} {M : mm_M} {a0 : Nat} {x1 : Int32} {x2 : Int32} (o : Int32 × mm_M) (h : pX10_goSteps n M a0 x1 x2 = some o) : (∃ fs, M.2 a0 = some (mm_ob 10 fs)) ∧ mm_Met l D dA lo yX10_goSteps cX10_goSteps 7 (some .int) 11 265 0 0 [.ref a0, .int x1, .int x2] M (some (.int o.1)) o.2 := by
  unfold pX10_goSteps at h
  obtain ⟨hob, h⟩ := mm_v_some h
  refine ⟨hob, mm_enter (by decide) (Nat.le_of_ble_eq_true rfl) (fun p e s m args below meth c ls X hr hlk hnm I hl => ?_)⟩
  have X : mm_C D dA lo cX10_goSteps RX10 7 p s m args c := X
  have hl : lv_has ls 7 [(0, .ref a0), (1, .int x1), (2, .int x2)] := hl
  refine lv_iconst (v := 0) X.1 X.2.1 dX10_goSteps_0 (by decide) ?_
  refine lv_istore_n (lv' := [(3, .int 0), (0, .ref a0), (1, .int x1), (2, .int x2)]) X.1 X.2.1 dX10_goSteps_1 rfl hl (by decide) rfl (fun ls hl => ?_)
  exact wpX10_goSteps_l2 X hr hlk n  n M _ _ _ _ _ _ _ I (lv_sub hl [1, 2, 3, 0] rfl) h
set_option maxHeartbeats 4000000 in
set_option maxRecDepth 100000 in
theorem kX10_run {l : Launch} {D : va_G} {dA : Nat → ClassId} {lo : Nat} {n : Nat} {M : mm_M} {a0 : Nat} {x1 : Int32} {x2 : Int32} (o : Int32 × mm_M) (h : pX10_run n M a0 x1 x2 = some o) : (∃ fs, M.2 a0 = some (mm_ob 10 fs)) ∧ mm_Met l D dA lo yX10_run cX10_run 5 (some .int) 12 291 0 0 [.ref a0, .int x1, .int x2] M (some (.int o.1)) o.2 := by
  unfold pX10_run at h
  obtain ⟨hob, h⟩ := mm_v_some h
  refine ⟨hob, mm_enter (by decide) (Nat.le_of_ble_eq_true rfl) (fun p e s m args below meth c ls X hr hlk hnm I hl => ?_)⟩
  have X : mm_C D dA lo cX10_run RX10 5 p s m args c := X
  have hl : lv_has ls 5 [(0, .ref a0), (1, .int x1), (2, .int x2)] := hl
  refine lv_aload_n X.1 X.2.1 dX10_run_0 rfl (lv_at hl 0 rfl) ?_
  refine lv_iload_n X.1 X.2.1 dX10_run_1 rfl (lv_at hl 1 rfl) ?_
  refine mm_cVi X I hl (As := [.int x1]) (ci := 10) md_X10_isScript mv_X10_isScript ml_X10_376 rfl (kX10_isScript (n := n)) (by decide) ⟨Nat.le_refl 0, Nat.le_refl 0⟩ rfl rfl (Nat.le_of_ble_eq_true rfl) dX10_run_2 h (fun v1 M H locs I h => ?_)
  refine mm_jeq (tgt := 24) X dX10_run_5 (by decide) h (fun h => ?_) (fun h => ?_)
  · refine lv_ldc (v := (-1000000)) X.1 X.2.1 X.2.2.2.1 (X.2.2.2.2.1 _ cn_X10_109) dX10_run_24 ?_
    exact mm_xi X I hr hlk dX10_run_26 h
  · refine lv_aload_n X.1 X.2.1 dX10_run_8 rfl (lv_at hl 0 rfl) ?_
    refine mm_cVi X I hl (As := []) (ci := 10) md_X10_isStore mv_X10_isStore ml_X10_139 rfl (kX10_isStore (n := n)) (by decide) ⟨Nat.le_refl 0, Nat.le_refl 0⟩ rfl rfl (Nat.le_of_ble_eq_true rfl) dX10_run_9 h (fun v2 M H locs I h => ?_)
    refine mm_jeq (tgt := 24) X dX10_run_12 (by decide) h (fun h => ?_) (fun h => ?_)
    · refine lv_ldc (v := (-1000000)) X.1 X.2.1 X.2.2.2.1 (X.2.2.2.2.1 _ cn_X10_109) dX10_run_24 ?_
      exact mm_xi X I hr hlk dX10_run_26 h
    · refine lv_iload_n X.1 X.2.1 dX10_run_15 rfl (lv_at hl 2 rfl) ?_
      refine lv_iconst (v := 0) X.1 X.2.1 dX10_run_16 (by decide) ?_
      refine lv_iconst (v := 1) X.1 X.2.1 dX10_run_17 (by decide) ?_
      refine mm_cSi X I hl (As := [.int x2, .int 0, .int 1]) md_X10_in mv_X10_in ml_X10_69 (kX10_in (n := n)) (by decide) ⟨Nat.le_refl 0, Nat.le_refl 0⟩ rfl rfl (Nat.le_of_ble_eq_true rfl) dX10_run_18 h (fun v3 M H locs I h => ?_)
      refine mm_jne (tgt := 27) X dX10_run_21 (by decide) h (fun h => ?_) (fun h => ?_)
      · refine lv_aload_n X.1 X.2.1 dX10_run_27 rfl (lv_at hl 0 rfl) ?_
        refine mm_cVv X I hl (As := []) (ci := 10) md_X10_putAside mv_X10_putAside ml_X10_370 rfl (kX10_putAside (n := n)) (by decide) ⟨Nat.le_refl 0, Nat.le_refl 0⟩ rfl rfl (Nat.le_of_ble_eq_true rfl) dX10_run_28 h (fun M H locs I h => ?_)
        refine lv_aload_n X.1 X.2.1 dX10_run_31 rfl (lv_at hl 0 rfl) ?_
        refine lv_iload_n X.1 X.2.1 dX10_run_32 rfl (lv_at hl 1 rfl) ?_
        refine lv_iconst (v := 0) X.1 X.2.1 dX10_run_33 (by decide) ?_
        refine mm_cVi X I hl (As := [.int x1, .int 0]) (ci := 10) md_X10_goSteps mv_X10_goSteps ml_X10_379 rfl (kX10_goSteps (n := n)) (by decide) ⟨Nat.le_refl 0, Nat.le_refl 0⟩ rfl rfl (Nat.le_of_ble_eq_true rfl) dX10_run_34 h (fun v5 M H locs I h => ?_)
        refine lv_istore_n (lv' := [(3, .int v5), (0, .ref a0), (1, .int x1), (2, .int x2)]) X.1 X.2.1 dX10_run_37 rfl hl (by decide) rfl (fun ls hl => ?_)
        refine lv_aload_n X.1 X.2.1 dX10_run_38 rfl (lv_at hl 1 rfl) ?_
        refine mm_cVi X I hl (As := []) (ci := 10) md_X10_allSigns mv_X10_allSigns ml_X10_277 rfl (kX10_allSigns (n := n)) (by decide) ⟨Nat.le_refl 0, Nat.le_refl 0⟩ rfl rfl (Nat.le_of_ble_eq_true rfl) dX10_run_39 h (fun v6 M H locs I h => ?_)
        refine lv_istore (lv' := [(4, .int v6), (3, .int v5), (0, .ref a0), (1, .int x1), (2, .int x2)]) X.1 X.2.1 dX10_run_42 hl (by decide) rfl (fun ls hl => ?_)
        refine lv_aload_n X.1 X.2.1 dX10_run_44 rfl (lv_at hl 2 rfl) ?_
        refine mm_cVv X I hl (As := []) (ci := 10) md_X10_bringBack mv_X10_bringBack ml_X10_373 rfl (kX10_bringBack (n := n)) (by decide) ⟨Nat.le_refl 0, Nat.le_refl 0⟩ rfl rfl (Nat.le_of_ble_eq_true rfl) dX10_run_45 h (fun M H locs I h => ?_)
        refine lv_iload_n X.1 X.2.1 dX10_run_48 rfl (lv_at hl 4 rfl) ?_
        refine lv_iconst (v := 1) X.1 X.2.1 dX10_run_49 (by decide) ?_
        refine mm_kne (tgt := 58) X dX10_run_50 (by decide) h (fun h => ?_) (fun h => ?_)
        · refine lv_iload_n X.1 X.2.1 dX10_run_58 rfl (lv_at hl 1 rfl) ?_
          refine lv_aload_n X.1 X.2.1 dX10_run_59 rfl (lv_at hl 2 rfl) ?_
          refine mm_rgr X I fl_X10_22 dX10_run_60 h (fun v8 h => ?_)
          refine lv_iload_n X.1 X.2.1 dX10_run_63 rfl (lv_at hl 3 rfl) ?_
          refine mm_ria X I dX10_run_64 h (fun v9 h => ?_)
          refine mm_kne (tgt := 72) X dX10_run_65 (by decide) h (fun h => ?_) (fun h => ?_)
          · refine lv_iload_n X.1 X.2.1 dX10_run_72 rfl (lv_at hl 1 rfl) ?_
            exact mm_xi X I hr hlk dX10_run_73 h
          · refine lv_iconst (v := (-1)) X.1 X.2.1 dX10_run_68 (by decide) ?_
            refine lv_goto (tgt := 73) X.1 X.2.1 dX10_run_69 (by decide) ?_
            exact mm_xi X I hr hlk dX10_run_73 h
        · refine lv_iload X.1 X.2.1 dX10_run_53 (lv_at hl 0 rfl) ?_
          refine lv_goto (tgt := 73) X.1 X.2.1 dX10_run_55 (by decide) ?_
          exact mm_xi X I hr hlk dX10_run_73 h
      · refine lv_ldc (v := (-1000000)) X.1 X.2.1 X.2.2.2.1 (X.2.2.2.2.1 _ cn_X10_109) dX10_run_24 ?_
        exact mm_xi X I hr hlk dX10_run_26 h
set_option maxHeartbeats 4000000 in
set_option maxRecDepth 100000 in
theorem kX10_perform {l : Launch} {D : va_G} {dA : Nat → ClassId} {lo : Nat} {n : Nat} {M : mm_M} {a0 : Nat} {x1 : Int32} (o : Int32 × mm_M) (h : pX10_perform n M a0 x1 = some o) : (∃ fs, M.2 a0 = some (mm_ob 10 fs)) ∧ mm_Met l D dA lo yX10_perform cX10_perform 2 (some .int) 12 291 0 0 [.ref a0, .int x1] M (some (.int o.1)) o.2 := by
  unfold pX10_perform at h
  obtain ⟨hob, h⟩ := mm_v_some h
  refine ⟨hob, mm_enter (by decide) (Nat.le_of_ble_eq_true rfl) (fun p e s m args below meth c ls X hr hlk hnm I hl => ?_)⟩
  have X : mm_C D dA lo cX10_perform RX10 2 p s m args c := X
  have hl : lv_has ls 2 [(0, .ref a0), (1, .int x1)] := hl
  refine lv_aload_n X.1 X.2.1 dX10_perform_0 rfl (lv_at hl 0 rfl) ?_
  refine lv_iload_n X.1 X.2.1 dX10_perform_1 rfl (lv_at hl 1 rfl) ?_
  refine mm_cVi X I hl (As := [.int x1]) (ci := 10) md_X10_isScript mv_X10_isScript ml_X10_376 rfl (kX10_isScript (n := n)) (by decide) ⟨Nat.le_refl 0, Nat.le_refl 0⟩ rfl rfl (Nat.le_of_ble_eq_true rfl) dX10_perform_2 h (fun v1 M H locs I h => ?_)
  refine mm_jeq (tgt := 24) X dX10_perform_5 (by decide) h (fun h => ?_) (fun h => ?_)
  · refine lv_iconst (v := (-1)) X.1 X.2.1 dX10_perform_24 (by decide) ?_
    exact mm_xi X I hr hlk dX10_perform_25 h
  · refine lv_aload_n X.1 X.2.1 dX10_perform_8 rfl (lv_at hl 0 rfl) ?_
    refine mm_cVi X I hl (As := []) (ci := 10) md_X10_isStore mv_X10_isStore ml_X10_139 rfl (kX10_isStore (n := n)) (by decide) ⟨Nat.le_refl 0, Nat.le_refl 0⟩ rfl rfl (Nat.le_of_ble_eq_true rfl) dX10_perform_9 h (fun v2 M H locs I h => ?_)
    refine mm_jeq (tgt := 24) X dX10_perform_12 (by decide) h (fun h => ?_) (fun h => ?_)
    · refine lv_iconst (v := (-1)) X.1 X.2.1 dX10_perform_24 (by decide) ?_
      exact mm_xi X I hr hlk dX10_perform_25 h
    · refine lv_aload_n X.1 X.2.1 dX10_perform_15 rfl (lv_at hl 0 rfl) ?_
      refine lv_iload_n X.1 X.2.1 dX10_perform_16 rfl (lv_at hl 1 rfl) ?_
      refine lv_iconst (v := 1) X.1 X.2.1 dX10_perform_17 (by decide) ?_
      refine mm_cVi X I hl (As := [.int x1, .int 1]) (ci := 10) md_X10_goSteps mv_X10_goSteps ml_X10_379 rfl (kX10_goSteps (n := n)) (by decide) ⟨Nat.le_refl 0, Nat.le_refl 0⟩ rfl rfl (Nat.le_of_ble_eq_true rfl) dX10_perform_18 h (fun v3 M H locs I h => ?_)
      refine lv_goto (tgt := 25) X.1 X.2.1 dX10_perform_21 (by decide) ?_
      exact mm_xi X I hr hlk dX10_perform_25 h
set_option maxHeartbeats 4000000 in
set_option maxRecDepth 100000 in
theorem wpX10_farthest_l4 {p : Program} {l : Launch} {e : Env} {s : State} {m : MethodId} {args : Array Value} {below : List Frame} {meth : Method} {c : Code} {D : va_G} {dA : Nat → ClassId} {lo : Nat} (X : mm_C D dA lo cX10_farthest RX10 4 p s m args c) (hr : meth.sig.returnType = (some .int)) (hlk : meth.locks = false) (n : Nat) {o : Int32 × mm_M} (k : Nat) : ∀ (M : mm_M) (a0 : Nat) (x1 : Int32) (x2 : Int32) (x3 : Int32) (H : Heap) (locs : List Loc) (ls : Array Slot), mm_I D dA lo s M H locs → lv_has ls 4 [(0, .ref a0), (1, .int x1), (2, .int x2), (3, .int x3)] → pX10_farthest_l4 n k M a0 x1 x2 x3 = some o → W p l e (mm_rm 2 41 0 0) s m args below meth c H locs 0 0 (MQ below (mm_Q D dA lo (some (.int o.1)) o.2) args s 0 0 (mm_fr lo)) (F0 m 4 ls []) := by
  induction k with
  | zero =>
    intro M a0 x1 x2 x3 H locs ls I hl h
    have h : (none : Option (Int32 × mm_M)) = some o := h
    cases h
  | succ k ih =>
    intro M a0 x1 x2 x3 H locs ls I hl h
    have h : pX10_farthest_l4b n (pX10_farthest_l4 n k) M a0 x1 x2 x3 = some o := h
    unfold pX10_farthest_l4b at h
    refine lv_iload_n X.1 X.2.1 dX10_farthest_4 rfl (lv_at hl 3 rfl) ?_
    refine lv_aload_n X.1 X.2.1 dX10_farthest_5 rfl (lv_at hl 0 rfl) ?_
    refine mm_rgr X I fl_X10_28 dX10_farthest_6 h (fun v1 h => ?_)
    refine lv_iconst (v := 0) X.1 X.2.1 dX10_farthest_9 (by decide) ?_
    refine mm_ria X I dX10_farthest_10 h (fun v2 h => ?_)
    refine mm_kge (tgt := 43) X dX10_farthest_11 (by decide) h (fun h => ?_) (fun h => ?_)
    · refine lv_iload_n X.1 X.2.1 dX10_farthest_43 rfl (lv_at hl 2 rfl) ?_
      exact mm_xi X I hr hlk dX10_farthest_44 h
    · refine lv_iload_n X.1 X.2.1 dX10_farthest_14 rfl (lv_at hl 1 rfl) ?_
      refine lv_aload_n X.1 X.2.1 dX10_farthest_15 rfl (lv_at hl 0 rfl) ?_
      refine lv_iload_n X.1 X.2.1 dX10_farthest_16 rfl (lv_at hl 3 rfl) ?_
      refine mm_cVi X I hl (As := [.int x3]) (ci := 10) md_X10_longOf mv_X10_longOf ml_X10_136 rfl (kX10_longOf (n := n)) (by decide) ⟨Nat.le_refl 0, Nat.le_refl 0⟩ rfl rfl (Nat.le_of_ble_eq_true rfl) dX10_farthest_17 h (fun v3 M H locs I h => ?_)
      refine lv_imul X.1 X.2.1 dX10_farthest_20 ?_
      refine lv_iload_n X.1 X.2.1 dX10_farthest_21 rfl (lv_at hl 1 rfl) ?_
      refine lv_aload_n X.1 X.2.1 dX10_farthest_22 rfl (lv_at hl 0 rfl) ?_
      refine lv_iload_n X.1 X.2.1 dX10_farthest_23 rfl (lv_at hl 2 rfl) ?_
      refine mm_cVi X I hl (As := [.int x2]) (ci := 10) md_X10_longOf mv_X10_longOf ml_X10_136 rfl (kX10_longOf (n := n)) (by decide) ⟨Nat.le_refl 0, Nat.le_refl 0⟩ rfl rfl (Nat.le_of_ble_eq_true rfl) dX10_farthest_24 h (fun v4 M H locs I h => ?_)
      refine lv_imul X.1 X.2.1 dX10_farthest_27 ?_
      refine mm_kle (tgt := 35) X dX10_farthest_28 (by decide) h (fun h => ?_) (fun h => ?_)
      · refine lv_iload_n X.1 X.2.1 dX10_farthest_35 rfl (lv_at hl 2 rfl) ?_
        refine lv_istore_n (lv' := [(2, .int x2), (0, .ref a0), (1, .int x1), (3, .int x3)]) X.1 X.2.1 dX10_farthest_36 rfl hl (by decide) rfl (fun ls hl => ?_)
        refine lv_iinc (v := (x3 + 1)) (lv' := [(3, .int (x3 + 1)), (2, .int x2), (0, .ref a0), (1, .int x1)]) X.1 X.2.1 dX10_farthest_37 hl (k := 3) rfl rfl (by decide) rfl (fun ls hl => ?_)
        refine lv_goto (tgt := 4) X.1 X.2.1 dX10_farthest_40 (by decide) ?_
        exact ih M _ _ _ _ _ _ _ I (lv_sub hl [2, 3, 1, 0] rfl) h
      · refine lv_iload_n X.1 X.2.1 dX10_farthest_31 rfl (lv_at hl 3 rfl) ?_
        refine lv_goto (tgt := 36) X.1 X.2.1 dX10_farthest_32 (by decide) ?_
        refine lv_istore_n (lv' := [(2, .int x3), (0, .ref a0), (1, .int x1), (3, .int x3)]) X.1 X.2.1 dX10_farthest_36 rfl hl (by decide) rfl (fun ls hl => ?_)
        refine lv_iinc (v := (x3 + 1)) (lv' := [(3, .int (x3 + 1)), (2, .int x3), (0, .ref a0), (1, .int x1)]) X.1 X.2.1 dX10_farthest_37 hl (k := 3) rfl rfl (by decide) rfl (fun ls hl => ?_)
        refine lv_goto (tgt := 4) X.1 X.2.1 dX10_farthest_40 (by decide) ?_
        exact ih M _ _ _ _ _ _ _ I (lv_sub hl [2, 3, 1, 0] rfl) h
set_option maxHeartbeats 4000000 in
set_option maxRecDepth 100000 in
theorem kX10_farthest {l : Launch} {D : va_G} {dA : Nat → ClassId} {lo : Nat} {n : Nat} {M : mm_M} {a0 : Nat} {x1 : Int32} (o : Int32 × mm_M) (h : pX10_farthest n M a0 x1 = some o) : (∃ fs, M.2 a0 = some (mm_ob 10 fs)) ∧ mm_Met l D dA lo yX10_farthest cX10_farthest 4 (some .int) 2 41 0 0 [.ref a0, .int x1] M (some (.int o.1)) o.2 := by
  unfold pX10_farthest at h
  obtain ⟨hob, h⟩ := mm_v_some h
  refine ⟨hob, mm_enter (by decide) (Nat.le_of_ble_eq_true rfl) (fun p e s m args below meth c ls X hr hlk hnm I hl => ?_)⟩
  have X : mm_C D dA lo cX10_farthest RX10 4 p s m args c := X
  have hl : lv_has ls 4 [(0, .ref a0), (1, .int x1)] := hl
  refine lv_iconst (v := 0) X.1 X.2.1 dX10_farthest_0 (by decide) ?_
  refine lv_istore_n (lv' := [(2, .int 0), (0, .ref a0), (1, .int x1)]) X.1 X.2.1 dX10_farthest_1 rfl hl (by decide) rfl (fun ls hl => ?_)
  refine lv_iconst (v := 1) X.1 X.2.1 dX10_farthest_2 (by decide) ?_
  refine lv_istore_n (lv' := [(3, .int 1), (2, .int 0), (0, .ref a0), (1, .int x1)]) X.1 X.2.1 dX10_farthest_3 rfl hl (by decide) rfl (fun ls hl => ?_)
  exact wpX10_farthest_l4 X hr hlk n  n M _ _ _ _ _ _ _ I (lv_sub hl [2, 3, 1, 0] rfl) h
set_option maxHeartbeats 4000000 in
set_option maxRecDepth 100000 in
theorem wpX10_unlikeSigns_l16 {p : Program} {l : Launch} {e : Env} {s : State} {m : MethodId} {args : Array Value} {below : List Frame} {meth : Method} {c : Code} {D : va_G} {dA : Nat → ClassId} {lo : Nat} (X : mm_C D dA lo cX10_unlikeSigns RX10 4 p s m args c) (hr : meth.sig.returnType = (some .int)) (hlk : meth.locks = false) (n : Nat) {o : Int32 × mm_M} {K4 : mm_M → Nat → Int32 → Int32 → Option (Int32 × mm_M)} (k4 : ∀ (M : mm_M) (a0 : Nat) (x1 : Int32) (x2 : Int32) (H : Heap) (locs : List Loc) (ls : Array Slot), mm_I D dA lo s M H locs → lv_has ls 4 [(0, .ref a0), (1, .int x1), (2, .int x2)] → K4 M a0 x1 x2 = some o → W p l e (mm_rm 2 42 0 0) s m args below meth c H locs 0 0 (MQ below (mm_Q D dA lo (some (.int o.1)) o.2) args s 0 0 (mm_fr lo)) (F0 m 4 ls [])) (k : Nat) : ∀ (M : mm_M) (a0 : Nat) (x1 : Int32) (x2 : Int32) (x3 : Int32) (H : Heap) (locs : List Loc) (ls : Array Slot), mm_I D dA lo s M H locs → lv_has ls 4 [(0, .ref a0), (1, .int x1), (2, .int x2), (3, .int x3)] → pX10_unlikeSigns_l16 n K4 k M a0 x1 x2 x3 = some o → W p l e (mm_rm 2 42 0 0) s m args below meth c H locs 0 0 (MQ below (mm_Q D dA lo (some (.int o.1)) o.2) args s 0 0 (mm_fr lo)) (F0 m 16 ls []) := by
  induction k with
  | zero =>
    intro M a0 x1 x2 x3 H locs ls I hl h
    have h : (none : Option (Int32 × mm_M)) = some o := h
    cases h
  | succ k ih =>
    intro M a0 x1 x2 x3 H locs ls I hl h
    have h : pX10_unlikeSigns_l16b n K4 (pX10_unlikeSigns_l16 n K4 k) M a0 x1 x2 x3 = some o := h
    unfold pX10_unlikeSigns_l16b at h
    refine lv_iload_n X.1 X.2.1 dX10_unlikeSigns_16 rfl (lv_at hl 3 rfl) ?_
    refine lv_aload_n X.1 X.2.1 dX10_unlikeSigns_17 rfl (lv_at hl 0 rfl) ?_
    refine lv_iload_n X.1 X.2.1 dX10_unlikeSigns_18 rfl (lv_at hl 2 rfl) ?_
    refine mm_cVi X I hl (As := [.int x2]) (ci := 10) md_X10_longOf mv_X10_longOf ml_X10_136 rfl (kX10_longOf (n := n)) (by decide) ⟨Nat.le_refl 0, Nat.le_refl 0⟩ rfl rfl (Nat.le_of_ble_eq_true rfl) dX10_unlikeSigns_19 h (fun v1 M H locs I h => ?_)
    refine mm_kge (tgt := 42) X dX10_unlikeSigns_22 (by decide) h (fun h => ?_) (fun h => ?_)
    · refine lv_iinc (v := (x2 + 1)) (lv' := [(2, .int (x2 + 1)), (0, .ref a0), (1, .int x1), (3, .int x3)]) X.1 X.2.1 dX10_unlikeSigns_42 hl (k := 2) rfl rfl (by decide) rfl (fun ls hl => ?_)
      refine lv_goto (tgt := 4) X.1 X.2.1 dX10_unlikeSigns_45 (by decide) ?_
      exact k4 M _ _ _ _ _ _ I (lv_sub hl [1, 2, 0] rfl) h
    · refine lv_iload_n X.1 X.2.1 dX10_unlikeSigns_25 rfl (lv_at hl 1 rfl) ?_
      refine lv_iconst (v := 1) X.1 X.2.1 dX10_unlikeSigns_26 (by decide) ?_
      refine lv_aload_n X.1 X.2.1 dX10_unlikeSigns_27 rfl (lv_at hl 0 rfl) ?_
      refine lv_iload_n X.1 X.2.1 dX10_unlikeSigns_28 rfl (lv_at hl 2 rfl) ?_
      refine lv_iload_n X.1 X.2.1 dX10_unlikeSigns_29 rfl (lv_at hl 3 rfl) ?_
      refine mm_cVi X I hl (As := [.int x2, .int x3]) (ci := 10) md_X10_signAt mv_X10_signAt ml_X10_176 rfl (kX10_signAt (n := n)) (by decide) ⟨Nat.le_refl 0, Nat.le_refl 0⟩ rfl rfl (Nat.le_of_ble_eq_true rfl) dX10_unlikeSigns_30 h (fun v2 M H locs I h => ?_)
      refine lv_ishl X.1 X.2.1 dX10_unlikeSigns_33 ?_
      refine lv_ior X.1 X.2.1 dX10_unlikeSigns_34 ?_
      refine lv_istore_n (lv' := [(1, .int (x1 ||| (1 <<< (v2 &&& 31)))), (0, .ref a0), (2, .int x2), (3, .int x3)]) X.1 X.2.1 dX10_unlikeSigns_35 rfl hl (by decide) rfl (fun ls hl => ?_)
      refine lv_iinc (v := (x3 + 1)) (lv' := [(3, .int (x3 + 1)), (1, .int (x1 ||| (1 <<< (v2 &&& 31)))), (0, .ref a0), (2, .int x2)]) X.1 X.2.1 dX10_unlikeSigns_36 hl (k := 3) rfl rfl (by decide) rfl (fun ls hl => ?_)
      refine lv_goto (tgt := 16) X.1 X.2.1 dX10_unlikeSigns_39 (by decide) ?_
      exact ih M _ _ _ _ _ _ _ I (lv_sub hl [2, 1, 3, 0] rfl) h
set_option maxHeartbeats 4000000 in
set_option maxRecDepth 100000 in
theorem wpX10_unlikeSigns_l52 {p : Program} {l : Launch} {e : Env} {s : State} {m : MethodId} {args : Array Value} {below : List Frame} {meth : Method} {c : Code} {D : va_G} {dA : Nat → ClassId} {lo : Nat} (X : mm_C D dA lo cX10_unlikeSigns RX10 4 p s m args c) (hr : meth.sig.returnType = (some .int)) (hlk : meth.locks = false) (n : Nat) {o : Int32 × mm_M} (k : Nat) : ∀ (M : mm_M) (x1 : Int32) (x2 : Int32) (x3 : Int32) (H : Heap) (locs : List Loc) (ls : Array Slot), mm_I D dA lo s M H locs → lv_has ls 4 [(1, .int x1), (2, .int x2), (3, .int x3)] → pX10_unlikeSigns_l52 n k M x1 x2 x3 = some o → W p l e (mm_rm 2 42 0 0) s m args below meth c H locs 0 0 (MQ below (mm_Q D dA lo (some (.int o.1)) o.2) args s 0 0 (mm_fr lo)) (F0 m 52 ls []) := by
  induction k with
  | zero =>
    intro M x1 x2 x3 H locs ls I hl h
    have h : (none : Option (Int32 × mm_M)) = some o := h
    cases h
  | succ k ih =>
    intro M x1 x2 x3 H locs ls I hl h
    have h : pX10_unlikeSigns_l52b n (pX10_unlikeSigns_l52 n k) M x1 x2 x3 = some o := h
    unfold pX10_unlikeSigns_l52b at h
    refine lv_iload_n X.1 X.2.1 dX10_unlikeSigns_52 rfl (lv_at hl 2 rfl) ?_
    refine lv_bipush (v := 27) X.1 X.2.1 dX10_unlikeSigns_53 (by decide) ?_
    refine mm_kge (tgt := 72) X dX10_unlikeSigns_55 (by decide) h (fun h => ?_) (fun h => ?_)
    · refine lv_iload_n X.1 X.2.1 dX10_unlikeSigns_72 rfl (lv_at hl 1 rfl) ?_
      exact mm_xi X I hr hlk dX10_unlikeSigns_73 h
    · refine lv_iload_n X.1 X.2.1 dX10_unlikeSigns_58 rfl (lv_at hl 1 rfl) ?_
      refine lv_iload_n X.1 X.2.1 dX10_unlikeSigns_59 rfl (lv_at hl 0 rfl) ?_
      refine lv_iload_n X.1 X.2.1 dX10_unlikeSigns_60 rfl (lv_at hl 2 rfl) ?_
      refine lv_ishr X.1 X.2.1 dX10_unlikeSigns_61 ?_
      refine lv_iconst (v := 1) X.1 X.2.1 dX10_unlikeSigns_62 (by decide) ?_
      refine lv_iand X.1 X.2.1 dX10_unlikeSigns_63 ?_
      refine lv_iadd X.1 X.2.1 dX10_unlikeSigns_64 ?_
      refine lv_istore_n (lv' := [(2, .int (x2 + ((x1 >>> (x3 &&& 31)) &&& 1))), (1, .int x1), (3, .int x3)]) X.1 X.2.1 dX10_unlikeSigns_65 rfl hl (by decide) rfl (fun ls hl => ?_)
      refine lv_iinc (v := (x3 + 1)) (lv' := [(3, .int (x3 + 1)), (2, .int (x2 + ((x1 >>> (x3 &&& 31)) &&& 1))), (1, .int x1)]) X.1 X.2.1 dX10_unlikeSigns_66 hl (k := 2) rfl rfl (by decide) rfl (fun ls hl => ?_)
      refine lv_goto (tgt := 52) X.1 X.2.1 dX10_unlikeSigns_69 (by decide) ?_
      exact ih M _ _ _ _ _ _ I (lv_sub hl [2, 1, 0] rfl) h
set_option maxHeartbeats 4000000 in
set_option maxRecDepth 100000 in
theorem wpX10_unlikeSigns_l4 {p : Program} {l : Launch} {e : Env} {s : State} {m : MethodId} {args : Array Value} {below : List Frame} {meth : Method} {c : Code} {D : va_G} {dA : Nat → ClassId} {lo : Nat} (X : mm_C D dA lo cX10_unlikeSigns RX10 4 p s m args c) (hr : meth.sig.returnType = (some .int)) (hlk : meth.locks = false) (n : Nat) {o : Int32 × mm_M} (k : Nat) : ∀ (M : mm_M) (a0 : Nat) (x1 : Int32) (x2 : Int32) (H : Heap) (locs : List Loc) (ls : Array Slot), mm_I D dA lo s M H locs → lv_has ls 4 [(0, .ref a0), (1, .int x1), (2, .int x2)] → pX10_unlikeSigns_l4 n k M a0 x1 x2 = some o → W p l e (mm_rm 2 42 0 0) s m args below meth c H locs 0 0 (MQ below (mm_Q D dA lo (some (.int o.1)) o.2) args s 0 0 (mm_fr lo)) (F0 m 4 ls []) := by
  induction k with
  | zero =>
    intro M a0 x1 x2 H locs ls I hl h
    have h : (none : Option (Int32 × mm_M)) = some o := h
    cases h
  | succ k ih =>
    intro M a0 x1 x2 H locs ls I hl h
    have h : pX10_unlikeSigns_l4b n (pX10_unlikeSigns_l4 n k) M a0 x1 x2 = some o := h
    unfold pX10_unlikeSigns_l4b at h
    refine lv_iload_n X.1 X.2.1 dX10_unlikeSigns_4 rfl (lv_at hl 2 rfl) ?_
    refine lv_aload_n X.1 X.2.1 dX10_unlikeSigns_5 rfl (lv_at hl 0 rfl) ?_
    refine mm_rgr X I fl_X10_28 dX10_unlikeSigns_6 h (fun v1 h => ?_)
    refine lv_iconst (v := 0) X.1 X.2.1 dX10_unlikeSigns_9 (by decide) ?_
    refine mm_ria X I dX10_unlikeSigns_10 h (fun v2 h => ?_)
    refine mm_kge (tgt := 48) X dX10_unlikeSigns_11 (by decide) h (fun h => ?_) (fun h => ?_)
    · refine lv_iconst (v := 0) X.1 X.2.1 dX10_unlikeSigns_48 (by decide) ?_
      refine lv_istore_n (lv' := [(2, .int 0), (0, .ref a0), (1, .int x1)]) X.1 X.2.1 dX10_unlikeSigns_49 rfl hl (by decide) rfl (fun ls hl => ?_)
      refine lv_iconst (v := 0) X.1 X.2.1 dX10_unlikeSigns_50 (by decide) ?_
      refine lv_istore_n (lv' := [(3, .int 0), (2, .int 0), (0, .ref a0), (1, .int x1)]) X.1 X.2.1 dX10_unlikeSigns_51 rfl hl (by decide) rfl (fun ls hl => ?_)
      exact wpX10_unlikeSigns_l52 X hr hlk n  n M _ _ _ _ _ _ I (lv_sub hl [3, 1, 0] rfl) h
    · refine lv_iconst (v := 0) X.1 X.2.1 dX10_unlikeSigns_14 (by decide) ?_
      refine lv_istore_n (lv' := [(3, .int 0), (0, .ref a0), (1, .int x1), (2, .int x2)]) X.1 X.2.1 dX10_unlikeSigns_15 rfl hl (by decide) rfl (fun ls hl => ?_)
      exact wpX10_unlikeSigns_l16 X hr hlk n ih n M _ _ _ _ _ _ _ I (lv_sub hl [1, 2, 3, 0] rfl) h
set_option maxHeartbeats 4000000 in
set_option maxRecDepth 100000 in
theorem kX10_unlikeSigns {l : Launch} {D : va_G} {dA : Nat → ClassId} {lo : Nat} {n : Nat} {M : mm_M} {a0 : Nat} (o : Int32 × mm_M) (h : pX10_unlikeSigns n M a0 = some o) : (∃ fs, M.2 a0 = some (mm_ob 10 fs)) ∧ mm_Met l D dA lo yX10_unlikeSigns cX10_unlikeSigns 4 (some .int) 2 42 0 0 [.ref a0] M (some (.int o.1)) o.2 := by
  unfold pX10_unlikeSigns at h
  obtain ⟨hob, h⟩ := mm_v_some h
  refine ⟨hob, mm_enter (by decide) (Nat.le_of_ble_eq_true rfl) (fun p e s m args below meth c ls X hr hlk hnm I hl => ?_)⟩
  have X : mm_C D dA lo cX10_unlikeSigns RX10 4 p s m args c := X
  have hl : lv_has ls 4 [(0, .ref a0)] := hl
  refine lv_iconst (v := 0) X.1 X.2.1 dX10_unlikeSigns_0 (by decide) ?_
  refine lv_istore_n (lv' := [(1, .int 0), (0, .ref a0)]) X.1 X.2.1 dX10_unlikeSigns_1 rfl hl (by decide) rfl (fun ls hl => ?_)
  refine lv_iconst (v := 0) X.1 X.2.1 dX10_unlikeSigns_2 (by decide) ?_
  refine lv_istore_n (lv' := [(2, .int 0), (1, .int 0), (0, .ref a0)]) X.1 X.2.1 dX10_unlikeSigns_3 rfl hl (by decide) rfl (fun ls hl => ?_)
  exact wpX10_unlikeSigns_l4 X hr hlk n  n M _ _ _ _ _ _ I (lv_sub hl [2, 1, 0] rfl) h
set_option maxHeartbeats 4000000 in
set_option maxRecDepth 100000 in
theorem wpX10_rising_l2 {p : Program} {l : Launch} {e : Env} {s : State} {m : MethodId} {args : Array Value} {below : List Frame} {meth : Method} {c : Code} {D : va_G} {dA : Nat → ClassId} {lo : Nat} (X : mm_C D dA lo cX10_rising RX10 2 p s m args c) (hr : meth.sig.returnType = (some .int)) (hlk : meth.locks = false) (n : Nat) {o : Int32 × mm_M} (k : Nat) : ∀ (M : mm_M) (a0 : Nat) (x1 : Int32) (H : Heap) (locs : List Loc) (ls : Array Slot), mm_I D dA lo s M H locs → lv_has ls 2 [(0, .ref a0), (1, .int x1)] → pX10_rising_l2 n k M a0 x1 = some o → W p l e (mm_rm 2 41 0 0) s m args below meth c H locs 0 0 (MQ below (mm_Q D dA lo (some (.int o.1)) o.2) args s 0 0 (mm_fr lo)) (F0 m 2 ls []) := by
  induction k with
  | zero =>
    intro M a0 x1 H locs ls I hl h
    have h : (none : Option (Int32 × mm_M)) = some o := h
    cases h
  | succ k ih =>
    intro M a0 x1 H locs ls I hl h
    have h : pX10_rising_l2b n (pX10_rising_l2 n k) M a0 x1 = some o := h
    unfold pX10_rising_l2b at h
    refine lv_iload_n X.1 X.2.1 dX10_rising_2 rfl (lv_at hl 1 rfl) ?_
    refine lv_aload_n X.1 X.2.1 dX10_rising_3 rfl (lv_at hl 0 rfl) ?_
    refine mm_rgr X I fl_X10_28 dX10_rising_4 h (fun v1 h => ?_)
    refine lv_iconst (v := 0) X.1 X.2.1 dX10_rising_7 (by decide) ?_
    refine mm_ria X I dX10_rising_8 h (fun v2 h => ?_)
    refine mm_kge (tgt := 33) X dX10_rising_9 (by decide) h (fun h => ?_) (fun h => ?_)
    · refine lv_iload_n X.1 X.2.1 dX10_rising_33 rfl (lv_at hl 1 rfl) ?_
      exact mm_xi X I hr hlk dX10_rising_34 h
    · refine lv_aload_n X.1 X.2.1 dX10_rising_12 rfl (lv_at hl 0 rfl) ?_
      refine lv_iload_n X.1 X.2.1 dX10_rising_13 rfl (lv_at hl 1 rfl) ?_
      refine mm_cVi X I hl (As := [.int x1]) (ci := 10) md_X10_numberOf mv_X10_numberOf ml_X10_190 rfl (kX10_numberOf (n := n)) (by decide) ⟨Nat.le_refl 0, Nat.le_refl 0⟩ rfl rfl (Nat.le_of_ble_eq_true rfl) dX10_rising_14 h (fun v3 M H locs I h => ?_)
      refine lv_aload_n X.1 X.2.1 dX10_rising_17 rfl (lv_at hl 0 rfl) ?_
      refine lv_iload_n X.1 X.2.1 dX10_rising_18 rfl (lv_at hl 1 rfl) ?_
      refine lv_iconst (v := 1) X.1 X.2.1 dX10_rising_19 (by decide) ?_
      refine lv_isub X.1 X.2.1 dX10_rising_20 ?_
      refine mm_cVi X I hl (As := [.int (x1 - 1)]) (ci := 10) md_X10_numberOf mv_X10_numberOf ml_X10_190 rfl (kX10_numberOf (n := n)) (by decide) ⟨Nat.le_refl 0, Nat.le_refl 0⟩ rfl rfl (Nat.le_of_ble_eq_true rfl) dX10_rising_21 h (fun v4 M H locs I h => ?_)
      refine mm_kle (tgt := 33) X dX10_rising_24 (by decide) h (fun h => ?_) (fun h => ?_)
      · refine lv_iload_n X.1 X.2.1 dX10_rising_33 rfl (lv_at hl 1 rfl) ?_
        exact mm_xi X I hr hlk dX10_rising_34 h
      · refine lv_iinc (v := (x1 + 1)) (lv' := [(1, .int (x1 + 1)), (0, .ref a0)]) X.1 X.2.1 dX10_rising_27 hl (k := 1) rfl rfl (by decide) rfl (fun ls hl => ?_)
        refine lv_goto (tgt := 2) X.1 X.2.1 dX10_rising_30 (by decide) ?_
        exact ih M _ _ _ _ _ I (lv_sub hl [1, 0] rfl) h
set_option maxHeartbeats 4000000 in
set_option maxRecDepth 100000 in
theorem kX10_rising {l : Launch} {D : va_G} {dA : Nat → ClassId} {lo : Nat} {n : Nat} {M : mm_M} {a0 : Nat} (o : Int32 × mm_M) (h : pX10_rising n M a0 = some o) : (∃ fs, M.2 a0 = some (mm_ob 10 fs)) ∧ mm_Met l D dA lo yX10_rising cX10_rising 2 (some .int) 2 41 0 0 [.ref a0] M (some (.int o.1)) o.2 := by
  unfold pX10_rising at h
  obtain ⟨hob, h⟩ := mm_v_some h
  refine ⟨hob, mm_enter (by decide) (Nat.le_of_ble_eq_true rfl) (fun p e s m args below meth c ls X hr hlk hnm I hl => ?_)⟩
  have X : mm_C D dA lo cX10_rising RX10 2 p s m args c := X
  have hl : lv_has ls 2 [(0, .ref a0)] := hl
  refine lv_iconst (v := 1) X.1 X.2.1 dX10_rising_0 (by decide) ?_
  refine lv_istore_n (lv' := [(1, .int 1), (0, .ref a0)]) X.1 X.2.1 dX10_rising_1 rfl hl (by decide) rfl (fun ls hl => ?_)
  exact wpX10_rising_l2 X hr hlk n  n M _ _ _ _ _ I (lv_sub hl [1, 0] rfl) h
set_option maxHeartbeats 4000000 in
set_option maxRecDepth 100000 in
theorem wpX10_cursors_l4 {p : Program} {l : Launch} {e : Env} {s : State} {m : MethodId} {args : Array Value} {below : List Frame} {meth : Method} {c : Code} {D : va_G} {dA : Nat → ClassId} {lo : Nat} (X : mm_C D dA lo cX10_cursors RX10 3 p s m args c) (hr : meth.sig.returnType = (some .int)) (hlk : meth.locks = false) (n : Nat) {o : Int32 × mm_M} (k : Nat) : ∀ (M : mm_M) (a0 : Nat) (x1 : Int32) (x2 : Int32) (H : Heap) (locs : List Loc) (ls : Array Slot), mm_I D dA lo s M H locs → lv_has ls 3 [(0, .ref a0), (1, .int x1), (2, .int x2)] → pX10_cursors_l4 n k M a0 x1 x2 = some o → W p l e (mm_rm 2 43 0 0) s m args below meth c H locs 0 0 (MQ below (mm_Q D dA lo (some (.int o.1)) o.2) args s 0 0 (mm_fr lo)) (F0 m 4 ls []) := by
  induction k with
  | zero =>
    intro M a0 x1 x2 H locs ls I hl h
    have h : (none : Option (Int32 × mm_M)) = some o := h
    cases h
  | succ k ih =>
    intro M a0 x1 x2 H locs ls I hl h
    have h : pX10_cursors_l4b n (pX10_cursors_l4 n k) M a0 x1 x2 = some o := h
    unfold pX10_cursors_l4b at h
    refine lv_iload_n X.1 X.2.1 dX10_cursors_4 rfl (lv_at hl 2 rfl) ?_
    refine lv_iconst (v := 3) X.1 X.2.1 dX10_cursors_5 (by decide) ?_
    refine mm_kge (tgt := 33) X dX10_cursors_6 (by decide) h (fun h => ?_) (fun h => ?_)
    · refine lv_iload_n X.1 X.2.1 dX10_cursors_33 rfl (lv_at hl 1 rfl) ?_
      exact mm_xi X I hr hlk dX10_cursors_34 h
    · refine lv_iload_n X.1 X.2.1 dX10_cursors_9 rfl (lv_at hl 1 rfl) ?_
      refine lv_aload_n X.1 X.2.1 dX10_cursors_10 rfl (lv_at hl 0 rfl) ?_
      refine lv_iload_n X.1 X.2.1 dX10_cursors_11 rfl (lv_at hl 2 rfl) ?_
      refine mm_cVi X I hl (As := [.int x2]) (ci := 10) md_X10_isCursor mv_X10_isCursor ml_X10_240 rfl (kX10_isCursor (n := n)) (by decide) ⟨Nat.le_refl 0, Nat.le_refl 0⟩ rfl rfl (Nat.le_of_ble_eq_true rfl) dX10_cursors_12 h (fun v1 M H locs I h => ?_)
      refine mm_jeq (tgt := 24) X dX10_cursors_15 (by decide) h (fun h => ?_) (fun h => ?_)
      · refine lv_iconst (v := 0) X.1 X.2.1 dX10_cursors_24 (by decide) ?_
        refine lv_ior X.1 X.2.1 dX10_cursors_25 ?_
        refine lv_istore_n (lv' := [(1, .int (x1 ||| 0)), (0, .ref a0), (2, .int x2)]) X.1 X.2.1 dX10_cursors_26 rfl hl (by decide) rfl (fun ls hl => ?_)
        refine lv_iinc (v := (x2 + 1)) (lv' := [(2, .int (x2 + 1)), (1, .int (x1 ||| 0)), (0, .ref a0)]) X.1 X.2.1 dX10_cursors_27 hl (k := 2) rfl rfl (by decide) rfl (fun ls hl => ?_)
        refine lv_goto (tgt := 4) X.1 X.2.1 dX10_cursors_30 (by decide) ?_
        exact ih M _ _ _ _ _ _ I (lv_sub hl [2, 1, 0] rfl) h
      · refine lv_iconst (v := 1) X.1 X.2.1 dX10_cursors_18 (by decide) ?_
        refine lv_iload_n X.1 X.2.1 dX10_cursors_19 rfl (lv_at hl 2 rfl) ?_
        refine lv_ishl X.1 X.2.1 dX10_cursors_20 ?_
        refine lv_goto (tgt := 25) X.1 X.2.1 dX10_cursors_21 (by decide) ?_
        refine lv_ior X.1 X.2.1 dX10_cursors_25 ?_
        refine lv_istore_n (lv' := [(1, .int (x1 ||| (1 <<< (x2 &&& 31)))), (0, .ref a0), (2, .int x2)]) X.1 X.2.1 dX10_cursors_26 rfl hl (by decide) rfl (fun ls hl => ?_)
        refine lv_iinc (v := (x2 + 1)) (lv' := [(2, .int (x2 + 1)), (1, .int (x1 ||| (1 <<< (x2 &&& 31)))), (0, .ref a0)]) X.1 X.2.1 dX10_cursors_27 hl (k := 2) rfl rfl (by decide) rfl (fun ls hl => ?_)
        refine lv_goto (tgt := 4) X.1 X.2.1 dX10_cursors_30 (by decide) ?_
        exact ih M _ _ _ _ _ _ I (lv_sub hl [2, 1, 0] rfl) h
set_option maxHeartbeats 4000000 in
set_option maxRecDepth 100000 in
theorem kX10_cursors {l : Launch} {D : va_G} {dA : Nat → ClassId} {lo : Nat} {n : Nat} {M : mm_M} {a0 : Nat} (o : Int32 × mm_M) (h : pX10_cursors n M a0 = some o) : (∃ fs, M.2 a0 = some (mm_ob 10 fs)) ∧ mm_Met l D dA lo yX10_cursors cX10_cursors 3 (some .int) 2 43 0 0 [.ref a0] M (some (.int o.1)) o.2 := by
  unfold pX10_cursors at h
  obtain ⟨hob, h⟩ := mm_v_some h
  refine ⟨hob, mm_enter (by decide) (Nat.le_of_ble_eq_true rfl) (fun p e s m args below meth c ls X hr hlk hnm I hl => ?_)⟩
  have X : mm_C D dA lo cX10_cursors RX10 3 p s m args c := X
  have hl : lv_has ls 3 [(0, .ref a0)] := hl
  refine lv_iconst (v := 0) X.1 X.2.1 dX10_cursors_0 (by decide) ?_
  refine lv_istore_n (lv' := [(1, .int 0), (0, .ref a0)]) X.1 X.2.1 dX10_cursors_1 rfl hl (by decide) rfl (fun ls hl => ?_)
  refine lv_iconst (v := 0) X.1 X.2.1 dX10_cursors_2 (by decide) ?_
  refine lv_istore_n (lv' := [(2, .int 0), (1, .int 0), (0, .ref a0)]) X.1 X.2.1 dX10_cursors_3 rfl hl (by decide) rfl (fun ls hl => ?_)
  exact wpX10_cursors_l4 X hr hlk n  n M _ _ _ _ _ _ I (lv_sub hl [2, 1, 0] rfl) h
set_option maxHeartbeats 4000000 in
set_option maxRecDepth 100000 in
theorem wpX10_isWithin_l14 {p : Program} {l : Launch} {e : Env} {s : State} {m : MethodId} {args : Array Value} {below : List Frame} {meth : Method} {c : Code} {D : va_G} {dA : Nat → ClassId} {lo : Nat} (X : mm_C D dA lo cX10_isWithin RX10 4 p s m args c) (hr : meth.sig.returnType = (some .boolean)) (hlk : meth.locks = false) (n : Nat) {o : Int32 × mm_M} {K2 : mm_M → Nat → Int32 → Int32 → Option (Int32 × mm_M)} (k2 : ∀ (M : mm_M) (a0 : Nat) (x1 : Int32) (x2 : Int32) (H : Heap) (locs : List Loc) (ls : Array Slot), mm_I D dA lo s M H locs → lv_has ls 4 [(0, .ref a0), (1, .int x1), (2, .int x2)] → K2 M a0 x1 x2 = some o → W p l e (mm_rm 3 69 0 0) s m args below meth c H locs 0 0 (MQ below (mm_Q D dA lo (some (.int o.1)) o.2) args s 0 0 (mm_fr lo)) (F0 m 2 ls [])) (k : Nat) : ∀ (M : mm_M) (a0 : Nat) (x1 : Int32) (x2 : Int32) (x3 : Int32) (H : Heap) (locs : List Loc) (ls : Array Slot), mm_I D dA lo s M H locs → lv_has ls 4 [(0, .ref a0), (1, .int x1), (2, .int x2), (3, .int x3)] → pX10_isWithin_l14 n K2 k M a0 x1 x2 x3 = some o → W p l e (mm_rm 3 69 0 0) s m args below meth c H locs 0 0 (MQ below (mm_Q D dA lo (some (.int o.1)) o.2) args s 0 0 (mm_fr lo)) (F0 m 14 ls []) := by
  induction k with
  | zero =>
    intro M a0 x1 x2 x3 H locs ls I hl h
    have h : (none : Option (Int32 × mm_M)) = some o := h
    cases h
  | succ k ih =>
    intro M a0 x1 x2 x3 H locs ls I hl h
    have h : pX10_isWithin_l14b n K2 (pX10_isWithin_l14 n K2 k) M a0 x1 x2 x3 = some o := h
    unfold pX10_isWithin_l14b at h
    refine lv_iload_n X.1 X.2.1 dX10_isWithin_14 rfl (lv_at hl 3 rfl) ?_
    refine lv_aload_n X.1 X.2.1 dX10_isWithin_15 rfl (lv_at hl 0 rfl) ?_
    refine lv_iload_n X.1 X.2.1 dX10_isWithin_16 rfl (lv_at hl 2 rfl) ?_
    refine mm_cVi X I hl (As := [.int x2]) (ci := 10) md_X10_longOf mv_X10_longOf ml_X10_136 rfl (kX10_longOf (n := n)) (by decide) ⟨Nat.le_refl 0, Nat.le_refl 0⟩ rfl rfl (Nat.le_of_ble_eq_true rfl) dX10_isWithin_17 h (fun v1 M H locs I h => ?_)
    refine mm_kge (tgt := 60) X dX10_isWithin_20 (by decide) h (fun h => ?_) (fun h => ?_)
    · refine lv_iinc (v := (x2 + 1)) (lv' := [(2, .int (x2 + 1)), (0, .ref a0), (1, .int x1), (3, .int x3)]) X.1 X.2.1 dX10_isWithin_60 hl (k := 2) rfl rfl (by decide) rfl (fun ls hl => ?_)
      refine lv_goto (tgt := 2) X.1 X.2.1 dX10_isWithin_63 (by decide) ?_
      exact k2 M _ _ _ _ _ _ I (lv_sub hl [1, 2, 0] rfl) h
    · refine lv_iload_n X.1 X.2.1 dX10_isWithin_23 rfl (lv_at hl 2 rfl) ?_
      refine lv_iload_n X.1 X.2.1 dX10_isWithin_24 rfl (lv_at hl 1 rfl) ?_
      refine mm_keq (tgt := 54) X dX10_isWithin_25 (by decide) h (fun h => ?_) (fun h => ?_)
      · refine lv_iinc (v := (x3 + 1)) (lv' := [(3, .int (x3 + 1)), (0, .ref a0), (1, .int x1), (2, .int x2)]) X.1 X.2.1 dX10_isWithin_54 hl (k := 3) rfl rfl (by decide) rfl (fun ls hl => ?_)
        refine lv_goto (tgt := 14) X.1 X.2.1 dX10_isWithin_57 (by decide) ?_
        exact ih M _ _ _ _ _ _ _ I (lv_sub hl [1, 2, 3, 0] rfl) h
      · refine lv_aload_n X.1 X.2.1 dX10_isWithin_28 rfl (lv_at hl 0 rfl) ?_
        refine lv_aload_n X.1 X.2.1 dX10_isWithin_29 rfl (lv_at hl 0 rfl) ?_
        refine mm_rgr X I fl_X10_28 dX10_isWithin_30 h (fun v2 h => ?_)
        refine lv_iload_n X.1 X.2.1 dX10_isWithin_33 rfl (lv_at hl 1 rfl) ?_
        refine mm_cSi X I hl (As := [.int x1]) md_X10_lineAt mv_X10_lineAt ml_X10_129 (kX10_lineAt (n := n)) (by decide) ⟨Nat.le_refl 0, Nat.le_refl 0⟩ rfl rfl (Nat.le_of_ble_eq_true rfl) dX10_isWithin_34 h (fun v3 M H locs I h => ?_)
        refine lv_iconst (v := 2) X.1 X.2.1 dX10_isWithin_37 (by decide) ?_
        refine lv_iadd X.1 X.2.1 dX10_isWithin_38 ?_
        refine lv_aload_n X.1 X.2.1 dX10_isWithin_39 rfl (lv_at hl 0 rfl) ?_
        refine lv_iload_n X.1 X.2.1 dX10_isWithin_40 rfl (lv_at hl 1 rfl) ?_
        refine mm_cVi X I hl (As := [.int x1]) (ci := 10) md_X10_longOf mv_X10_longOf ml_X10_136 rfl (kX10_longOf (n := n)) (by decide) ⟨Nat.le_refl 0, Nat.le_refl 0⟩ rfl rfl (Nat.le_of_ble_eq_true rfl) dX10_isWithin_41 h (fun v4 M H locs I h => ?_)
        refine lv_iload_n X.1 X.2.1 dX10_isWithin_44 rfl (lv_at hl 2 rfl) ?_
        refine lv_iload_n X.1 X.2.1 dX10_isWithin_45 rfl (lv_at hl 3 rfl) ?_
        refine mm_cVi X I hl (As := [.ref v2, .int (v3 + 2), .int v4, .int x2, .int x3]) (ci := 10) md_X10_stands mv_X10_stands ml_X10_197 rfl (kX10_stands (n := n)) (by decide) ⟨Nat.le_refl 0, Nat.le_refl 0⟩ rfl rfl (Nat.le_of_ble_eq_true rfl) dX10_isWithin_46 h (fun v5 M H locs I h => ?_)
        refine mm_jeq (tgt := 54) X dX10_isWithin_49 (by decide) h (fun h => ?_) (fun h => ?_)
        · refine lv_iinc (v := (x3 + 1)) (lv' := [(3, .int (x3 + 1)), (0, .ref a0), (1, .int x1), (2, .int x2)]) X.1 X.2.1 dX10_isWithin_54 hl (k := 3) rfl rfl (by decide) rfl (fun ls hl => ?_)
          refine lv_goto (tgt := 14) X.1 X.2.1 dX10_isWithin_57 (by decide) ?_
          exact ih M _ _ _ _ _ _ _ I (lv_sub hl [1, 2, 3, 0] rfl) h
        · refine lv_iconst (v := 1) X.1 X.2.1 dX10_isWithin_52 (by decide) ?_
          exact mm_xz1 X I hr hlk dX10_isWithin_53 h
set_option maxHeartbeats 4000000 in
set_option maxRecDepth 100000 in
theorem wpX10_isWithin_l2 {p : Program} {l : Launch} {e : Env} {s : State} {m : MethodId} {args : Array Value} {below : List Frame} {meth : Method} {c : Code} {D : va_G} {dA : Nat → ClassId} {lo : Nat} (X : mm_C D dA lo cX10_isWithin RX10 4 p s m args c) (hr : meth.sig.returnType = (some .boolean)) (hlk : meth.locks = false) (n : Nat) {o : Int32 × mm_M} (k : Nat) : ∀ (M : mm_M) (a0 : Nat) (x1 : Int32) (x2 : Int32) (H : Heap) (locs : List Loc) (ls : Array Slot), mm_I D dA lo s M H locs → lv_has ls 4 [(0, .ref a0), (1, .int x1), (2, .int x2)] → pX10_isWithin_l2 n k M a0 x1 x2 = some o → W p l e (mm_rm 3 69 0 0) s m args below meth c H locs 0 0 (MQ below (mm_Q D dA lo (some (.int o.1)) o.2) args s 0 0 (mm_fr lo)) (F0 m 2 ls []) := by
  induction k with
  | zero =>
    intro M a0 x1 x2 H locs ls I hl h
    have h : (none : Option (Int32 × mm_M)) = some o := h
    cases h
  | succ k ih =>
    intro M a0 x1 x2 H locs ls I hl h
    have h : pX10_isWithin_l2b n (pX10_isWithin_l2 n k) M a0 x1 x2 = some o := h
    unfold pX10_isWithin_l2b at h
    refine lv_iload_n X.1 X.2.1 dX10_isWithin_2 rfl (lv_at hl 2 rfl) ?_
    refine lv_aload_n X.1 X.2.1 dX10_isWithin_3 rfl (lv_at hl 0 rfl) ?_
    refine mm_rgr X I fl_X10_28 dX10_isWithin_4 h (fun v1 h => ?_)
    refine lv_iconst (v := 0) X.1 X.2.1 dX10_isWithin_7 (by decide) ?_
    refine mm_ria X I dX10_isWithin_8 h (fun v2 h => ?_)
    refine mm_kge (tgt := 66) X dX10_isWithin_9 (by decide) h (fun h => ?_) (fun h => ?_)
    · refine lv_iconst (v := 0) X.1 X.2.1 dX10_isWithin_66 (by decide) ?_
      exact mm_xz0 X I hr hlk dX10_isWithin_67 h
    · refine lv_iconst (v := 0) X.1 X.2.1 dX10_isWithin_12 (by decide) ?_
      refine lv_istore_n (lv' := [(3, .int 0), (0, .ref a0), (1, .int x1), (2, .int x2)]) X.1 X.2.1 dX10_isWithin_13 rfl hl (by decide) rfl (fun ls hl => ?_)
      exact wpX10_isWithin_l14 X hr hlk n ih n M _ _ _ _ _ _ _ I (lv_sub hl [1, 2, 3, 0] rfl) h
set_option maxHeartbeats 4000000 in
set_option maxRecDepth 100000 in
theorem kX10_isWithin {l : Launch} {D : va_G} {dA : Nat → ClassId} {lo : Nat} {n : Nat} {M : mm_M} {a0 : Nat} {x1 : Int32} (o : Int32 × mm_M) (h : pX10_isWithin n M a0 x1 = some o) : (∃ fs, M.2 a0 = some (mm_ob 10 fs)) ∧ mm_Met l D dA lo yX10_isWithin cX10_isWithin 4 (some .boolean) 3 69 0 0 [.ref a0, .int x1] M (some (.int o.1)) o.2 := by
  unfold pX10_isWithin at h
  obtain ⟨hob, h⟩ := mm_v_some h
  refine ⟨hob, mm_enter (by decide) (Nat.le_of_ble_eq_true rfl) (fun p e s m args below meth c ls X hr hlk hnm I hl => ?_)⟩
  have X : mm_C D dA lo cX10_isWithin RX10 4 p s m args c := X
  have hl : lv_has ls 4 [(0, .ref a0), (1, .int x1)] := hl
  refine lv_iconst (v := 0) X.1 X.2.1 dX10_isWithin_0 (by decide) ?_
  refine lv_istore_n (lv' := [(2, .int 0), (0, .ref a0), (1, .int x1)]) X.1 X.2.1 dX10_isWithin_1 rfl hl (by decide) rfl (fun ls hl => ?_)
  exact wpX10_isWithin_l2 X hr hlk n  n M _ _ _ _ _ _ I (lv_sub hl [1, 2, 0] rfl) h
set_option maxHeartbeats 4000000 in
set_option maxRecDepth 100000 in
theorem wpX10_withinOnes_l4 {p : Program} {l : Launch} {e : Env} {s : State} {m : MethodId} {args : Array Value} {below : List Frame} {meth : Method} {c : Code} {D : va_G} {dA : Nat → ClassId} {lo : Nat} (X : mm_C D dA lo cX10_withinOnes RX10 3 p s m args c) (hr : meth.sig.returnType = (some .int)) (hlk : meth.locks = false) (n : Nat) {o : Int32 × mm_M} (k : Nat) : ∀ (M : mm_M) (a0 : Nat) (x1 : Int32) (x2 : Int32) (H : Heap) (locs : List Loc) (ls : Array Slot), mm_I D dA lo s M H locs → lv_has ls 3 [(0, .ref a0), (1, .int x1), (2, .int x2)] → pX10_withinOnes_l4 n k M a0 x1 x2 = some o → W p l e (mm_rm 4 92 0 0) s m args below meth c H locs 0 0 (MQ below (mm_Q D dA lo (some (.int o.1)) o.2) args s 0 0 (mm_fr lo)) (F0 m 4 ls []) := by
  induction k with
  | zero =>
    intro M a0 x1 x2 H locs ls I hl h
    have h : (none : Option (Int32 × mm_M)) = some o := h
    cases h
  | succ k ih =>
    intro M a0 x1 x2 H locs ls I hl h
    have h : pX10_withinOnes_l4b n (pX10_withinOnes_l4 n k) M a0 x1 x2 = some o := h
    unfold pX10_withinOnes_l4b at h
    refine lv_iload_n X.1 X.2.1 dX10_withinOnes_4 rfl (lv_at hl 2 rfl) ?_
    refine lv_aload_n X.1 X.2.1 dX10_withinOnes_5 rfl (lv_at hl 0 rfl) ?_
    refine mm_rgr X I fl_X10_28 dX10_withinOnes_6 h (fun v1 h => ?_)
    refine lv_iconst (v := 0) X.1 X.2.1 dX10_withinOnes_9 (by decide) ?_
    refine mm_ria X I dX10_withinOnes_10 h (fun v2 h => ?_)
    refine mm_kge (tgt := 38) X dX10_withinOnes_11 (by decide) h (fun h => ?_) (fun h => ?_)
    · refine lv_iload_n X.1 X.2.1 dX10_withinOnes_38 rfl (lv_at hl 1 rfl) ?_
      exact mm_xi X I hr hlk dX10_withinOnes_39 h
    · refine lv_iload_n X.1 X.2.1 dX10_withinOnes_14 rfl (lv_at hl 1 rfl) ?_
      refine lv_aload_n X.1 X.2.1 dX10_withinOnes_15 rfl (lv_at hl 0 rfl) ?_
      refine lv_iload_n X.1 X.2.1 dX10_withinOnes_16 rfl (lv_at hl 2 rfl) ?_
      refine mm_cVi X I hl (As := [.int x2]) (ci := 10) md_X10_isWithin mv_X10_isWithin ml_X10_383 rfl (kX10_isWithin (n := n)) (by decide) ⟨Nat.le_refl 0, Nat.le_refl 0⟩ rfl rfl (Nat.le_of_ble_eq_true rfl) dX10_withinOnes_17 h (fun v3 M H locs I h => ?_)
      refine mm_jeq (tgt := 29) X dX10_withinOnes_20 (by decide) h (fun h => ?_) (fun h => ?_)
      · refine lv_iconst (v := 0) X.1 X.2.1 dX10_withinOnes_29 (by decide) ?_
        refine lv_ior X.1 X.2.1 dX10_withinOnes_30 ?_
        refine lv_istore_n (lv' := [(1, .int (x1 ||| 0)), (0, .ref a0), (2, .int x2)]) X.1 X.2.1 dX10_withinOnes_31 rfl hl (by decide) rfl (fun ls hl => ?_)
        refine lv_iinc (v := (x2 + 1)) (lv' := [(2, .int (x2 + 1)), (1, .int (x1 ||| 0)), (0, .ref a0)]) X.1 X.2.1 dX10_withinOnes_32 hl (k := 2) rfl rfl (by decide) rfl (fun ls hl => ?_)
        refine lv_goto (tgt := 4) X.1 X.2.1 dX10_withinOnes_35 (by decide) ?_
        exact ih M _ _ _ _ _ _ I (lv_sub hl [2, 1, 0] rfl) h
      · refine lv_iconst (v := 1) X.1 X.2.1 dX10_withinOnes_23 (by decide) ?_
        refine lv_iload_n X.1 X.2.1 dX10_withinOnes_24 rfl (lv_at hl 2 rfl) ?_
        refine lv_ishl X.1 X.2.1 dX10_withinOnes_25 ?_
        refine lv_goto (tgt := 30) X.1 X.2.1 dX10_withinOnes_26 (by decide) ?_
        refine lv_ior X.1 X.2.1 dX10_withinOnes_30 ?_
        refine lv_istore_n (lv' := [(1, .int (x1 ||| (1 <<< (x2 &&& 31)))), (0, .ref a0), (2, .int x2)]) X.1 X.2.1 dX10_withinOnes_31 rfl hl (by decide) rfl (fun ls hl => ?_)
        refine lv_iinc (v := (x2 + 1)) (lv' := [(2, .int (x2 + 1)), (1, .int (x1 ||| (1 <<< (x2 &&& 31)))), (0, .ref a0)]) X.1 X.2.1 dX10_withinOnes_32 hl (k := 2) rfl rfl (by decide) rfl (fun ls hl => ?_)
        refine lv_goto (tgt := 4) X.1 X.2.1 dX10_withinOnes_35 (by decide) ?_
        exact ih M _ _ _ _ _ _ I (lv_sub hl [2, 1, 0] rfl) h
set_option maxHeartbeats 4000000 in
set_option maxRecDepth 100000 in
theorem kX10_withinOnes {l : Launch} {D : va_G} {dA : Nat → ClassId} {lo : Nat} {n : Nat} {M : mm_M} {a0 : Nat} (o : Int32 × mm_M) (h : pX10_withinOnes n M a0 = some o) : (∃ fs, M.2 a0 = some (mm_ob 10 fs)) ∧ mm_Met l D dA lo yX10_withinOnes cX10_withinOnes 3 (some .int) 4 92 0 0 [.ref a0] M (some (.int o.1)) o.2 := by
  unfold pX10_withinOnes at h
  obtain ⟨hob, h⟩ := mm_v_some h
  refine ⟨hob, mm_enter (by decide) (Nat.le_of_ble_eq_true rfl) (fun p e s m args below meth c ls X hr hlk hnm I hl => ?_)⟩
  have X : mm_C D dA lo cX10_withinOnes RX10 3 p s m args c := X
  have hl : lv_has ls 3 [(0, .ref a0)] := hl
  refine lv_iconst (v := 0) X.1 X.2.1 dX10_withinOnes_0 (by decide) ?_
  refine lv_istore_n (lv' := [(1, .int 0), (0, .ref a0)]) X.1 X.2.1 dX10_withinOnes_1 rfl hl (by decide) rfl (fun ls hl => ?_)
  refine lv_iconst (v := 0) X.1 X.2.1 dX10_withinOnes_2 (by decide) ?_
  refine lv_istore_n (lv' := [(2, .int 0), (1, .int 0), (0, .ref a0)]) X.1 X.2.1 dX10_withinOnes_3 rfl hl (by decide) rfl (fun ls hl => ?_)
  exact wpX10_withinOnes_l4 X hr hlk n  n M _ _ _ _ _ _ I (lv_sub hl [2, 1, 0] rfl) h
set_option maxHeartbeats 4000000 in
set_option maxRecDepth 100000 in
theorem kX10_most {l : Launch} {D : va_G} {dA : Nat → ClassId} {lo : Nat} {n : Nat} {M : mm_M} {a0 : Nat} {x1 : Int32} (o : Int32 × mm_M) (h : pX10_most n M a0 x1 = some o) : (∃ fs, M.2 a0 = some (mm_ob 10 fs)) ∧ mm_Met l D dA lo yX10_most cX10_most 2 (some .int) 9 203 0 0 [.ref a0, .int x1] M (some (.int o.1)) o.2 := by
  unfold pX10_most at h
  obtain ⟨hob, h⟩ := mm_v_some h
  refine ⟨hob, mm_enter (by decide) (Nat.le_of_ble_eq_true rfl) (fun p e s m args below meth c ls X hr hlk hnm I hl => ?_)⟩
  have X : mm_C D dA lo cX10_most RX10 2 p s m args c := X
  have hl : lv_has ls 2 [(0, .ref a0), (1, .int x1)] := hl
  refine lv_aload_n X.1 X.2.1 dX10_most_0 rfl (lv_at hl 0 rfl) ?_
  refine mm_cVi X I hl (As := []) (ci := 10) md_X10_isStore mv_X10_isStore ml_X10_139 rfl (kX10_isStore (n := n)) (by decide) ⟨Nat.le_refl 0, Nat.le_refl 0⟩ rfl rfl (Nat.le_of_ble_eq_true rfl) dX10_most_1 h (fun v1 M H locs I h => ?_)
  refine mm_jeq (tgt := 17) X dX10_most_4 (by decide) h (fun h => ?_) (fun h => ?_)
  · refine lv_ldc (v := (-1000000)) X.1 X.2.1 X.2.2.2.1 (X.2.2.2.2.1 _ cn_X10_109) dX10_most_17 ?_
    exact mm_xi X I hr hlk dX10_most_19 h
  · refine lv_iload_n X.1 X.2.1 dX10_most_7 rfl (lv_at hl 1 rfl) ?_
    refine lv_iconst (v := 0) X.1 X.2.1 dX10_most_8 (by decide) ?_
    refine lv_bipush (v := 6) X.1 X.2.1 dX10_most_9 (by decide) ?_
    refine mm_cSi X I hl (As := [.int x1, .int 0, .int 6]) md_X10_in mv_X10_in ml_X10_69 (kX10_in (n := n)) (by decide) ⟨Nat.le_refl 0, Nat.le_refl 0⟩ rfl rfl (Nat.le_of_ble_eq_true rfl) dX10_most_11 h (fun v2 M H locs I h => ?_)
    refine mm_jne (tgt := 20) X dX10_most_14 (by decide) h (fun h => ?_) (fun h => ?_)
    · refine lv_iload_n X.1 X.2.1 dX10_most_20 rfl (lv_at hl 1 rfl) ?_
      by_cases z3_0 : x1 = 0
      · have h := mm_t z3_0 h
        refine lv_tableIn (tgt := 60) (off := 39) X.1 X.2.1 dX10_most_21 (by rw [z3_0]; decide) (by rw [z3_0]; decide) (by rw [z3_0]; rfl) (by decide) ?_
        refine lv_aload_n X.1 X.2.1 dX10_most_60 rfl (lv_at hl 0 rfl) ?_
        refine lv_iconst (v := 1) X.1 X.2.1 dX10_most_61 (by decide) ?_
        refine mm_cVi X I hl (As := [.int 1]) (ci := 10) md_X10_farthest mv_X10_farthest ml_X10_386 rfl (kX10_farthest (n := n)) (by decide) ⟨Nat.le_refl 0, Nat.le_refl 0⟩ rfl rfl (Nat.le_of_ble_eq_true rfl) dX10_most_62 h (fun v4 M H locs I h => ?_)
        exact mm_xi X I hr hlk dX10_most_65 h
      · have h := mm_f z3_0 h
        by_cases z3_1 : x1 = 1
        · have h := mm_t z3_1 h
          refine lv_tableIn (tgt := 66) (off := 45) X.1 X.2.1 dX10_most_21 (by rw [z3_1]; decide) (by rw [z3_1]; decide) (by rw [z3_1]; rfl) (by decide) ?_
          refine lv_aload_n X.1 X.2.1 dX10_most_66 rfl (lv_at hl 0 rfl) ?_
          refine lv_iconst (v := (-1)) X.1 X.2.1 dX10_most_67 (by decide) ?_
          refine mm_cVi X I hl (As := [.int (-1)]) (ci := 10) md_X10_farthest mv_X10_farthest ml_X10_386 rfl (kX10_farthest (n := n)) (by decide) ⟨Nat.le_refl 0, Nat.le_refl 0⟩ rfl rfl (Nat.le_of_ble_eq_true rfl) dX10_most_68 h (fun v5 M H locs I h => ?_)
          exact mm_xi X I hr hlk dX10_most_71 h
        · have h := mm_f z3_1 h
          by_cases z3_2 : x1 = 2
          · have h := mm_t z3_2 h
            refine lv_tableIn (tgt := 72) (off := 51) X.1 X.2.1 dX10_most_21 (by rw [z3_2]; decide) (by rw [z3_2]; decide) (by rw [z3_2]; rfl) (by decide) ?_
            refine lv_aload_n X.1 X.2.1 dX10_most_72 rfl (lv_at hl 0 rfl) ?_
            refine mm_cVi X I hl (As := []) (ci := 10) md_X10_unlikeSigns mv_X10_unlikeSigns ml_X10_389 rfl (kX10_unlikeSigns (n := n)) (by decide) ⟨Nat.le_refl 0, Nat.le_refl 0⟩ rfl rfl (Nat.le_of_ble_eq_true rfl) dX10_most_73 h (fun v6 M H locs I h => ?_)
            exact mm_xi X I hr hlk dX10_most_76 h
          · have h := mm_f z3_2 h
            by_cases z3_3 : x1 = 3
            · have h := mm_t z3_3 h
              refine lv_tableIn (tgt := 77) (off := 56) X.1 X.2.1 dX10_most_21 (by rw [z3_3]; decide) (by rw [z3_3]; decide) (by rw [z3_3]; rfl) (by decide) ?_
              refine lv_iconst (v := 0) X.1 X.2.1 dX10_most_77 (by decide) ?_
              refine lv_aload_n X.1 X.2.1 dX10_most_78 rfl (lv_at hl 0 rfl) ?_
              refine lv_iconst (v := 1) X.1 X.2.1 dX10_most_79 (by decide) ?_
              refine mm_cVi X I hl (As := [.int 1]) (ci := 10) md_X10_twice mv_X10_twice ml_X10_392 rfl (kX10_twice (n := n)) (by decide) ⟨Nat.le_refl 0, Nat.le_refl 0⟩ rfl rfl (Nat.le_of_ble_eq_true rfl) dX10_most_80 h (fun v7 M H locs I h => ?_)
              refine mm_rmax X hl ml_X10_211 (by decide) (Nat.le_of_ble_eq_true rfl) (by decide) (by decide) dX10_most_83 ?_
              exact mm_xi X I hr hlk dX10_most_86 h
            · have h := mm_f z3_3 h
              by_cases z3_4 : x1 = 4
              · have h := mm_t z3_4 h
                refine lv_tableIn (tgt := 87) (off := 66) X.1 X.2.1 dX10_most_21 (by rw [z3_4]; decide) (by rw [z3_4]; decide) (by rw [z3_4]; rfl) (by decide) ?_
                refine lv_aload_n X.1 X.2.1 dX10_most_87 rfl (lv_at hl 0 rfl) ?_
                refine mm_cVi X I hl (As := []) (ci := 10) md_X10_rising mv_X10_rising ml_X10_395 rfl (kX10_rising (n := n)) (by decide) ⟨Nat.le_refl 0, Nat.le_refl 0⟩ rfl rfl (Nat.le_of_ble_eq_true rfl) dX10_most_88 h (fun v8 M H locs I h => ?_)
                exact mm_xi X I hr hlk dX10_most_91 h
              · have h := mm_f z3_4 h
                by_cases z3_5 : x1 = 5
                · have h := mm_t z3_5 h
                  refine lv_tableIn (tgt := 92) (off := 71) X.1 X.2.1 dX10_most_21 (by rw [z3_5]; decide) (by rw [z3_5]; decide) (by rw [z3_5]; rfl) (by decide) ?_
                  refine lv_aload_n X.1 X.2.1 dX10_most_92 rfl (lv_at hl 0 rfl) ?_
                  refine mm_cVi X I hl (As := []) (ci := 10) md_X10_cursors mv_X10_cursors ml_X10_398 rfl (kX10_cursors (n := n)) (by decide) ⟨Nat.le_refl 0, Nat.le_refl 0⟩ rfl rfl (Nat.le_of_ble_eq_true rfl) dX10_most_93 h (fun v9 M H locs I h => ?_)
                  exact mm_xi X I hr hlk dX10_most_96 h
                · have h := mm_f z3_5 h
                  have z3_q0 : ¬ Int32.toInt x1 = 0 := fun q => z3_0 (Int32.toInt_inj.mp q)
                  have z3_q1 : ¬ Int32.toInt x1 = 1 := fun q => z3_1 (Int32.toInt_inj.mp q)
                  have z3_q2 : ¬ Int32.toInt x1 = 2 := fun q => z3_2 (Int32.toInt_inj.mp q)
                  have z3_q3 : ¬ Int32.toInt x1 = 3 := fun q => z3_3 (Int32.toInt_inj.mp q)
                  have z3_q4 : ¬ Int32.toInt x1 = 4 := fun q => z3_4 (Int32.toInt_inj.mp q)
                  have z3_q5 : ¬ Int32.toInt x1 = 5 := fun q => z3_5 (Int32.toInt_inj.mp q)
                  refine mm_tdef (tgt := 97) X dX10_most_21 (by decide) (fun i hi hq => ?_) (by decide) ?_
                  · rcases (show i = 0 ∨ i = 1 ∨ i = 2 ∨ i = 3 ∨ i = 4 ∨ i = 5 by simp at hi; omega) with rfl | rfl | rfl | rfl | rfl | rfl
                    · exact absurd hq (by omega)
                    · exact absurd hq (by omega)
                    · exact absurd hq (by omega)
                    · exact absurd hq (by omega)
                    · exact absurd hq (by omega)
                    · exact absurd hq (by omega)
                  · refine lv_aload_n X.1 X.2.1 dX10_most_97 rfl (lv_at hl 0 rfl) ?_
                    refine mm_cVi X I hl (As := []) (ci := 10) md_X10_withinOnes mv_X10_withinOnes ml_X10_401 rfl (kX10_withinOnes (n := n)) (by decide) ⟨Nat.le_refl 0, Nat.le_refl 0⟩ rfl rfl (Nat.le_of_ble_eq_true rfl) dX10_most_98 h (fun v10 M H locs I h => ?_)
                    exact mm_xi X I hr hlk dX10_most_101 h
    · refine lv_ldc (v := (-1000000)) X.1 X.2.1 X.2.2.2.1 (X.2.2.2.2.1 _ cn_X10_109) dX10_most_17 ?_
      exact mm_xi X I hr hlk dX10_most_19 h
set_option maxHeartbeats 4000000 in
set_option maxRecDepth 100000 in
theorem wpX10_image_l11 {p : Program} {l : Launch} {e : Env} {s : State} {m : MethodId} {args : Array Value} {below : List Frame} {meth : Method} {c : Code} {D : va_G} {dA : Nat → ClassId} {lo : Nat} (X : mm_C D dA lo cX10_image RX10 2 p s m args c) (hr : meth.sig.returnType = (some .int)) (hlk : meth.locks = false) (n : Nat) {o : Int32 × mm_M} (k : Nat) : ∀ (M : mm_M) (a0 : Nat) (x1 : Int32) (H : Heap) (locs : List Loc) (ls : Array Slot), mm_I D dA lo s M H locs → lv_has ls 2 [(0, .ref a0), (1, .int x1)] → pX10_image_l11 n k M a0 x1 = some o → W p l e (mm_rm 3 63 0 0) s m args below meth c H locs 0 0 (MQ below (mm_Q D dA lo (some (.int o.1)) o.2) args s 0 0 (mm_fr lo)) (F0 m 11 ls []) := by
  induction k with
  | zero =>
    intro M a0 x1 H locs ls I hl h
    have h : (none : Option (Int32 × mm_M)) = some o := h
    cases h
  | succ k ih =>
    intro M a0 x1 H locs ls I hl h
    have h : pX10_image_l11b n (pX10_image_l11 n k) M a0 x1 = some o := h
    unfold pX10_image_l11b at h
    refine lv_iload_n X.1 X.2.1 dX10_image_11 rfl (lv_at hl 1 rfl) ?_
    refine lv_sipush (v := 622) X.1 X.2.1 dX10_image_12 (by decide) ?_
    refine mm_kge (tgt := 36) X dX10_image_15 (by decide) h (fun h => ?_) (fun h => ?_)
    · refine lv_aload_n X.1 X.2.1 dX10_image_36 rfl (lv_at hl 0 rfl) ?_
      refine lv_iconst (v := 1) X.1 X.2.1 dX10_image_37 (by decide) ?_
      refine mm_rpz X I fl_X10_156 dX10_image_38 h (fun M H locs I h => ?_)
      refine lv_aload_n X.1 X.2.1 dX10_image_41 rfl (lv_at hl 0 rfl) ?_
      refine mm_cVi X I hl (As := []) (ci := 10) md_X10_allSigns mv_X10_allSigns ml_X10_277 rfl (kX10_allSigns (n := n)) (by decide) ⟨Nat.le_refl 0, Nat.le_refl 0⟩ rfl rfl (Nat.le_of_ble_eq_true rfl) dX10_image_42 h (fun v1 M H locs I h => ?_)
      exact mm_xi X I hr hlk dX10_image_45 h
    · refine lv_aload_n X.1 X.2.1 dX10_image_18 rfl (lv_at hl 0 rfl) ?_
      refine mm_rgr X I fl_X10_55 dX10_image_19 h (fun v2 h => ?_)
      refine lv_iload_n X.1 X.2.1 dX10_image_22 rfl (lv_at hl 1 rfl) ?_
      refine lv_aload_n X.1 X.2.1 dX10_image_23 rfl (lv_at hl 0 rfl) ?_
      refine mm_rgr X I fl_X10_28 dX10_image_24 h (fun v3 h => ?_)
      refine lv_iload_n X.1 X.2.1 dX10_image_27 rfl (lv_at hl 1 rfl) ?_
      refine mm_ria X I dX10_image_28 h (fun v4 h => ?_)
      refine mm_ris X I dX10_image_29 h (fun M H locs I h => ?_)
      refine lv_iinc (v := (x1 + 1)) (lv' := [(1, .int (x1 + 1)), (0, .ref a0)]) X.1 X.2.1 dX10_image_30 hl (k := 1) rfl rfl (by decide) rfl (fun ls hl => ?_)
      refine lv_goto (tgt := 11) X.1 X.2.1 dX10_image_33 (by decide) ?_
      exact ih M _ _ _ _ _ I (lv_sub hl [1, 0] rfl) h
set_option maxHeartbeats 4000000 in
set_option maxRecDepth 100000 in
theorem kX10_image {l : Launch} {D : va_G} {dA : Nat → ClassId} {lo : Nat} {n : Nat} {M : mm_M} {a0 : Nat} (o : Int32 × mm_M) (h : pX10_image n M a0 = some o) : (∃ fs, M.2 a0 = some (mm_ob 10 fs)) ∧ mm_Met l D dA lo yX10_image cX10_image 2 (some .int) 3 63 0 0 [.ref a0] M (some (.int o.1)) o.2 := by
  unfold pX10_image at h
  obtain ⟨hob, h⟩ := mm_v_some h
  refine ⟨hob, mm_enter (by decide) (Nat.le_of_ble_eq_true rfl) (fun p e s m args below meth c ls X hr hlk hnm I hl => ?_)⟩
  have X : mm_C D dA lo cX10_image RX10 2 p s m args c := X
  have hl : lv_has ls 2 [(0, .ref a0)] := hl
  refine lv_aload_n X.1 X.2.1 dX10_image_0 rfl (lv_at hl 0 rfl) ?_
  refine mm_cVi X I hl (As := []) (ci := 10) md_X10_isStore mv_X10_isStore ml_X10_139 rfl (kX10_isStore (n := n)) (by decide) ⟨Nat.le_refl 0, Nat.le_refl 0⟩ rfl rfl (Nat.le_of_ble_eq_true rfl) dX10_image_1 h (fun v1 M H locs I h => ?_)
  refine mm_jne (tgt := 9) X dX10_image_4 (by decide) h (fun h => ?_) (fun h => ?_)
  · refine lv_iconst (v := 0) X.1 X.2.1 dX10_image_9 (by decide) ?_
    refine lv_istore_n (lv' := [(1, .int 0), (0, .ref a0)]) X.1 X.2.1 dX10_image_10 rfl hl (by decide) rfl (fun ls hl => ?_)
    exact wpX10_image_l11 X hr hlk n  n M _ _ _ _ _ I (lv_sub hl [1, 0] rfl) h
  · refine lv_iconst (v := (-1)) X.1 X.2.1 dX10_image_7 (by decide) ?_
    exact mm_xi X I hr hlk dX10_image_8 h
set_option maxHeartbeats 4000000 in
set_option maxRecDepth 100000 in
theorem wpX10_back_l11 {p : Program} {l : Launch} {e : Env} {s : State} {m : MethodId} {args : Array Value} {below : List Frame} {meth : Method} {c : Code} {D : va_G} {dA : Nat → ClassId} {lo : Nat} (X : mm_C D dA lo cX10_back RX10 2 p s m args c) (hr : meth.sig.returnType = (some .int)) (hlk : meth.locks = false) (n : Nat) {o : Int32 × mm_M} (k : Nat) : ∀ (M : mm_M) (a0 : Nat) (x1 : Int32) (H : Heap) (locs : List Loc) (ls : Array Slot), mm_I D dA lo s M H locs → lv_has ls 2 [(0, .ref a0), (1, .int x1)] → pX10_back_l11 n k M a0 x1 = some o → W p l e (mm_rm 3 63 0 0) s m args below meth c H locs 0 0 (MQ below (mm_Q D dA lo (some (.int o.1)) o.2) args s 0 0 (mm_fr lo)) (F0 m 11 ls []) := by
  induction k with
  | zero =>
    intro M a0 x1 H locs ls I hl h
    have h : (none : Option (Int32 × mm_M)) = some o := h
    cases h
  | succ k ih =>
    intro M a0 x1 H locs ls I hl h
    have h : pX10_back_l11b n (pX10_back_l11 n k) M a0 x1 = some o := h
    unfold pX10_back_l11b at h
    refine lv_iload_n X.1 X.2.1 dX10_back_11 rfl (lv_at hl 1 rfl) ?_
    refine lv_sipush (v := 622) X.1 X.2.1 dX10_back_12 (by decide) ?_
    refine mm_kge (tgt := 36) X dX10_back_15 (by decide) h (fun h => ?_) (fun h => ?_)
    · refine lv_aload_n X.1 X.2.1 dX10_back_36 rfl (lv_at hl 0 rfl) ?_
      refine lv_iconst (v := 0) X.1 X.2.1 dX10_back_37 (by decide) ?_
      refine mm_rpi X I fl_X10_153 dX10_back_38 h (fun M H locs I h => ?_)
      refine lv_aload_n X.1 X.2.1 dX10_back_41 rfl (lv_at hl 0 rfl) ?_
      refine mm_cVi X I hl (As := []) (ci := 10) md_X10_allSigns mv_X10_allSigns ml_X10_277 rfl (kX10_allSigns (n := n)) (by decide) ⟨Nat.le_refl 0, Nat.le_refl 0⟩ rfl rfl (Nat.le_of_ble_eq_true rfl) dX10_back_42 h (fun v1 M H locs I h => ?_)
      exact mm_xi X I hr hlk dX10_back_45 h
    · refine lv_aload_n X.1 X.2.1 dX10_back_18 rfl (lv_at hl 0 rfl) ?_
      refine mm_rgr X I fl_X10_28 dX10_back_19 h (fun v2 h => ?_)
      refine lv_iload_n X.1 X.2.1 dX10_back_22 rfl (lv_at hl 1 rfl) ?_
      refine lv_aload_n X.1 X.2.1 dX10_back_23 rfl (lv_at hl 0 rfl) ?_
      refine mm_rgr X I fl_X10_55 dX10_back_24 h (fun v3 h => ?_)
      refine lv_iload_n X.1 X.2.1 dX10_back_27 rfl (lv_at hl 1 rfl) ?_
      refine mm_ria X I dX10_back_28 h (fun v4 h => ?_)
      refine mm_ris X I dX10_back_29 h (fun M H locs I h => ?_)
      refine lv_iinc (v := (x1 + 1)) (lv' := [(1, .int (x1 + 1)), (0, .ref a0)]) X.1 X.2.1 dX10_back_30 hl (k := 1) rfl rfl (by decide) rfl (fun ls hl => ?_)
      refine lv_goto (tgt := 11) X.1 X.2.1 dX10_back_33 (by decide) ?_
      exact ih M _ _ _ _ _ I (lv_sub hl [1, 0] rfl) h
set_option maxHeartbeats 4000000 in
set_option maxRecDepth 100000 in
theorem kX10_back {l : Launch} {D : va_G} {dA : Nat → ClassId} {lo : Nat} {n : Nat} {M : mm_M} {a0 : Nat} (o : Int32 × mm_M) (h : pX10_back n M a0 = some o) : (∃ fs, M.2 a0 = some (mm_ob 10 fs)) ∧ mm_Met l D dA lo yX10_back cX10_back 2 (some .int) 3 63 0 0 [.ref a0] M (some (.int o.1)) o.2 := by
  unfold pX10_back at h
  obtain ⟨hob, h⟩ := mm_v_some h
  refine ⟨hob, mm_enter (by decide) (Nat.le_of_ble_eq_true rfl) (fun p e s m args below meth c ls X hr hlk hnm I hl => ?_)⟩
  have X : mm_C D dA lo cX10_back RX10 2 p s m args c := X
  have hl : lv_has ls 2 [(0, .ref a0)] := hl
  refine lv_aload_n X.1 X.2.1 dX10_back_0 rfl (lv_at hl 0 rfl) ?_
  refine mm_rgi X I fl_X10_156 dX10_back_1 h (fun v1 h => ?_)
  refine mm_jne (tgt := 9) X dX10_back_4 (by decide) h (fun h => ?_) (fun h => ?_)
  · refine lv_iconst (v := 0) X.1 X.2.1 dX10_back_9 (by decide) ?_
    refine lv_istore_n (lv' := [(1, .int 0), (0, .ref a0)]) X.1 X.2.1 dX10_back_10 rfl hl (by decide) rfl (fun ls hl => ?_)
    exact wpX10_back_l11 X hr hlk n  n M _ _ _ _ _ I (lv_sub hl [1, 0] rfl) h
  · refine lv_iconst (v := (-1)) X.1 X.2.1 dX10_back_7 (by decide) ?_
    exact mm_xi X I hr hlk dX10_back_8 h
set_option maxHeartbeats 4000000 in
set_option maxRecDepth 100000 in
theorem kX10_count {l : Launch} {D : va_G} {dA : Nat → ClassId} {lo : Nat} {n : Nat} {M : mm_M} {a0 : Nat} {x1 : Int32} (o : Int32 × mm_M) (h : pX10_count n M a0 x1 = some o) : (∃ fs, M.2 a0 = some (mm_ob 10 fs)) ∧ mm_Met l D dA lo yX10_count cX10_count 2 (some .int) 0 0 0 0 [.ref a0, .int x1] M (some (.int o.1)) o.2 := by
  unfold pX10_count at h
  obtain ⟨hob, h⟩ := mm_v_some h
  refine ⟨hob, mm_enter (by decide) (Nat.le_of_ble_eq_true rfl) (fun p e s m args below meth c ls X hr hlk hnm I hl => ?_)⟩
  have X : mm_C D dA lo cX10_count RX10 2 p s m args c := X
  have hl : lv_has ls 2 [(0, .ref a0), (1, .int x1)] := hl
  refine lv_iload_n X.1 X.2.1 dX10_count_0 rfl (lv_at hl 1 rfl) ?_
  by_cases z1_0 : x1 = 0
  · have h := mm_t z1_0 h
    refine lv_tableIn (tgt := 40) (off := 39) X.1 X.2.1 dX10_count_1 (by rw [z1_0]; decide) (by rw [z1_0]; decide) (by rw [z1_0]; rfl) (by decide) ?_
    refine lv_aload_n X.1 X.2.1 dX10_count_40 rfl (lv_at hl 0 rfl) ?_
    refine mm_rgr X I fl_X10_28 dX10_count_41 h (fun v2 h => ?_)
    refine lv_iconst (v := 0) X.1 X.2.1 dX10_count_44 (by decide) ?_
    refine mm_ria X I dX10_count_45 h (fun v3 h => ?_)
    exact mm_xi X I hr hlk dX10_count_46 h
  · have h := mm_f z1_0 h
    by_cases z1_1 : x1 = 1
    · have h := mm_t z1_1 h
      refine lv_tableIn (tgt := 47) (off := 46) X.1 X.2.1 dX10_count_1 (by rw [z1_1]; decide) (by rw [z1_1]; decide) (by rw [z1_1]; rfl) (by decide) ?_
      refine lv_aload_n X.1 X.2.1 dX10_count_47 rfl (lv_at hl 0 rfl) ?_
      refine mm_rgi X I fl_X10_163 dX10_count_48 h (fun v4 h => ?_)
      exact mm_xi X I hr hlk dX10_count_51 h
    · have h := mm_f z1_1 h
      by_cases z1_2 : x1 = 2
      · have h := mm_t z1_2 h
        refine lv_tableIn (tgt := 52) (off := 51) X.1 X.2.1 dX10_count_1 (by rw [z1_2]; decide) (by rw [z1_2]; decide) (by rw [z1_2]; rfl) (by decide) ?_
        refine lv_aload_n X.1 X.2.1 dX10_count_52 rfl (lv_at hl 0 rfl) ?_
        refine mm_rgi X I fl_X10_66 dX10_count_53 h (fun v5 h => ?_)
        exact mm_xi X I hr hlk dX10_count_56 h
      · have h := mm_f z1_2 h
        by_cases z1_3 : x1 = 3
        · have h := mm_t z1_3 h
          refine lv_tableIn (tgt := 57) (off := 56) X.1 X.2.1 dX10_count_1 (by rw [z1_3]; decide) (by rw [z1_3]; decide) (by rw [z1_3]; rfl) (by decide) ?_
          refine lv_aload_n X.1 X.2.1 dX10_count_57 rfl (lv_at hl 0 rfl) ?_
          refine mm_rgr X I fl_X10_28 dX10_count_58 h (fun v6 h => ?_)
          refine lv_sipush (v := 441) X.1 X.2.1 dX10_count_61 (by decide) ?_
          refine mm_ria X I dX10_count_64 h (fun v7 h => ?_)
          exact mm_xi X I hr hlk dX10_count_65 h
        · have h := mm_f z1_3 h
          by_cases z1_4 : x1 = 4
          · have h := mm_t z1_4 h
            refine lv_tableIn (tgt := 66) (off := 65) X.1 X.2.1 dX10_count_1 (by rw [z1_4]; decide) (by rw [z1_4]; decide) (by rw [z1_4]; rfl) (by decide) ?_
            refine lv_aload_n X.1 X.2.1 dX10_count_66 rfl (lv_at hl 0 rfl) ?_
            refine mm_rgi X I fl_X10_153 dX10_count_67 h (fun v8 h => ?_)
            exact mm_xi X I hr hlk dX10_count_70 h
          · have h := mm_f z1_4 h
            by_cases z1_5 : x1 = 5
            · have h := mm_t z1_5 h
              refine lv_tableIn (tgt := 71) (off := 70) X.1 X.2.1 dX10_count_1 (by rw [z1_5]; decide) (by rw [z1_5]; decide) (by rw [z1_5]; rfl) (by decide) ?_
              refine lv_aload_n X.1 X.2.1 dX10_count_71 rfl (lv_at hl 0 rfl) ?_
              refine mm_rgr X I fl_X10_28 dX10_count_72 h (fun v9 h => ?_)
              refine lv_iconst (v := 1) X.1 X.2.1 dX10_count_75 (by decide) ?_
              refine mm_ria X I dX10_count_76 h (fun v10 h => ?_)
              exact mm_xi X I hr hlk dX10_count_77 h
            · have h := mm_f z1_5 h
              have z1_q0 : ¬ Int32.toInt x1 = 0 := fun q => z1_0 (Int32.toInt_inj.mp q)
              have z1_q1 : ¬ Int32.toInt x1 = 1 := fun q => z1_1 (Int32.toInt_inj.mp q)
              have z1_q2 : ¬ Int32.toInt x1 = 2 := fun q => z1_2 (Int32.toInt_inj.mp q)
              have z1_q3 : ¬ Int32.toInt x1 = 3 := fun q => z1_3 (Int32.toInt_inj.mp q)
              have z1_q4 : ¬ Int32.toInt x1 = 4 := fun q => z1_4 (Int32.toInt_inj.mp q)
              have z1_q5 : ¬ Int32.toInt x1 = 5 := fun q => z1_5 (Int32.toInt_inj.mp q)
              refine mm_tdef (tgt := 78) X dX10_count_1 (by decide) (fun i hi hq => ?_) (by decide) ?_
              · rcases (show i = 0 ∨ i = 1 ∨ i = 2 ∨ i = 3 ∨ i = 4 ∨ i = 5 by simp at hi; omega) with rfl | rfl | rfl | rfl | rfl | rfl
                · exact absurd hq (by omega)
                · exact absurd hq (by omega)
                · exact absurd hq (by omega)
                · exact absurd hq (by omega)
                · exact absurd hq (by omega)
                · exact absurd hq (by omega)
              · refine lv_ldc (v := (-1000000)) X.1 X.2.1 X.2.2.2.1 (X.2.2.2.2.1 _ cn_X10_109) dX10_count_78 ?_
                exact mm_xi X I hr hlk dX10_count_80 h
