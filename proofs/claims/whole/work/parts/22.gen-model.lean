def w_X3_thrown  (σ0 : mS) (Q : Int32 → mS → Prop) : Prop := (Q (mI σ0 0 0) σ0)
set_option maxRecDepth 100000 in
set_option maxHeartbeats 4000000 in
theorem c_X3_thrown (l : Launch) (G : mG) (ad : Nat → Nat)  (σ0 : mS) (Q : Int32 → mS → Prop) (h : w_X3_thrown  σ0 Q) : mKi l yX3_thrown cX3_thrown 1 0 0 G kdM ad σ0 [mV ad (some 0)] Q := by
  refine mr_start (lst := [(0, mV ad (some 0))]) (by decide) (m_cR m_c0) rfl (Nat.le_of_ble_eq_true rfl) (fun p e s m below meth c C hM hr hlk ls hl => ?_)
  have hx := C.1.1
  have hb := C.1.2.1
  unfold w_X3_thrown at h
  refine mr_aload_n C dX3_thrown_0 rfl (ml_at hl 0 rfl) ?_
  refine fg_X3_86 C hM (mO_fix hM rfl (by decide) (by decide) (by decide)) dX3_thrown_1 ?_
  exact mr_iret C hM hr hlk h dX3_thrown_4
def w_X3_in (y0 : Int32) (y1 : Int32) (y2 : Int32) (σ0 : mS) (Q : Int32 → mS → Prop) : Prop := ((y0 < y1 → (Q (0 : Int32) σ0)) ∧ (¬ y0 < y1 → ((y2 < y0 → (Q (0 : Int32) σ0)) ∧ (¬ y2 < y0 → (Q (1 : Int32) σ0)))))
set_option maxRecDepth 100000 in
set_option maxHeartbeats 4000000 in
theorem c_X3_in (l : Launch) (G : mG) (ad : Nat → Nat) (y0 : Int32) (y1 : Int32) (y2 : Int32) (σ0 : mS) (Q : Int32 → mS → Prop) (h : w_X3_in y0 y1 y2 σ0 Q) : mKz l yX3_in cX3_in 3 0 0 G kdM ad σ0 [.int y0, .int y1, .int y2] Q := by
  refine mr_start (lst := [(0, .int y0), (1, .int y1), (2, .int y2)]) (by decide) (m_cI (m_cI (m_cI m_c0))) rfl (Nat.le_of_ble_eq_true rfl) (fun p e s m below meth c C hM hr hlk ls hl => ?_)
  have hx := C.1.1
  have hb := C.1.2.1
  unfold w_X3_in at h
  refine lv_iload_n hx hb dX3_in_0 rfl (ml_at hl 0 rfl) ?_
  refine lv_iload_n hx hb dX3_in_1 rfl (ml_at hl 1 rfl) ?_
  refine lv_icmp_lt (tgt := 14) hx hb dX3_in_2 (by decide) (fun hc1 => ?_) (fun hc1 => ?_)
  · replace h := h.1 hc1
    refine lv_iconst (v := 0) hx hb dX3_in_14 (by decide) ?_
    exact mr_zret C hM hr hlk rfl h dX3_in_15
  · replace h := h.2 hc1
    refine lv_iload_n hx hb dX3_in_5 rfl (ml_at hl 0 rfl) ?_
    refine lv_iload_n hx hb dX3_in_6 rfl (ml_at hl 2 rfl) ?_
    refine lv_icmp_gt (tgt := 14) hx hb dX3_in_7 (by decide) (fun hc2 => ?_) (fun hc2 => ?_)
    · replace h := h.1 hc2
      refine lv_iconst (v := 0) hx hb dX3_in_14 (by decide) ?_
      exact mr_zret C hM hr hlk rfl h dX3_in_15
    · replace h := h.2 hc2
      refine lv_iconst (v := 1) hx hb dX3_in_10 (by decide) ?_
      refine lv_goto (tgt := 15) hx hb dX3_in_11 (by decide) ?_
      exact mr_zret C hM hr hlk rfl h dX3_in_15
def w_X3_isService (y0 : Int32) (σ0 : mS) (Q : Int32 → mS → Prop) : Prop := w_X3_in y0 (0 : Int32) (5 : Int32) σ0 (fun x4 σ1 => (Q x4 σ1))
set_option maxRecDepth 100000 in
set_option maxHeartbeats 4000000 in
theorem c_X3_isService (l : Launch) (G : mG) (ad : Nat → Nat) (y0 : Int32) (σ0 : mS) (Q : Int32 → mS → Prop) (h : w_X3_isService y0 σ0 Q) : mKz l yX3_isService cX3_isService 1 1 22 G kdM ad σ0 [.int y0] Q := by
  refine mr_start (lst := [(0, .int y0)]) (by decide) (m_cI m_c0) rfl (Nat.le_of_ble_eq_true rfl) (fun p e s m below meth c C hM hr hlk ls hl => ?_)
  have hx := C.1.1
  have hb := C.1.2.1
  unfold w_X3_isService at h
  refine lv_iload_n hx hb dX3_isService_0 rfl (ml_at hl 0 rfl) ?_
  refine lv_iconst (v := 0) hx hb dX3_isService_1 (by decide) ?_
  refine lv_iconst (v := 5) hx hb dX3_isService_2 (by decide) ?_
  refine mr_ci hM (mr_runS (As := [.int y0, .int (0 : Int32), .int (5 : Int32)]) C hM hl.1.1 (c_X3_in l G ad y0 (0 : Int32) (5 : Int32) σ0 _ h) cw_X3_90 (n := 3) ⟨rfl, by decide, by decide, by decide +kernel⟩ rfl rfl ⟨Nat.le_of_ble_eq_true rfl, Nat.le_of_ble_eq_true rfl⟩ m_c0 (Nat.le_of_ble_eq_true rfl) dX3_isService_3 ⟨Nat.zero_le _, Nat.zero_le _⟩) (fun x4 σ1 H locs h2 hM3 => ?_)
  clear h hM
  obtain ⟨h2, hzx4⟩ := h2
  exact mr_zret C hM3 hr hlk hzx4 h2 dX3_isService_6
def w_X3_isCall (y1 : Int32) (σ0 : mS) (Q : Int32 → mS → Prop) : Prop := w_X3_in y1 (0 : Int32) ((mI σ0 0 13) - (1 : Int32)) σ0 (fun x4 σ1 => (Q x4 σ1))
set_option maxRecDepth 100000 in
set_option maxHeartbeats 4000000 in
theorem c_X3_isCall (l : Launch) (G : mG) (ad : Nat → Nat) (y1 : Int32) (σ0 : mS) (Q : Int32 → mS → Prop) (h : w_X3_isCall y1 σ0 Q) : mKz l yX3_isCall cX3_isCall 2 1 22 G kdM ad σ0 [mV ad (some 0), .int y1] Q := by
  refine mr_start (lst := [(0, mV ad (some 0)), (1, .int y1)]) (by decide) (m_cR (m_cI m_c0)) rfl (Nat.le_of_ble_eq_true rfl) (fun p e s m below meth c C hM hr hlk ls hl => ?_)
  have hx := C.1.1
  have hb := C.1.2.1
  unfold w_X3_isCall at h
  refine lv_iload_n hx hb dX3_isCall_0 rfl (ml_at hl 1 rfl) ?_
  refine lv_iconst (v := 0) hx hb dX3_isCall_1 (by decide) ?_
  refine mr_aload_n C dX3_isCall_2 rfl (ml_at hl 0 rfl) ?_
  refine fg_X3_94 C hM (mO_fix hM rfl (by decide) (by decide) (by decide)) dX3_isCall_3 ?_
  refine lv_iconst (v := 1) hx hb dX3_isCall_6 (by decide) ?_
  refine lv_isub hx hb dX3_isCall_7 ?_
  refine mr_ci hM (mr_runS (As := [.int y1, .int (0 : Int32), .int ((mI σ0 0 13) - (1 : Int32))]) C hM hl.1.1 (c_X3_in l G ad y1 (0 : Int32) ((mI σ0 0 13) - (1 : Int32)) σ0 _ h) cw_X3_90 (n := 3) ⟨rfl, by decide, by decide, by decide +kernel⟩ rfl rfl ⟨Nat.le_of_ble_eq_true rfl, Nat.le_of_ble_eq_true rfl⟩ m_c0 (Nat.le_of_ble_eq_true rfl) dX3_isCall_8 ⟨Nat.zero_le _, Nat.zero_le _⟩) (fun x4 σ1 H locs h2 hM3 => ?_)
  clear h hM
  obtain ⟨h2, hzx4⟩ := h2
  exact mr_zret C hM3 hr hlk hzx4 h2 dX3_isCall_11
def w_X3_setWork (y1 : Int32) (y2 : Int32) (y3 : Int32) (σ0 : mS) (Q : Int32 → mS → Prop) : Prop := w_X3_isService y1 σ0 (fun x4 σ1 => (∃ J37 : Int32 → mS → Prop, (∀ (xk0_37 : Int32) (σ_37 : mS), J37 xk0_37 σ_37 → (∀ σ6, σ6 = sI σ_37 0 0 xk0_37 → (((mI σ6 0 0) ≤ 0 → (∃ j8, y1 = nI j8 ∧ (j8 < 6 ∧ (∃ j11, y1 = nI j11 ∧ (j11 < 6 ∧ (∀ σ14, σ14 = sI σ6 1 j11 y2 → (∃ j15, y1 = nI j15 ∧ (j15 < 6 ∧ (∀ σ18, σ18 = sI σ14 2 j15 y3 → (∃ j19, y1 = nI j19 ∧ (j19 < 6 ∧ (∀ σ22, σ22 = sI σ18 3 j19 (0 : Int32) → (Q (mI σ6 1 j8) σ22))))))))))))) ∧ (¬ (mI σ6 0 0) ≤ 0 → (Q (0 : Int32) σ6))))) ∧ ((¬ x4 = 0 → w_X3_in y2 (1 : Int32) (20 : Int32) σ1 (fun x27 σ24 => (∃ J36 : mS → Prop, (∀  (σ_36 : mS), J36  σ_36 → (J37 (2 : Int32) σ_36)) ∧ ((x27 = 0 → (J36  σ24)) ∧ (¬ x27 = 0 → w_X3_in y3 (0 : Int32) (20 : Int32) σ24 (fun x32 σ29 => ((x32 = 0 → (J36  σ29)) ∧ (¬ x32 = 0 → (J37 (0 : Int32) σ29))))))))) ∧ (x4 = 0 → (J37 (1 : Int32) σ1)))))
set_option maxRecDepth 100000 in
set_option maxHeartbeats 4000000 in
theorem c_X3_setWork (l : Launch) (G : mG) (ad : Nat → Nat) (y1 : Int32) (y2 : Int32) (y3 : Int32) (σ0 : mS) (Q : Int32 → mS → Prop) (h : w_X3_setWork y1 y2 y3 σ0 Q) : mKi l yX3_setWork cX3_setWork 5 2 42 G kdM ad σ0 [mV ad (some 0), .int y1, .int y2, .int y3] Q := by
  refine mr_start (lst := [(0, mV ad (some 0)), (1, .int y1), (2, .int y2), (3, .int y3)]) (by decide) (m_cR (m_cI (m_cI (m_cI m_c0)))) rfl (Nat.le_of_ble_eq_true rfl) (fun p e s m below meth c C hM hr hlk ls hl => ?_)
  have hx := C.1.1
  have hb := C.1.2.1
  unfold w_X3_setWork at h
  refine mr_aload_n C dX3_setWork_0 rfl (ml_at hl 0 rfl) ?_
  refine lv_iload_n hx hb dX3_setWork_1 rfl (ml_at hl 1 rfl) ?_
  refine mr_ci hM (mr_runS (As := [.int y1]) C hM hl.1.1 (c_X3_isService l G ad y1 σ0 _ h) cw_X3_97 (n := 1) ⟨rfl, by decide, by decide, by decide +kernel⟩ rfl rfl ⟨Nat.le_of_ble_eq_true rfl, Nat.le_of_ble_eq_true rfl⟩ (m_cR m_c0) (Nat.le_of_ble_eq_true rfl) dX3_setWork_2 ⟨Nat.zero_le _, Nat.zero_le _⟩) (fun x4 σ1 H locs h2 hM3 => ?_)
  clear h hM
  obtain ⟨h2, hzx4⟩ := h2
  obtain ⟨J37, hJ37, h2⟩ := h2
  have hj37 : ∀ (xk0_37 : Int32) (σ_37 : mS) (H : Heap) (locs : List Loc) (ls : Array Slot), J37 xk0_37 σ_37 → mM G kdM ad s σ_37 H locs → ml_has ls 5 [(0, mV ad (some 0)), (1, .int y1), (2, .int y2), (3, .int y3)] → W p l e (mRm 2 42) s m ([mV ad (some 0), .int y1, .int y2, .int y3] : List Value).toArray below meth c H locs 0 0 (MQ below (va_Qi Q (mPost G kdM ad) (mA ad)) ([mV ad (some 0), .int y1, .int y2, .int y3] : List Value).toArray s 0 0 (mA ad)) (F0 m 37 ls [.int xk0_37, mV ad (some 0)]) := by
    intro xk0_37 σ_37 H locs ls h_37 hM_37 hl_37
    replace h_37 := hJ37 xk0_37 σ_37 h_37
    refine fp_X3_86 C hM_37 (mO_fix hM_37 rfl (by decide) (by decide) (by decide)) dX3_setWork_37 xk0_37 (fun H locs hM5 => ?_)
    clear hM_37
    obtain ⟨σ6, eσ6⟩ : ∃ y, y = sI σ_37 0 0 xk0_37 := ⟨_, rfl⟩
    rw [← eσ6] at hM5
    replace h_37 := h_37 σ6 eσ6
    refine mr_aload_n C dX3_setWork_40 rfl (ml_at hl_37 0 rfl) ?_
    refine fg_X3_86 C hM5 (mO_fix hM5 rfl (by decide) (by decide) (by decide)) dX3_setWork_41 ?_
    refine lv_if_le (tgt := 49) hx hb dX3_setWork_44 (by decide) (fun hc7 => ?_) (fun hc7 => ?_)
    · replace h_37 := h_37.1 hc7
      refine mr_aload_n C dX3_setWork_49 rfl (ml_at hl_37 0 rfl) ?_
      refine fg_X3_7 (i := 0) C hM5 (mO_fix hM5 rfl (by decide) (by decide) (by decide)) dX3_setWork_50 ?_
      refine lv_iload_n hx hb dX3_setWork_53 rfl (ml_at hl_37 1 rfl) ?_
      obtain ⟨j8, ej9, ej9b, h_37⟩ := h_37
      refine mr_iald C hM5 (mB_fix hM5 rfl (by decide) (by decide) (by decide)) ej9 ej9b (by decide) dX3_setWork_54 ?_
      refine mr_istore (lv' := [(4, .int (mI σ6 1 j8)), (0, mV ad (some 0)), (1, .int y1), (2, .int y2), (3, .int y3)]) C hl_37 dX3_setWork_55 (by decide) rfl (fun ls hl10 => ?_)
      clear hl_37
      refine mr_aload_n C dX3_setWork_57 rfl (ml_at hl10 1 rfl) ?_
      refine fg_X3_7 (i := 0) C hM5 (mO_fix hM5 rfl (by decide) (by decide) (by decide)) dX3_setWork_58 ?_
      refine lv_iload_n hx hb dX3_setWork_61 rfl (ml_at hl10 2 rfl) ?_
      refine lv_iload_n hx hb dX3_setWork_62 rfl (ml_at hl10 3 rfl) ?_
      obtain ⟨j11, ej12, ej12b, h_37⟩ := h_37
      refine mr_iast C hM5 (mB_fix hM5 rfl (by decide) (by decide) (by decide)) ej12 ej12b (by decide) dX3_setWork_63 (fun H locs hM13 => ?_)
      clear hM5
      obtain ⟨σ14, eσ14⟩ : ∃ y, y = sI σ6 1 j11 y2 := ⟨_, rfl⟩
      rw [← eσ14] at hM13
      replace h_37 := h_37 σ14 eσ14
      refine mr_aload_n C dX3_setWork_64 rfl (ml_at hl10 1 rfl) ?_
      refine fg_X3_13 (i := 0) C hM13 (mO_fix hM13 rfl (by decide) (by decide) (by decide)) dX3_setWork_65 ?_
      refine lv_iload_n hx hb dX3_setWork_68 rfl (ml_at hl10 2 rfl) ?_
      refine lv_iload_n hx hb dX3_setWork_69 rfl (ml_at hl10 4 rfl) ?_
      obtain ⟨j15, ej16, ej16b, h_37⟩ := h_37
      refine mr_iast C hM13 (mB_fix hM13 rfl (by decide) (by decide) (by decide)) ej16 ej16b (by decide) dX3_setWork_70 (fun H locs hM17 => ?_)
      clear hM13
      obtain ⟨σ18, eσ18⟩ : ∃ y, y = sI σ14 2 j15 y3 := ⟨_, rfl⟩
      rw [← eσ18] at hM17
      replace h_37 := h_37 σ18 eσ18
      refine mr_aload_n C dX3_setWork_71 rfl (ml_at hl10 1 rfl) ?_
      refine fg_X3_16 (i := 0) C hM17 (mO_fix hM17 rfl (by decide) (by decide) (by decide)) dX3_setWork_72 ?_
      refine lv_iload_n hx hb dX3_setWork_75 rfl (ml_at hl10 2 rfl) ?_
      refine lv_iconst (v := 0) hx hb dX3_setWork_76 (by decide) ?_
      obtain ⟨j19, ej20, ej20b, h_37⟩ := h_37
      refine mr_iast C hM17 (mB_fix hM17 rfl (by decide) (by decide) (by decide)) ej20 ej20b (by decide) dX3_setWork_77 (fun H locs hM21 => ?_)
      clear hM17
      obtain ⟨σ22, eσ22⟩ : ∃ y, y = sI σ18 3 j19 (0 : Int32) := ⟨_, rfl⟩
      rw [← eσ22] at hM21
      replace h_37 := h_37 σ22 eσ22
      refine lv_iload hx hb dX3_setWork_78 (ml_at hl10 0 rfl) ?_
      exact mr_iret C hM21 hr hlk h_37 dX3_setWork_80
    · replace h_37 := h_37.2 hc7
      refine lv_iconst (v := 0) hx hb dX3_setWork_47 (by decide) ?_
      exact mr_iret C hM5 hr hlk h_37 dX3_setWork_48
  refine lv_if_ne (tgt := 12) hx hb dX3_setWork_5 (by decide) (fun hc23 => ?_) (fun hc23 => ?_)
  · replace h2 := h2.1 hc23
    refine lv_iload_n hx hb dX3_setWork_12 rfl (ml_at hl 2 rfl) ?_
    refine lv_iconst (v := 1) hx hb dX3_setWork_13 (by decide) ?_
    refine lv_bipush (v := 20) hx hb dX3_setWork_14 (by decide) ?_
    refine mr_ci hM3 (mr_runS (As := [.int y2, .int (1 : Int32), .int (20 : Int32)]) C hM3 hl.1.1 (c_X3_in l G ad y2 (1 : Int32) (20 : Int32) σ1 _ h2) cw_X3_90 (n := 3) ⟨rfl, by decide, by decide, by decide +kernel⟩ rfl rfl ⟨Nat.le_of_ble_eq_true rfl, Nat.le_of_ble_eq_true rfl⟩ (m_cR m_c0) (Nat.le_of_ble_eq_true rfl) dX3_setWork_16 ⟨Nat.zero_le _, Nat.zero_le _⟩) (fun x27 σ24 H locs h25 hM26 => ?_)
    clear h2 hM3
    obtain ⟨h25, hzx27⟩ := h25
    obtain ⟨J36, hJ36, h25⟩ := h25
    have hj36 : ∀  (σ_36 : mS) (H : Heap) (locs : List Loc) (ls : Array Slot), J36  σ_36 → mM G kdM ad s σ_36 H locs → ml_has ls 5 [(0, mV ad (some 0)), (1, .int y1), (2, .int y2), (3, .int y3)] → W p l e (mRm 2 42) s m ([mV ad (some 0), .int y1, .int y2, .int y3] : List Value).toArray below meth c H locs 0 0 (MQ below (va_Qi Q (mPost G kdM ad) (mA ad)) ([mV ad (some 0), .int y1, .int y2, .int y3] : List Value).toArray s 0 0 (mA ad)) (F0 m 36 ls [mV ad (some 0)]) := by
      intro  σ_36 H locs ls h_36 hM_36 hl_36
      replace h_36 := hJ36  σ_36 h_36
      refine lv_iconst (v := 2) hx hb dX3_setWork_36 (by decide) ?_
      exact hj37 (2 : Int32) σ_36 _ _ _ h_36 hM_36 (ml_sub hl_36 [0, 1, 2, 3] rfl)
    refine lv_if_eq (tgt := 36) hx hb dX3_setWork_19 (by decide) (fun hc28 => ?_) (fun hc28 => ?_)
    · replace h25 := h25.1 hc28
      exact hj36  σ24 _ _ _ h25 hM26 (ml_sub hl [0, 1, 2, 3] rfl)
    · replace h25 := h25.2 hc28
      refine lv_iload_n hx hb dX3_setWork_22 rfl (ml_at hl 3 rfl) ?_
      refine lv_iconst (v := 0) hx hb dX3_setWork_23 (by decide) ?_
      refine lv_bipush (v := 20) hx hb dX3_setWork_24 (by decide) ?_
      refine mr_ci hM26 (mr_runS (As := [.int y3, .int (0 : Int32), .int (20 : Int32)]) C hM26 hl.1.1 (c_X3_in l G ad y3 (0 : Int32) (20 : Int32) σ24 _ h25) cw_X3_90 (n := 3) ⟨rfl, by decide, by decide, by decide +kernel⟩ rfl rfl ⟨Nat.le_of_ble_eq_true rfl, Nat.le_of_ble_eq_true rfl⟩ (m_cR m_c0) (Nat.le_of_ble_eq_true rfl) dX3_setWork_26 ⟨Nat.zero_le _, Nat.zero_le _⟩) (fun x32 σ29 H locs h30 hM31 => ?_)
      clear h25 hM26
      obtain ⟨h30, hzx32⟩ := h30
      refine lv_if_eq (tgt := 36) hx hb dX3_setWork_29 (by decide) (fun hc33 => ?_) (fun hc33 => ?_)
      · replace h30 := h30.1 hc33
        exact hj36  σ29 _ _ _ h30 hM31 (ml_sub hl [0, 1, 2, 3] rfl)
      · replace h30 := h30.2 hc33
        refine lv_iconst (v := 0) hx hb dX3_setWork_32 (by decide) ?_
        refine lv_goto (tgt := 37) hx hb dX3_setWork_33 (by decide) ?_
        exact hj37 (0 : Int32) σ29 _ _ _ h30 hM31 (ml_sub hl [0, 1, 2, 3] rfl)
  · replace h2 := h2.2 hc23
    refine lv_iconst (v := 1) hx hb dX3_setWork_8 (by decide) ?_
    refine lv_goto (tgt := 37) hx hb dX3_setWork_9 (by decide) ?_
    exact hj37 (1 : Int32) σ1 _ _ _ h2 hM3 (ml_sub hl [0, 1, 2, 3] rfl)
def w_X3_ask (y1 : Int32) (y2 : Int32) (σ0 : mS) (Q : Int32 → mS → Prop) : Prop := w_X3_isService y1 σ0 (fun x4 σ1 => (∃ J43 : Int32 → mS → Prop, (∀ (xk0_43 : Int32) (σ_43 : mS), J43 xk0_43 σ_43 → (∀ σ6, σ6 = sI σ_43 0 0 xk0_43 → (((mI σ6 0 0) ≤ 0 → (∃ j8, y1 = nI j8 ∧ (j8 < 6 ∧ (∃ j10, (((3 : Int32) * y1) + (mI σ6 4 j8)) = nI j10 ∧ (j10 < 18 ∧ (∀ σ13, σ13 = sI σ6 5 j10 y2 → (∃ j14, y1 = nI j14 ∧ (j14 < 6 ∧ (∃ j16, y1 = nI j16 ∧ (j16 < 6 ∧ (∀ σ19, σ19 = sI σ13 4 j16 ((mI σ13 4 j14) + (1 : Int32)) → (∃ j20, y1 = nI j20 ∧ (j20 < 6 ∧ (Q (mI σ19 4 j20) σ19)))))))))))))) ∧ (¬ (mI σ6 0 0) ≤ 0 → (Q (0 : Int32) σ6))))) ∧ (∃ J15 : mS → Prop, (∀  (σ_15 : mS), J15  σ_15 → (J43 (1 : Int32) σ_15)) ∧ ((x4 = 0 → (J15  σ1)) ∧ (¬ x4 = 0 → w_X3_isService y2 σ1 (fun x26 σ23 => ((¬ x26 = 0 → ((y1 < y2 → (∃ j29, y1 = nI j29 ∧ (j29 < 6 ∧ ((¬ (mI σ23 4 j29) = (3 : Int32) → (J43 (0 : Int32) σ23)) ∧ ((mI σ23 4 j29) = (3 : Int32) → (J43 (3 : Int32) σ23)))))) ∧ (¬ y1 < y2 → (J43 (2 : Int32) σ23)))) ∧ (x26 = 0 → (J15  σ23)))))))))
set_option maxRecDepth 100000 in
set_option maxHeartbeats 4000000 in
theorem c_X3_ask (l : Launch) (G : mG) (ad : Nat → Nat) (y1 : Int32) (y2 : Int32) (σ0 : mS) (Q : Int32 → mS → Prop) (h : w_X3_ask y1 y2 σ0 Q) : mKi l yX3_ask cX3_ask 3 2 42 G kdM ad σ0 [mV ad (some 0), .int y1, .int y2] Q := by
  refine mr_start (lst := [(0, mV ad (some 0)), (1, .int y1), (2, .int y2)]) (by decide) (m_cR (m_cI (m_cI m_c0))) rfl (Nat.le_of_ble_eq_true rfl) (fun p e s m below meth c C hM hr hlk ls hl => ?_)
  have hx := C.1.1
  have hb := C.1.2.1
  unfold w_X3_ask at h
  refine mr_aload_n C dX3_ask_0 rfl (ml_at hl 0 rfl) ?_
  refine lv_iload_n hx hb dX3_ask_1 rfl (ml_at hl 1 rfl) ?_
  refine mr_ci hM (mr_runS (As := [.int y1]) C hM hl.1.1 (c_X3_isService l G ad y1 σ0 _ h) cw_X3_97 (n := 1) ⟨rfl, by decide, by decide, by decide +kernel⟩ rfl rfl ⟨Nat.le_of_ble_eq_true rfl, Nat.le_of_ble_eq_true rfl⟩ (m_cR m_c0) (Nat.le_of_ble_eq_true rfl) dX3_ask_2 ⟨Nat.zero_le _, Nat.zero_le _⟩) (fun x4 σ1 H locs h2 hM3 => ?_)
  clear h hM
  obtain ⟨h2, hzx4⟩ := h2
  obtain ⟨J43, hJ43, h2⟩ := h2
  have hj43 : ∀ (xk0_43 : Int32) (σ_43 : mS) (H : Heap) (locs : List Loc) (ls : Array Slot), J43 xk0_43 σ_43 → mM G kdM ad s σ_43 H locs → ml_has ls 3 [(0, mV ad (some 0)), (1, .int y1), (2, .int y2)] → W p l e (mRm 2 42) s m ([mV ad (some 0), .int y1, .int y2] : List Value).toArray below meth c H locs 0 0 (MQ below (va_Qi Q (mPost G kdM ad) (mA ad)) ([mV ad (some 0), .int y1, .int y2] : List Value).toArray s 0 0 (mA ad)) (F0 m 43 ls [.int xk0_43, mV ad (some 0)]) := by
    intro xk0_43 σ_43 H locs ls h_43 hM_43 hl_43
    replace h_43 := hJ43 xk0_43 σ_43 h_43
    refine fp_X3_86 C hM_43 (mO_fix hM_43 rfl (by decide) (by decide) (by decide)) dX3_ask_43 xk0_43 (fun H locs hM5 => ?_)
    clear hM_43
    obtain ⟨σ6, eσ6⟩ : ∃ y, y = sI σ_43 0 0 xk0_43 := ⟨_, rfl⟩
    rw [← eσ6] at hM5
    replace h_43 := h_43 σ6 eσ6
    refine mr_aload_n C dX3_ask_46 rfl (ml_at hl_43 0 rfl) ?_
    refine fg_X3_86 C hM5 (mO_fix hM5 rfl (by decide) (by decide) (by decide)) dX3_ask_47 ?_
    refine lv_if_le (tgt := 55) hx hb dX3_ask_50 (by decide) (fun hc7 => ?_) (fun hc7 => ?_)
    · replace h_43 := h_43.1 hc7
      refine mr_aload_n C dX3_ask_55 rfl (ml_at hl_43 0 rfl) ?_
      refine fg_X3_22 (i := 0) C hM5 (mO_fix hM5 rfl (by decide) (by decide) (by decide)) dX3_ask_56 ?_
      refine lv_iconst (v := 3) hx hb dX3_ask_59 (by decide) ?_
      refine lv_iload_n hx hb dX3_ask_60 rfl (ml_at hl_43 1 rfl) ?_
      refine lv_imul hx hb dX3_ask_61 ?_
      refine mr_aload_n C dX3_ask_62 rfl (ml_at hl_43 0 rfl) ?_
      refine fg_X3_19 (i := 0) C hM5 (mO_fix hM5 rfl (by decide) (by decide) (by decide)) dX3_ask_63 ?_
      refine lv_iload_n hx hb dX3_ask_66 rfl (ml_at hl_43 1 rfl) ?_
      obtain ⟨j8, ej9, ej9b, h_43⟩ := h_43
      refine mr_iald C hM5 (mB_fix hM5 rfl (by decide) (by decide) (by decide)) ej9 ej9b (by decide) dX3_ask_67 ?_
      refine lv_iadd hx hb dX3_ask_68 ?_
      refine lv_iload_n hx hb dX3_ask_69 rfl (ml_at hl_43 2 rfl) ?_
      obtain ⟨j10, ej11, ej11b, h_43⟩ := h_43
      refine mr_iast C hM5 (mB_fix hM5 rfl (by decide) (by decide) (by decide)) ej11 ej11b (by decide) dX3_ask_70 (fun H locs hM12 => ?_)
      clear hM5
      obtain ⟨σ13, eσ13⟩ : ∃ y, y = sI σ6 5 j10 y2 := ⟨_, rfl⟩
      rw [← eσ13] at hM12
      replace h_43 := h_43 σ13 eσ13
      refine mr_aload_n C dX3_ask_71 rfl (ml_at hl_43 0 rfl) ?_
      refine fg_X3_19 (i := 0) C hM12 (mO_fix hM12 rfl (by decide) (by decide) (by decide)) dX3_ask_72 ?_
      refine lv_iload_n hx hb dX3_ask_75 rfl (ml_at hl_43 1 rfl) ?_
      refine lv_dup2_11 hx hb dX3_ask_76 rfl (mV_cat _ _) ?_
      obtain ⟨j14, ej15, ej15b, h_43⟩ := h_43
      refine mr_iald C hM12 (mB_fix hM12 rfl (by decide) (by decide) (by decide)) ej15 ej15b (by decide) dX3_ask_77 ?_
      refine lv_iconst (v := 1) hx hb dX3_ask_78 (by decide) ?_
      refine lv_iadd hx hb dX3_ask_79 ?_
      obtain ⟨j16, ej17, ej17b, h_43⟩ := h_43
      refine mr_iast C hM12 (mB_fix hM12 rfl (by decide) (by decide) (by decide)) ej17 ej17b (by decide) dX3_ask_80 (fun H locs hM18 => ?_)
      clear hM12
      obtain ⟨σ19, eσ19⟩ : ∃ y, y = sI σ13 4 j16 ((mI σ13 4 j14) + (1 : Int32)) := ⟨_, rfl⟩
      rw [← eσ19] at hM18
      replace h_43 := h_43 σ19 eσ19
      refine mr_aload_n C dX3_ask_81 rfl (ml_at hl_43 0 rfl) ?_
      refine fg_X3_19 (i := 0) C hM18 (mO_fix hM18 rfl (by decide) (by decide) (by decide)) dX3_ask_82 ?_
      refine lv_iload_n hx hb dX3_ask_85 rfl (ml_at hl_43 1 rfl) ?_
      obtain ⟨j20, ej21, ej21b, h_43⟩ := h_43
      refine mr_iald C hM18 (mB_fix hM18 rfl (by decide) (by decide) (by decide)) ej21 ej21b (by decide) dX3_ask_86 ?_
      exact mr_iret C hM18 hr hlk h_43 dX3_ask_87
    · replace h_43 := h_43.2 hc7
      refine lv_iconst (v := 0) hx hb dX3_ask_53 (by decide) ?_
      exact mr_iret C hM5 hr hlk h_43 dX3_ask_54
  obtain ⟨J15, hJ15, h2⟩ := h2
  have hj15 : ∀  (σ_15 : mS) (H : Heap) (locs : List Loc) (ls : Array Slot), J15  σ_15 → mM G kdM ad s σ_15 H locs → ml_has ls 3 [(0, mV ad (some 0)), (1, .int y1), (2, .int y2)] → W p l e (mRm 2 42) s m ([mV ad (some 0), .int y1, .int y2] : List Value).toArray below meth c H locs 0 0 (MQ below (va_Qi Q (mPost G kdM ad) (mA ad)) ([mV ad (some 0), .int y1, .int y2] : List Value).toArray s 0 0 (mA ad)) (F0 m 15 ls [mV ad (some 0)]) := by
    intro  σ_15 H locs ls h_15 hM_15 hl_15
    replace h_15 := hJ15  σ_15 h_15
    refine lv_iconst (v := 1) hx hb dX3_ask_15 (by decide) ?_
    refine lv_goto (tgt := 43) hx hb dX3_ask_16 (by decide) ?_
    exact hj43 (1 : Int32) σ_15 _ _ _ h_15 hM_15 (ml_sub hl_15 [0, 1, 2] rfl)
  refine lv_if_eq (tgt := 15) hx hb dX3_ask_5 (by decide) (fun hc22 => ?_) (fun hc22 => ?_)
  · replace h2 := h2.1 hc22
    exact hj15  σ1 _ _ _ h2 hM3 (ml_sub hl [0, 1, 2] rfl)
  · replace h2 := h2.2 hc22
    refine lv_iload_n hx hb dX3_ask_8 rfl (ml_at hl 2 rfl) ?_
    refine mr_ci hM3 (mr_runS (As := [.int y2]) C hM3 hl.1.1 (c_X3_isService l G ad y2 σ1 _ h2) cw_X3_97 (n := 1) ⟨rfl, by decide, by decide, by decide +kernel⟩ rfl rfl ⟨Nat.le_of_ble_eq_true rfl, Nat.le_of_ble_eq_true rfl⟩ (m_cR m_c0) (Nat.le_of_ble_eq_true rfl) dX3_ask_9 ⟨Nat.zero_le _, Nat.zero_le _⟩) (fun x26 σ23 H locs h24 hM25 => ?_)
    clear h2 hM3
    obtain ⟨h24, hzx26⟩ := h24
    refine lv_if_ne (tgt := 19) hx hb dX3_ask_12 (by decide) (fun hc27 => ?_) (fun hc27 => ?_)
    · replace h24 := h24.1 hc27
      refine lv_iload_n hx hb dX3_ask_19 rfl (ml_at hl 2 rfl) ?_
      refine lv_iload_n hx hb dX3_ask_20 rfl (ml_at hl 1 rfl) ?_
      refine lv_icmp_gt (tgt := 28) hx hb dX3_ask_21 (by decide) (fun hc28 => ?_) (fun hc28 => ?_)
      · replace h24 := h24.1 hc28
        refine mr_aload_n C dX3_ask_28 rfl (ml_at hl 0 rfl) ?_
        refine fg_X3_19 (i := 0) C hM25 (mO_fix hM25 rfl (by decide) (by decide) (by decide)) dX3_ask_29 ?_
        refine lv_iload_n hx hb dX3_ask_32 rfl (ml_at hl 1 rfl) ?_
        obtain ⟨j29, ej30, ej30b, h24⟩ := h24
        refine mr_iald C hM25 (mB_fix hM25 rfl (by decide) (by decide) (by decide)) ej30 ej30b (by decide) dX3_ask_33 ?_
        refine lv_iconst (v := 3) hx hb dX3_ask_34 (by decide) ?_
        refine lv_icmp_ne (tgt := 42) hx hb dX3_ask_35 (by decide) (fun hc31 => ?_) (fun hc31 => ?_)
        · replace h24 := h24.1 hc31
          refine lv_iconst (v := 0) hx hb dX3_ask_42 (by decide) ?_
          exact hj43 (0 : Int32) σ23 _ _ _ h24 hM25 (ml_sub hl [0, 1, 2] rfl)
        · replace h24 := h24.2 hc31
          refine lv_iconst (v := 3) hx hb dX3_ask_38 (by decide) ?_
          refine lv_goto (tgt := 43) hx hb dX3_ask_39 (by decide) ?_
          exact hj43 (3 : Int32) σ23 _ _ _ h24 hM25 (ml_sub hl [0, 1, 2] rfl)
      · replace h24 := h24.2 hc28
        refine lv_iconst (v := 2) hx hb dX3_ask_24 (by decide) ?_
        refine lv_goto (tgt := 43) hx hb dX3_ask_25 (by decide) ?_
        exact hj43 (2 : Int32) σ23 _ _ _ h24 hM25 (ml_sub hl [0, 1, 2] rfl)
    · replace h24 := h24.2 hc27
      exact hj15  σ23 _ _ _ h24 hM25 (ml_sub hl [0, 1, 2] rfl)
def w_X3_setRoom (y1 : Int32) (y2 : Int32) (y3 : Int32) (y4 : Int32) (σ0 : mS) (Q : Int32 → mS → Prop) : Prop := w_X3_in y2 (1 : Int32) (5 : Int32) σ0 (fun x4 σ1 => (∃ J35 : Int32 → mS → Prop, (∀ (xk0_35 : Int32) (σ_35 : mS), J35 xk0_35 σ_35 → w_X3_isService y1 σ_35 (fun x9 σ6 => (∃ J59 : Int32 → mS → Prop, (∀ (xk0_59 : Int32) (σ_59 : mS), J59 xk0_59 σ_59 → (∀ σ11, σ11 = sI σ_59 0 0 xk0_59 → (((mI σ11 0 0) ≤ 0 → (∃ j13, y1 = nI j13 ∧ (j13 < 6 ∧ (∃ j16, y1 = nI j16 ∧ (j16 < 6 ∧ (∀ σ19, σ19 = sI σ11 6 j16 y2 → (∃ j20, y1 = nI j20 ∧ (j20 < 6 ∧ (∀ σ23, σ23 = sI σ19 7 j20 y3 → (∃ j24, y1 = nI j24 ∧ (j24 < 6 ∧ (∀ σ27, σ27 = sI σ23 8 j24 y4 → (Q (mI σ11 6 j13) σ27))))))))))))) ∧ (¬ (mI σ11 0 0) ≤ 0 → (Q (0 : Int32) σ11))))) ∧ ((¬ x9 = 0 → ((xk0_35 = 0 → (J59 (2 : Int32) σ6)) ∧ (¬ xk0_35 = 0 → (J59 (0 : Int32) σ6)))) ∧ (x9 = 0 → (J59 (1 : Int32) σ6)))))) ∧ (∃ J34 : mS → Prop, (∀  (σ_34 : mS), J34  σ_34 → (J35 (0 : Int32) σ_34)) ∧ ((x4 = 0 → (J34  σ1)) ∧ (¬ x4 = 0 → w_X3_in y3 (0 : Int32) (8 : Int32) σ1 (fun x34 σ31 => ((x34 = 0 → (J34  σ31)) ∧ (¬ x34 = 0 → w_X3_in y4 (0 : Int32) (50 : Int32) σ31 (fun x39 σ36 => ((x39 = 0 → (J34  σ36)) ∧ (¬ x39 = 0 → (J35 (1 : Int32) σ36))))))))))))
set_option maxRecDepth 100000 in
set_option maxHeartbeats 4000000 in
theorem c_X3_setRoom (l : Launch) (G : mG) (ad : Nat → Nat) (y1 : Int32) (y2 : Int32) (y3 : Int32) (y4 : Int32) (σ0 : mS) (Q : Int32 → mS → Prop) (h : w_X3_setRoom y1 y2 y3 y4 σ0 Q) : mKi l yX3_setRoom cX3_setRoom 7 2 42 G kdM ad σ0 [mV ad (some 0), .int y1, .int y2, .int y3, .int y4] Q := by
  refine mr_start (lst := [(0, mV ad (some 0)), (1, .int y1), (2, .int y2), (3, .int y3), (4, .int y4)]) (by decide) (m_cR (m_cI (m_cI (m_cI (m_cI m_c0))))) rfl (Nat.le_of_ble_eq_true rfl) (fun p e s m below meth c C hM hr hlk ls hl => ?_)
  have hx := C.1.1
  have hb := C.1.2.1
  unfold w_X3_setRoom at h
  refine lv_iload_n hx hb dX3_setRoom_0 rfl (ml_at hl 2 rfl) ?_
  refine lv_iconst (v := 1) hx hb dX3_setRoom_1 (by decide) ?_
  refine lv_iconst (v := 5) hx hb dX3_setRoom_2 (by decide) ?_
  refine mr_ci hM (mr_runS (As := [.int y2, .int (1 : Int32), .int (5 : Int32)]) C hM hl.1.1 (c_X3_in l G ad y2 (1 : Int32) (5 : Int32) σ0 _ h) cw_X3_90 (n := 3) ⟨rfl, by decide, by decide, by decide +kernel⟩ rfl rfl ⟨Nat.le_of_ble_eq_true rfl, Nat.le_of_ble_eq_true rfl⟩ m_c0 (Nat.le_of_ble_eq_true rfl) dX3_setRoom_3 ⟨Nat.zero_le _, Nat.zero_le _⟩) (fun x4 σ1 H locs h2 hM3 => ?_)
  clear h hM
  obtain ⟨h2, hzx4⟩ := h2
  obtain ⟨J35, hJ35, h2⟩ := h2
  have hj35 : ∀ (xk0_35 : Int32) (σ_35 : mS) (H : Heap) (locs : List Loc) (ls : Array Slot), J35 xk0_35 σ_35 → mM G kdM ad s σ_35 H locs → ml_has ls 7 [(0, mV ad (some 0)), (1, .int y1), (2, .int y2), (3, .int y3), (4, .int y4)] → W p l e (mRm 2 42) s m ([mV ad (some 0), .int y1, .int y2, .int y3, .int y4] : List Value).toArray below meth c H locs 0 0 (MQ below (va_Qi Q (mPost G kdM ad) (mA ad)) ([mV ad (some 0), .int y1, .int y2, .int y3, .int y4] : List Value).toArray s 0 0 (mA ad)) (F0 m 35 ls [.int xk0_35]) := by
    intro xk0_35 σ_35 H locs ls h_35 hM_35 hl_35
    replace h_35 := hJ35 xk0_35 σ_35 h_35
    refine mr_istore (lv' := [(5, .int xk0_35), (0, mV ad (some 0)), (1, .int y1), (2, .int y2), (3, .int y3), (4, .int y4)]) C hl_35 dX3_setRoom_35 (by decide) rfl (fun ls hl5 => ?_)
    clear hl_35
    refine mr_aload_n C dX3_setRoom_37 rfl (ml_at hl5 1 rfl) ?_
    refine lv_iload_n hx hb dX3_setRoom_38 rfl (ml_at hl5 2 rfl) ?_
    refine mr_ci hM_35 (mr_runS (As := [.int y1]) C hM_35 hl5.1.1 (c_X3_isService l G ad y1 σ_35 _ h_35) cw_X3_97 (n := 1) ⟨rfl, by decide, by decide, by decide +kernel⟩ rfl rfl ⟨Nat.le_of_ble_eq_true rfl, Nat.le_of_ble_eq_true rfl⟩ (m_cR m_c0) (Nat.le_of_ble_eq_true rfl) dX3_setRoom_39 ⟨Nat.zero_le _, Nat.zero_le _⟩) (fun x9 σ6 H locs h7 hM8 => ?_)
    clear h_35 hM_35
    obtain ⟨h7, hzx9⟩ := h7
    obtain ⟨J59, hJ59, h7⟩ := h7
    have hj59 : ∀ (xk0_59 : Int32) (σ_59 : mS) (H : Heap) (locs : List Loc) (ls : Array Slot), J59 xk0_59 σ_59 → mM G kdM ad s σ_59 H locs → ml_has ls 7 [(0, mV ad (some 0)), (1, .int y1), (2, .int y2), (3, .int y3), (4, .int y4)] → W p l e (mRm 2 42) s m ([mV ad (some 0), .int y1, .int y2, .int y3, .int y4] : List Value).toArray below meth c H locs 0 0 (MQ below (va_Qi Q (mPost G kdM ad) (mA ad)) ([mV ad (some 0), .int y1, .int y2, .int y3, .int y4] : List Value).toArray s 0 0 (mA ad)) (F0 m 59 ls [.int xk0_59, mV ad (some 0)]) := by
      intro xk0_59 σ_59 H locs ls h_59 hM_59 hl_59
      replace h_59 := hJ59 xk0_59 σ_59 h_59
      refine fp_X3_86 C hM_59 (mO_fix hM_59 rfl (by decide) (by decide) (by decide)) dX3_setRoom_59 xk0_59 (fun H locs hM10 => ?_)
      clear hM_59
      obtain ⟨σ11, eσ11⟩ : ∃ y, y = sI σ_59 0 0 xk0_59 := ⟨_, rfl⟩
      rw [← eσ11] at hM10
      replace h_59 := h_59 σ11 eσ11
      refine mr_aload_n C dX3_setRoom_62 rfl (ml_at hl_59 0 rfl) ?_
      refine fg_X3_86 C hM10 (mO_fix hM10 rfl (by decide) (by decide) (by decide)) dX3_setRoom_63 ?_
      refine lv_if_le (tgt := 71) hx hb dX3_setRoom_66 (by decide) (fun hc12 => ?_) (fun hc12 => ?_)
      · replace h_59 := h_59.1 hc12
        refine mr_aload_n C dX3_setRoom_71 rfl (ml_at hl_59 0 rfl) ?_
        refine fg_X3_25 (i := 0) C hM10 (mO_fix hM10 rfl (by decide) (by decide) (by decide)) dX3_setRoom_72 ?_
        refine lv_iload_n hx hb dX3_setRoom_75 rfl (ml_at hl_59 1 rfl) ?_
        obtain ⟨j13, ej14, ej14b, h_59⟩ := h_59
        refine mr_iald C hM10 (mB_fix hM10 rfl (by decide) (by decide) (by decide)) ej14 ej14b (by decide) dX3_setRoom_76 ?_
        refine mr_istore (lv' := [(6, .int (mI σ11 6 j13)), (0, mV ad (some 0)), (1, .int y1), (2, .int y2), (3, .int y3), (4, .int y4)]) C hl_59 dX3_setRoom_77 (by decide) rfl (fun ls hl15 => ?_)
        clear hl_59
        refine mr_aload_n C dX3_setRoom_79 rfl (ml_at hl15 1 rfl) ?_
        refine fg_X3_25 (i := 0) C hM10 (mO_fix hM10 rfl (by decide) (by decide) (by decide)) dX3_setRoom_80 ?_
        refine lv_iload_n hx hb dX3_setRoom_83 rfl (ml_at hl15 2 rfl) ?_
        refine lv_iload_n hx hb dX3_setRoom_84 rfl (ml_at hl15 3 rfl) ?_
        obtain ⟨j16, ej17, ej17b, h_59⟩ := h_59
        refine mr_iast C hM10 (mB_fix hM10 rfl (by decide) (by decide) (by decide)) ej17 ej17b (by decide) dX3_setRoom_85 (fun H locs hM18 => ?_)
        clear hM10
        obtain ⟨σ19, eσ19⟩ : ∃ y, y = sI σ11 6 j16 y2 := ⟨_, rfl⟩
        rw [← eσ19] at hM18
        replace h_59 := h_59 σ19 eσ19
        refine mr_aload_n C dX3_setRoom_86 rfl (ml_at hl15 1 rfl) ?_
        refine fg_X3_28 (i := 0) C hM18 (mO_fix hM18 rfl (by decide) (by decide) (by decide)) dX3_setRoom_87 ?_
        refine lv_iload_n hx hb dX3_setRoom_90 rfl (ml_at hl15 2 rfl) ?_
        refine lv_iload_n hx hb dX3_setRoom_91 rfl (ml_at hl15 4 rfl) ?_
        obtain ⟨j20, ej21, ej21b, h_59⟩ := h_59
        refine mr_iast C hM18 (mB_fix hM18 rfl (by decide) (by decide) (by decide)) ej21 ej21b (by decide) dX3_setRoom_92 (fun H locs hM22 => ?_)
        clear hM18
        obtain ⟨σ23, eσ23⟩ : ∃ y, y = sI σ19 7 j20 y3 := ⟨_, rfl⟩
        rw [← eσ23] at hM22
        replace h_59 := h_59 σ23 eσ23
        refine mr_aload_n C dX3_setRoom_93 rfl (ml_at hl15 1 rfl) ?_
        refine fg_X3_31 (i := 0) C hM22 (mO_fix hM22 rfl (by decide) (by decide) (by decide)) dX3_setRoom_94 ?_
        refine lv_iload_n hx hb dX3_setRoom_97 rfl (ml_at hl15 2 rfl) ?_
        refine lv_iload hx hb dX3_setRoom_98 (ml_at hl15 5 rfl) ?_
        obtain ⟨j24, ej25, ej25b, h_59⟩ := h_59
        refine mr_iast C hM22 (mB_fix hM22 rfl (by decide) (by decide) (by decide)) ej25 ej25b (by decide) dX3_setRoom_100 (fun H locs hM26 => ?_)
        clear hM22
        obtain ⟨σ27, eσ27⟩ : ∃ y, y = sI σ23 8 j24 y4 := ⟨_, rfl⟩
        rw [← eσ27] at hM26
        replace h_59 := h_59 σ27 eσ27
        refine lv_iload hx hb dX3_setRoom_101 (ml_at hl15 0 rfl) ?_
        exact mr_iret C hM26 hr hlk h_59 dX3_setRoom_103
      · replace h_59 := h_59.2 hc12
        refine lv_iconst (v := 0) hx hb dX3_setRoom_69 (by decide) ?_
        exact mr_iret C hM10 hr hlk h_59 dX3_setRoom_70
    refine lv_if_ne (tgt := 49) hx hb dX3_setRoom_42 (by decide) (fun hc28 => ?_) (fun hc28 => ?_)
    · replace h7 := h7.1 hc28
      refine lv_iload hx hb dX3_setRoom_49 (ml_at hl5 0 rfl) ?_
      refine lv_if_eq (tgt := 58) hx hb dX3_setRoom_51 (by decide) (fun hc29 => ?_) (fun hc29 => ?_)
      · replace h7 := h7.1 hc29
        refine lv_iconst (v := 2) hx hb dX3_setRoom_58 (by decide) ?_
        exact hj59 (2 : Int32) σ6 _ _ _ h7 hM8 (ml_sub hl5 [1, 2, 3, 4, 5] rfl)
      · replace h7 := h7.2 hc29
        refine lv_iconst (v := 0) hx hb dX3_setRoom_54 (by decide) ?_
        refine lv_goto (tgt := 59) hx hb dX3_setRoom_55 (by decide) ?_
        exact hj59 (0 : Int32) σ6 _ _ _ h7 hM8 (ml_sub hl5 [1, 2, 3, 4, 5] rfl)
    · replace h7 := h7.2 hc28
      refine lv_iconst (v := 1) hx hb dX3_setRoom_45 (by decide) ?_
      refine lv_goto (tgt := 59) hx hb dX3_setRoom_46 (by decide) ?_
      exact hj59 (1 : Int32) σ6 _ _ _ h7 hM8 (ml_sub hl5 [1, 2, 3, 4, 5] rfl)
  obtain ⟨J34, hJ34, h2⟩ := h2
  have hj34 : ∀  (σ_34 : mS) (H : Heap) (locs : List Loc) (ls : Array Slot), J34  σ_34 → mM G kdM ad s σ_34 H locs → ml_has ls 7 [(0, mV ad (some 0)), (1, .int y1), (2, .int y2), (3, .int y3), (4, .int y4)] → W p l e (mRm 2 42) s m ([mV ad (some 0), .int y1, .int y2, .int y3, .int y4] : List Value).toArray below meth c H locs 0 0 (MQ below (va_Qi Q (mPost G kdM ad) (mA ad)) ([mV ad (some 0), .int y1, .int y2, .int y3, .int y4] : List Value).toArray s 0 0 (mA ad)) (F0 m 34 ls []) := by
    intro  σ_34 H locs ls h_34 hM_34 hl_34
    replace h_34 := hJ34  σ_34 h_34
    refine lv_iconst (v := 0) hx hb dX3_setRoom_34 (by decide) ?_
    exact hj35 (0 : Int32) σ_34 _ _ _ h_34 hM_34 (ml_sub hl_34 [0, 1, 2, 3, 4] rfl)
  refine lv_if_eq (tgt := 34) hx hb dX3_setRoom_6 (by decide) (fun hc30 => ?_) (fun hc30 => ?_)
  · replace h2 := h2.1 hc30
    exact hj34  σ1 _ _ _ h2 hM3 (ml_sub hl [0, 1, 2, 3, 4] rfl)
  · replace h2 := h2.2 hc30
    refine lv_iload_n hx hb dX3_setRoom_9 rfl (ml_at hl 3 rfl) ?_
    refine lv_iconst (v := 0) hx hb dX3_setRoom_10 (by decide) ?_
    refine lv_bipush (v := 8) hx hb dX3_setRoom_11 (by decide) ?_
    refine mr_ci hM3 (mr_runS (As := [.int y3, .int (0 : Int32), .int (8 : Int32)]) C hM3 hl.1.1 (c_X3_in l G ad y3 (0 : Int32) (8 : Int32) σ1 _ h2) cw_X3_90 (n := 3) ⟨rfl, by decide, by decide, by decide +kernel⟩ rfl rfl ⟨Nat.le_of_ble_eq_true rfl, Nat.le_of_ble_eq_true rfl⟩ m_c0 (Nat.le_of_ble_eq_true rfl) dX3_setRoom_13 ⟨Nat.zero_le _, Nat.zero_le _⟩) (fun x34 σ31 H locs h32 hM33 => ?_)
    clear h2 hM3
    obtain ⟨h32, hzx34⟩ := h32
    refine lv_if_eq (tgt := 34) hx hb dX3_setRoom_16 (by decide) (fun hc35 => ?_) (fun hc35 => ?_)
    · replace h32 := h32.1 hc35
      exact hj34  σ31 _ _ _ h32 hM33 (ml_sub hl [0, 1, 2, 3, 4] rfl)
    · replace h32 := h32.2 hc35
      refine lv_iload hx hb dX3_setRoom_19 (ml_at hl 4 rfl) ?_
      refine lv_iconst (v := 0) hx hb dX3_setRoom_21 (by decide) ?_
      refine lv_bipush (v := 50) hx hb dX3_setRoom_22 (by decide) ?_
      refine mr_ci hM33 (mr_runS (As := [.int y4, .int (0 : Int32), .int (50 : Int32)]) C hM33 hl.1.1 (c_X3_in l G ad y4 (0 : Int32) (50 : Int32) σ31 _ h32) cw_X3_90 (n := 3) ⟨rfl, by decide, by decide, by decide +kernel⟩ rfl rfl ⟨Nat.le_of_ble_eq_true rfl, Nat.le_of_ble_eq_true rfl⟩ m_c0 (Nat.le_of_ble_eq_true rfl) dX3_setRoom_24 ⟨Nat.zero_le _, Nat.zero_le _⟩) (fun x39 σ36 H locs h37 hM38 => ?_)
      clear h32 hM33
      obtain ⟨h37, hzx39⟩ := h37
      refine lv_if_eq (tgt := 34) hx hb dX3_setRoom_27 (by decide) (fun hc40 => ?_) (fun hc40 => ?_)
      · replace h37 := h37.1 hc40
        exact hj34  σ36 _ _ _ h37 hM38 (ml_sub hl [0, 1, 2, 3, 4] rfl)
      · replace h37 := h37.2 hc40
        refine lv_iconst (v := 1) hx hb dX3_setRoom_30 (by decide) ?_
        refine lv_goto (tgt := 35) hx hb dX3_setRoom_31 (by decide) ?_
        exact hj35 (1 : Int32) σ36 _ _ _ h37 hM38 (ml_sub hl [0, 1, 2, 3, 4] rfl)
def w_X3_isOver (y1 : Int32) (σ0 : mS) (Q : Int32 → mS → Prop) : Prop := (∃ j1, y1 = nI j1 ∧ (j1 < 200 ∧ (((mI σ0 15 j1) < (3 : Int32) → (Q (0 : Int32) σ0)) ∧ (¬ (mI σ0 15 j1) < (3 : Int32) → (Q (1 : Int32) σ0)))))
set_option maxRecDepth 100000 in
set_option maxHeartbeats 4000000 in
theorem c_X3_isOver (l : Launch) (G : mG) (ad : Nat → Nat) (y1 : Int32) (σ0 : mS) (Q : Int32 → mS → Prop) (h : w_X3_isOver y1 σ0 Q) : mKz l yX3_isOver cX3_isOver 2 0 0 G kdM ad σ0 [mV ad (some 0), .int y1] Q := by
  refine mr_start (lst := [(0, mV ad (some 0)), (1, .int y1)]) (by decide) (m_cR (m_cI m_c0)) rfl (Nat.le_of_ble_eq_true rfl) (fun p e s m below meth c C hM hr hlk ls hl => ?_)
  have hx := C.1.1
  have hb := C.1.2.1
  unfold w_X3_isOver at h
  refine mr_aload_n C dX3_isOver_0 rfl (ml_at hl 0 rfl) ?_
  refine fg_X3_52 (i := 0) C hM (mO_fix hM rfl (by decide) (by decide) (by decide)) dX3_isOver_1 ?_
  refine lv_iload_n hx hb dX3_isOver_4 rfl (ml_at hl 1 rfl) ?_
  obtain ⟨j1, ej2, ej2b, h⟩ := h
  refine mr_iald C hM (mB_fix hM rfl (by decide) (by decide) (by decide)) ej2 ej2b (by decide) dX3_isOver_5 ?_
  refine lv_iconst (v := 3) hx hb dX3_isOver_6 (by decide) ?_
  refine lv_icmp_lt (tgt := 14) hx hb dX3_isOver_7 (by decide) (fun hc3 => ?_) (fun hc3 => ?_)
  · replace h := h.1 hc3
    refine lv_iconst (v := 0) hx hb dX3_isOver_14 (by decide) ?_
    exact mr_zret C hM hr hlk rfl h dX3_isOver_15
  · replace h := h.2 hc3
    refine lv_iconst (v := 1) hx hb dX3_isOver_10 (by decide) ?_
    refine lv_goto (tgt := 15) hx hb dX3_isOver_11 (by decide) ?_
    exact mr_zret C hM hr hlk rfl h dX3_isOver_15
def w_X3_manyOf (y1 : Int32) (y2 : Int32) (σ0 : mS) (Q : Int32 → mS → Prop) : Prop := (∃ I5 : Nat → Int32 → Int32 → mS → Prop, (∀ (n5 : Nat) (x3_5 : Int32) (x4_5 : Int32) (σ_5 : mS), I5 n5 x3_5 x4_5 σ_5 → (((mI σ_5 0 13) ≤ x4_5 → (Q x3_5 σ_5)) ∧ (¬ (mI σ_5 0 13) ≤ x4_5 → (∃ j4, x4_5 = nI j4 ∧ (j4 < 200 ∧ ((¬ (mI σ_5 12 j4) = y1 → (∃ k9, k9 < n5 ∧ I5 k9 (x3_5 + (0 : Int32)) (x4_5 + 1) σ_5)) ∧ ((mI σ_5 12 j4) = y1 → (∃ j10, x4_5 = nI j10 ∧ (j10 < 200 ∧ ((¬ (mI σ_5 15 j10) = y2 → (∃ k15, k15 < n5 ∧ I5 k15 (x3_5 + (0 : Int32)) (x4_5 + 1) σ_5)) ∧ ((mI σ_5 15 j10) = y2 → (∃ k18, k18 < n5 ∧ I5 k18 (x3_5 + (1 : Int32)) (x4_5 + 1) σ_5)))))))))))) ∧ ∃ n, I5 n (0 : Int32) (0 : Int32) σ0)
set_option maxRecDepth 100000 in
set_option maxHeartbeats 4000000 in
theorem c_X3_manyOf (l : Launch) (G : mG) (ad : Nat → Nat) (y1 : Int32) (y2 : Int32) (σ0 : mS) (Q : Int32 → mS → Prop) (h : w_X3_manyOf y1 y2 σ0 Q) : mKi l yX3_manyOf cX3_manyOf 5 0 0 G kdM ad σ0 [mV ad (some 0), .int y1, .int y2] Q := by
  refine mr_start (lst := [(0, mV ad (some 0)), (1, .int y1), (2, .int y2)]) (by decide) (m_cR (m_cI (m_cI m_c0))) rfl (Nat.le_of_ble_eq_true rfl) (fun p e s m below meth c C hM hr hlk ls hl => ?_)
  have hx := C.1.1
  have hb := C.1.2.1
  unfold w_X3_manyOf at h
  refine lv_iconst (v := 0) hx hb dX3_manyOf_0 (by decide) ?_
  refine mr_istore_n (lv' := [(3, .int (0 : Int32)), (0, mV ad (some 0)), (1, .int y1), (2, .int y2)]) C hl dX3_manyOf_1 rfl (by decide) rfl (fun ls hl1 => ?_)
  clear hl
  refine lv_iconst (v := 0) hx hb dX3_manyOf_2 (by decide) ?_
  refine mr_istore (lv' := [(4, .int (0 : Int32)), (3, .int (0 : Int32)), (0, mV ad (some 0)), (1, .int y1), (2, .int y2)]) C hl1 dX3_manyOf_3 (by decide) rfl (fun ls hl2 => ?_)
  clear hl1
  obtain ⟨I5, hI5, nn5, h⟩ := h
  have hL5 : ∀ (n5 : Nat) (x3_5 : Int32) (x4_5 : Int32) (σ_5 : mS) (H : Heap) (locs : List Loc) (ls : Array Slot), I5 n5 x3_5 x4_5 σ_5 → mM G kdM ad s σ_5 H locs → ml_has ls 5 [(0, mV ad (some 0)), (1, .int y1), (2, .int y2), (3, .int x3_5), (4, .int x4_5)] → W p l e (mRm 0 0) s m ([mV ad (some 0), .int y1, .int y2] : List Value).toArray below meth c H locs 0 0 (MQ below (va_Qi Q (mPost G kdM ad) (mA ad)) ([mV ad (some 0), .int y1, .int y2] : List Value).toArray s 0 0 (mA ad)) (F0 m 5 ls []) := by
    refine m_loop (fun n5 ih5 => ?_)
    intro x3_5 x4_5 σ_5 H locs ls h_5 hM_5 hl_5
    replace h_5 := hI5 n5 x3_5 x4_5 σ_5 h_5
    refine lv_iload hx hb dX3_manyOf_5 (ml_at hl_5 4 rfl) ?_
    refine mr_aload_n C dX3_manyOf_7 rfl (ml_at hl_5 0 rfl) ?_
    refine fg_X3_94 C hM_5 (mO_fix hM_5 rfl (by decide) (by decide) (by decide)) dX3_manyOf_8 ?_
    refine lv_icmp_ge (tgt := 50) hx hb dX3_manyOf_11 (by decide) (fun hc3 => ?_) (fun hc3 => ?_)
    · replace h_5 := h_5.1 hc3
      refine lv_iload_n hx hb dX3_manyOf_50 rfl (ml_at hl_5 3 rfl) ?_
      exact mr_iret C hM_5 hr hlk h_5 dX3_manyOf_51
    · replace h_5 := h_5.2 hc3
      refine lv_iload_n hx hb dX3_manyOf_14 rfl (ml_at hl_5 3 rfl) ?_
      refine mr_aload_n C dX3_manyOf_15 rfl (ml_at hl_5 0 rfl) ?_
      refine fg_X3_43 (i := 0) C hM_5 (mO_fix hM_5 rfl (by decide) (by decide) (by decide)) dX3_manyOf_16 ?_
      refine lv_iload hx hb dX3_manyOf_19 (ml_at hl_5 4 rfl) ?_
      obtain ⟨j4, ej5, ej5b, h_5⟩ := h_5
      refine mr_iald C hM_5 (mB_fix hM_5 rfl (by decide) (by decide) (by decide)) ej5 ej5b (by decide) dX3_manyOf_21 ?_
      refine lv_iload_n hx hb dX3_manyOf_22 rfl (ml_at hl_5 1 rfl) ?_
      refine lv_icmp_ne (tgt := 41) hx hb dX3_manyOf_23 (by decide) (fun hc6 => ?_) (fun hc6 => ?_)
      · replace h_5 := h_5.1 hc6
        refine lv_iconst (v := 0) hx hb dX3_manyOf_41 (by decide) ?_
        refine lv_iadd hx hb dX3_manyOf_42 ?_
        refine mr_istore_n (lv' := [(3, .int (x3_5 + (0 : Int32))), (0, mV ad (some 0)), (1, .int y1), (2, .int y2), (4, .int x4_5)]) C hl_5 dX3_manyOf_43 rfl (by decide) rfl (fun ls hl7 => ?_)
        clear hl_5
        refine mr_iinc (v := (x4_5 + 1)) (lv' := [(4, .int (x4_5 + 1)), (3, .int (x3_5 + (0 : Int32))), (0, mV ad (some 0)), (1, .int y1), (2, .int y2)]) C hl7 dX3_manyOf_44 (k := 4) rfl rfl (by decide) rfl (fun ls hl8 => ?_)
        clear hl7
        refine lv_goto (tgt := 5) hx hb dX3_manyOf_47 (by decide) ?_
        obtain ⟨k9, hk9, h_5⟩ := h_5
        exact ih5 k9 hk9 (x3_5 + (0 : Int32)) (x4_5 + 1) σ_5 _ _ _ h_5 hM_5 (ml_sub hl8 [2, 3, 4, 1, 0] rfl)
      · replace h_5 := h_5.2 hc6
        refine mr_aload_n C dX3_manyOf_26 rfl (ml_at hl_5 0 rfl) ?_
        refine fg_X3_52 (i := 0) C hM_5 (mO_fix hM_5 rfl (by decide) (by decide) (by decide)) dX3_manyOf_27 ?_
        refine lv_iload hx hb dX3_manyOf_30 (ml_at hl_5 4 rfl) ?_
        obtain ⟨j10, ej11, ej11b, h_5⟩ := h_5
        refine mr_iald C hM_5 (mB_fix hM_5 rfl (by decide) (by decide) (by decide)) ej11 ej11b (by decide) dX3_manyOf_32 ?_
        refine lv_iload_n hx hb dX3_manyOf_33 rfl (ml_at hl_5 2 rfl) ?_
        refine lv_icmp_ne (tgt := 41) hx hb dX3_manyOf_34 (by decide) (fun hc12 => ?_) (fun hc12 => ?_)
        · replace h_5 := h_5.1 hc12
          refine lv_iconst (v := 0) hx hb dX3_manyOf_41 (by decide) ?_
          refine lv_iadd hx hb dX3_manyOf_42 ?_
          refine mr_istore_n (lv' := [(3, .int (x3_5 + (0 : Int32))), (0, mV ad (some 0)), (1, .int y1), (2, .int y2), (4, .int x4_5)]) C hl_5 dX3_manyOf_43 rfl (by decide) rfl (fun ls hl13 => ?_)
          clear hl_5
          refine mr_iinc (v := (x4_5 + 1)) (lv' := [(4, .int (x4_5 + 1)), (3, .int (x3_5 + (0 : Int32))), (0, mV ad (some 0)), (1, .int y1), (2, .int y2)]) C hl13 dX3_manyOf_44 (k := 4) rfl rfl (by decide) rfl (fun ls hl14 => ?_)
          clear hl13
          refine lv_goto (tgt := 5) hx hb dX3_manyOf_47 (by decide) ?_
          obtain ⟨k15, hk15, h_5⟩ := h_5
          exact ih5 k15 hk15 (x3_5 + (0 : Int32)) (x4_5 + 1) σ_5 _ _ _ h_5 hM_5 (ml_sub hl14 [2, 3, 4, 1, 0] rfl)
        · replace h_5 := h_5.2 hc12
          refine lv_iconst (v := 1) hx hb dX3_manyOf_37 (by decide) ?_
          refine lv_goto (tgt := 42) hx hb dX3_manyOf_38 (by decide) ?_
          refine lv_iadd hx hb dX3_manyOf_42 ?_
          refine mr_istore_n (lv' := [(3, .int (x3_5 + (1 : Int32))), (0, mV ad (some 0)), (1, .int y1), (2, .int y2), (4, .int x4_5)]) C hl_5 dX3_manyOf_43 rfl (by decide) rfl (fun ls hl16 => ?_)
          clear hl_5
          refine mr_iinc (v := (x4_5 + 1)) (lv' := [(4, .int (x4_5 + 1)), (3, .int (x3_5 + (1 : Int32))), (0, mV ad (some 0)), (1, .int y1), (2, .int y2)]) C hl16 dX3_manyOf_44 (k := 4) rfl rfl (by decide) rfl (fun ls hl17 => ?_)
          clear hl16
          refine lv_goto (tgt := 5) hx hb dX3_manyOf_47 (by decide) ?_
          obtain ⟨k18, hk18, h_5⟩ := h_5
          exact ih5 k18 hk18 (x3_5 + (1 : Int32)) (x4_5 + 1) σ_5 _ _ _ h_5 hM_5 (ml_sub hl17 [2, 3, 4, 1, 0] rfl)
  exact hL5 nn5 (0 : Int32) (0 : Int32) σ0 _ _ _ h hM (ml_sub hl2 [2, 3, 4, 1, 0] rfl)
def w_X3_ends (y1 : Int32) (y2 : Int32) (σ0 : mS) (Q : Int32 → mS → Prop) : Prop := (∃ j1, y1 = nI j1 ∧ (j1 < 200 ∧ (∀ σ4, σ4 = sI σ0 15 j1 y2 → (∃ j5, y1 = nI j5 ∧ (j5 < 200 ∧ (∀ σ8, σ8 = sI σ4 17 j5 (mI σ4 0 1) → (∃ I24 : Nat → Int32 → Int32 → mS → Prop, (∀ (n24 : Nat) (x3_24 : Int32) (x4_24 : Int32) (σ_24 : mS), I24 n24 x3_24 x4_24 σ_24 → (((mI σ_24 0 13) ≤ x4_24 → (∃ j12, y1 = nI j12 ∧ (j12 < 200 ∧ ((¬ y2 = (3 : Int32) → (Q x3_24 σ_24)) ∧ (y2 = (3 : Int32) → (∃ j16, (mI σ_24 12 j12) = nI j16 ∧ (j16 < 6 ∧ (∃ j18, (mI σ_24 12 j12) = nI j18 ∧ (j18 < 6 ∧ (((50 : Int32) ≤ (mI σ_24 9 j18) → (∃ j21, (mI σ_24 12 j12) = nI j21 ∧ (j21 < 6 ∧ (∀ σ24, σ24 = sI σ_24 9 j21 ((mI σ_24 9 j16) + (0 : Int32)) → (∃ j25, (mI σ_24 12 j12) = nI j25 ∧ (j25 < 6 ∧ (∀ σ28, σ28 = sI σ24 10 j25 (0 : Int32) → (Q x3_24 σ28)))))))) ∧ (¬ (50 : Int32) ≤ (mI σ_24 9 j18) → (∃ j29, (mI σ_24 12 j12) = nI j29 ∧ (j29 < 6 ∧ (∀ σ32, σ32 = sI σ_24 9 j29 ((mI σ_24 9 j16) + (1 : Int32)) → (∃ j33, (mI σ_24 12 j12) = nI j33 ∧ (j33 < 6 ∧ (∀ σ36, σ36 = sI σ32 10 j33 (0 : Int32) → (Q x3_24 σ36)))))))))))))))))) ∧ (¬ (mI σ_24 0 13) ≤ x4_24 → w_X3_isOver x4_24 σ_24 (fun x40 σ37 => ((¬ x40 = 0 → (∃ k43, k43 < n24 ∧ I24 k43 x3_24 (x4_24 + 1) σ37)) ∧ (x40 = 0 → (∃ j44, x4_24 = nI j44 ∧ (j44 < 200 ∧ (((mI σ37 14 j44) = (-1 : Int32) → (∃ k48, k48 < n24 ∧ I24 k48 x3_24 (x4_24 + 1) σ37)) ∧ (¬ (mI σ37 14 j44) = (-1 : Int32) → (∃ j49, x4_24 = nI j49 ∧ (j49 < 200 ∧ w_X3_isOver (mI σ37 14 j49) σ37 (fun x54 σ51 => ((x54 = 0 → (∃ k57, k57 < n24 ∧ I24 k57 x3_24 (x4_24 + 1) σ51)) ∧ (¬ x54 = 0 → (∃ j58, x4_24 = nI j58 ∧ (j58 < 200 ∧ (∀ σ61, σ61 = sI σ51 15 j58 (7 : Int32) → (∃ j62, x4_24 = nI j62 ∧ (j62 < 200 ∧ (∀ σ65, σ65 = sI σ61 17 j62 (mI σ61 0 1) → (∃ k68, k68 < n24 ∧ I24 k68 (x3_24 + 1) (x4_24 + 1) σ65)))))))))))))))))))))) ∧ ∃ n, I24 n (0 : Int32) (y1 + (1 : Int32)) σ8)))))))
set_option maxRecDepth 100000 in
set_option maxHeartbeats 4000000 in
theorem c_X3_ends (l : Launch) (G : mG) (ad : Nat → Nat) (y1 : Int32) (y2 : Int32) (σ0 : mS) (Q : Int32 → mS → Prop) (h : w_X3_ends y1 y2 σ0 Q) : mKi l yX3_ends cX3_ends 5 1 21 G kdM ad σ0 [mV ad (some 0), .int y1, .int y2] Q := by
  refine mr_start (lst := [(0, mV ad (some 0)), (1, .int y1), (2, .int y2)]) (by decide) (m_cR (m_cI (m_cI m_c0))) rfl (Nat.le_of_ble_eq_true rfl) (fun p e s m below meth c C hM hr hlk ls hl => ?_)
  have hx := C.1.1
  have hb := C.1.2.1
  unfold w_X3_ends at h
  refine mr_aload_n C dX3_ends_0 rfl (ml_at hl 0 rfl) ?_
  refine fg_X3_52 (i := 0) C hM (mO_fix hM rfl (by decide) (by decide) (by decide)) dX3_ends_1 ?_
  refine lv_iload_n hx hb dX3_ends_4 rfl (ml_at hl 1 rfl) ?_
  refine lv_iload_n hx hb dX3_ends_5 rfl (ml_at hl 2 rfl) ?_
  obtain ⟨j1, ej2, ej2b, h⟩ := h
  refine mr_iast C hM (mB_fix hM rfl (by decide) (by decide) (by decide)) ej2 ej2b (by decide) dX3_ends_6 (fun H locs hM3 => ?_)
  clear hM
  obtain ⟨σ4, eσ4⟩ : ∃ y, y = sI σ0 15 j1 y2 := ⟨_, rfl⟩
  rw [← eσ4] at hM3
  replace h := h σ4 eσ4
  refine mr_aload_n C dX3_ends_7 rfl (ml_at hl 0 rfl) ?_
  refine fg_X3_58 (i := 0) C hM3 (mO_fix hM3 rfl (by decide) (by decide) (by decide)) dX3_ends_8 ?_
  refine lv_iload_n hx hb dX3_ends_11 rfl (ml_at hl 1 rfl) ?_
  refine mr_aload_n C dX3_ends_12 rfl (ml_at hl 0 rfl) ?_
  refine fg_X3_101 C hM3 (mO_fix hM3 rfl (by decide) (by decide) (by decide)) dX3_ends_13 ?_
  obtain ⟨j5, ej6, ej6b, h⟩ := h
  refine mr_iast C hM3 (mB_fix hM3 rfl (by decide) (by decide) (by decide)) ej6 ej6b (by decide) dX3_ends_16 (fun H locs hM7 => ?_)
  clear hM3
  obtain ⟨σ8, eσ8⟩ : ∃ y, y = sI σ4 17 j5 (mI σ4 0 1) := ⟨_, rfl⟩
  rw [← eσ8] at hM7
  replace h := h σ8 eσ8
  refine lv_iconst (v := 0) hx hb dX3_ends_17 (by decide) ?_
  refine mr_istore_n (lv' := [(3, .int (0 : Int32)), (0, mV ad (some 0)), (1, .int y1), (2, .int y2)]) C hl dX3_ends_18 rfl (by decide) rfl (fun ls hl9 => ?_)
  clear hl
  refine lv_iload_n hx hb dX3_ends_19 rfl (ml_at hl9 2 rfl) ?_
  refine lv_iconst (v := 1) hx hb dX3_ends_20 (by decide) ?_
  refine lv_iadd hx hb dX3_ends_21 ?_
  refine mr_istore (lv' := [(4, .int (y1 + (1 : Int32))), (3, .int (0 : Int32)), (0, mV ad (some 0)), (1, .int y1), (2, .int y2)]) C hl9 dX3_ends_22 (by decide) rfl (fun ls hl10 => ?_)
  clear hl9
  obtain ⟨I24, hI24, nn24, h⟩ := h
  have hL24 : ∀ (n24 : Nat) (x3_24 : Int32) (x4_24 : Int32) (σ_24 : mS) (H : Heap) (locs : List Loc) (ls : Array Slot), I24 n24 x3_24 x4_24 σ_24 → mM G kdM ad s σ_24 H locs → ml_has ls 5 [(0, mV ad (some 0)), (1, .int y1), (2, .int y2), (3, .int x3_24), (4, .int x4_24)] → W p l e (mRm 1 21) s m ([mV ad (some 0), .int y1, .int y2] : List Value).toArray below meth c H locs 0 0 (MQ below (va_Qi Q (mPost G kdM ad) (mA ad)) ([mV ad (some 0), .int y1, .int y2] : List Value).toArray s 0 0 (mA ad)) (F0 m 24 ls []) := by
    refine m_loop (fun n24 ih24 => ?_)
    intro x3_24 x4_24 σ_24 H locs ls h_24 hM_24 hl_24
    replace h_24 := hI24 n24 x3_24 x4_24 σ_24 h_24
    refine lv_iload hx hb dX3_ends_24 (ml_at hl_24 4 rfl) ?_
    refine mr_aload_n C dX3_ends_26 rfl (ml_at hl_24 0 rfl) ?_
    refine fg_X3_94 C hM_24 (mO_fix hM_24 rfl (by decide) (by decide) (by decide)) dX3_ends_27 ?_
    refine lv_icmp_ge (tgt := 96) hx hb dX3_ends_30 (by decide) (fun hc11 => ?_) (fun hc11 => ?_)
    · replace h_24 := h_24.1 hc11
      refine mr_aload_n C dX3_ends_96 rfl (ml_at hl_24 0 rfl) ?_
      refine fg_X3_43 (i := 0) C hM_24 (mO_fix hM_24 rfl (by decide) (by decide) (by decide)) dX3_ends_97 ?_
      refine lv_iload_n hx hb dX3_ends_100 rfl (ml_at hl_24 1 rfl) ?_
      obtain ⟨j12, ej13, ej13b, h_24⟩ := h_24
      refine mr_iald C hM_24 (mB_fix hM_24 rfl (by decide) (by decide) (by decide)) ej13 ej13b (by decide) dX3_ends_101 ?_
      refine mr_istore (lv' := [(4, .int (mI σ_24 12 j12)), (0, mV ad (some 0)), (1, .int y1), (2, .int y2), (3, .int x3_24)]) C hl_24 dX3_ends_102 (by decide) rfl (fun ls hl14 => ?_)
      clear hl_24
      refine lv_iload_n hx hb dX3_ends_104 rfl (ml_at hl14 3 rfl) ?_
      refine lv_iconst (v := 3) hx hb dX3_ends_105 (by decide) ?_
      refine lv_icmp_ne (tgt := 144) hx hb dX3_ends_106 (by decide) (fun hc15 => ?_) (fun hc15 => ?_)
      · replace h_24 := h_24.1 hc15
        refine lv_iload_n hx hb dX3_ends_144 rfl (ml_at hl14 4 rfl) ?_
        exact mr_iret C hM_24 hr hlk h_24 dX3_ends_145
      · replace h_24 := h_24.2 hc15
        refine mr_aload_n C dX3_ends_109 rfl (ml_at hl14 1 rfl) ?_
        refine fg_X3_34 (i := 0) C hM_24 (mO_fix hM_24 rfl (by decide) (by decide) (by decide)) dX3_ends_110 ?_
        refine lv_iload hx hb dX3_ends_113 (ml_at hl14 0 rfl) ?_
        refine lv_dup2_11 hx hb dX3_ends_115 rfl (mV_cat _ _) ?_
        obtain ⟨j16, ej17, ej17b, h_24⟩ := h_24
        refine mr_iald C hM_24 (mB_fix hM_24 rfl (by decide) (by decide) (by decide)) ej17 ej17b (by decide) dX3_ends_116 ?_
        refine mr_aload_n C dX3_ends_117 rfl (ml_at hl14 1 rfl) ?_
        refine fg_X3_34 (i := 0) C hM_24 (mO_fix hM_24 rfl (by decide) (by decide) (by decide)) dX3_ends_118 ?_
        refine lv_iload hx hb dX3_ends_121 (ml_at hl14 0 rfl) ?_
        obtain ⟨j18, ej19, ej19b, h_24⟩ := h_24
        refine mr_iald C hM_24 (mB_fix hM_24 rfl (by decide) (by decide) (by decide)) ej19 ej19b (by decide) dX3_ends_123 ?_
        refine lv_bipush (v := 50) hx hb dX3_ends_124 (by decide) ?_
        refine lv_icmp_ge (tgt := 133) hx hb dX3_ends_126 (by decide) (fun hc20 => ?_) (fun hc20 => ?_)
        · replace h_24 := h_24.1 hc20
          refine lv_iconst (v := 0) hx hb dX3_ends_133 (by decide) ?_
          refine lv_iadd hx hb dX3_ends_134 ?_
          obtain ⟨j21, ej22, ej22b, h_24⟩ := h_24
          refine mr_iast C hM_24 (mB_fix hM_24 rfl (by decide) (by decide) (by decide)) ej22 ej22b (by decide) dX3_ends_135 (fun H locs hM23 => ?_)
          clear hM_24
          obtain ⟨σ24, eσ24⟩ : ∃ y, y = sI σ_24 9 j21 ((mI σ_24 9 j16) + (0 : Int32)) := ⟨_, rfl⟩
          rw [← eσ24] at hM23
          replace h_24 := h_24 σ24 eσ24
          refine mr_aload_n C dX3_ends_136 rfl (ml_at hl14 1 rfl) ?_
          refine fg_X3_37 (i := 0) C hM23 (mO_fix hM23 rfl (by decide) (by decide) (by decide)) dX3_ends_137 ?_
          refine lv_iload hx hb dX3_ends_140 (ml_at hl14 0 rfl) ?_
          refine lv_iconst (v := 0) hx hb dX3_ends_142 (by decide) ?_
          obtain ⟨j25, ej26, ej26b, h_24⟩ := h_24
          refine mr_iast C hM23 (mB_fix hM23 rfl (by decide) (by decide) (by decide)) ej26 ej26b (by decide) dX3_ends_143 (fun H locs hM27 => ?_)
          clear hM23
          obtain ⟨σ28, eσ28⟩ : ∃ y, y = sI σ24 10 j25 (0 : Int32) := ⟨_, rfl⟩
          rw [← eσ28] at hM27
          replace h_24 := h_24 σ28 eσ28
          refine lv_iload_n hx hb dX3_ends_144 rfl (ml_at hl14 4 rfl) ?_
          exact mr_iret C hM27 hr hlk h_24 dX3_ends_145
        · replace h_24 := h_24.2 hc20
          refine lv_iconst (v := 1) hx hb dX3_ends_129 (by decide) ?_
          refine lv_goto (tgt := 134) hx hb dX3_ends_130 (by decide) ?_
          refine lv_iadd hx hb dX3_ends_134 ?_
          obtain ⟨j29, ej30, ej30b, h_24⟩ := h_24
          refine mr_iast C hM_24 (mB_fix hM_24 rfl (by decide) (by decide) (by decide)) ej30 ej30b (by decide) dX3_ends_135 (fun H locs hM31 => ?_)
          clear hM_24
          obtain ⟨σ32, eσ32⟩ : ∃ y, y = sI σ_24 9 j29 ((mI σ_24 9 j16) + (1 : Int32)) := ⟨_, rfl⟩
          rw [← eσ32] at hM31
          replace h_24 := h_24 σ32 eσ32
          refine mr_aload_n C dX3_ends_136 rfl (ml_at hl14 1 rfl) ?_
          refine fg_X3_37 (i := 0) C hM31 (mO_fix hM31 rfl (by decide) (by decide) (by decide)) dX3_ends_137 ?_
          refine lv_iload hx hb dX3_ends_140 (ml_at hl14 0 rfl) ?_
          refine lv_iconst (v := 0) hx hb dX3_ends_142 (by decide) ?_
          obtain ⟨j33, ej34, ej34b, h_24⟩ := h_24
          refine mr_iast C hM31 (mB_fix hM31 rfl (by decide) (by decide) (by decide)) ej34 ej34b (by decide) dX3_ends_143 (fun H locs hM35 => ?_)
          clear hM31
          obtain ⟨σ36, eσ36⟩ : ∃ y, y = sI σ32 10 j33 (0 : Int32) := ⟨_, rfl⟩
          rw [← eσ36] at hM35
          replace h_24 := h_24 σ36 eσ36
          refine lv_iload_n hx hb dX3_ends_144 rfl (ml_at hl14 4 rfl) ?_
          exact mr_iret C hM35 hr hlk h_24 dX3_ends_145
    · replace h_24 := h_24.2 hc11
      refine mr_aload_n C dX3_ends_33 rfl (ml_at hl_24 0 rfl) ?_
      refine lv_iload hx hb dX3_ends_34 (ml_at hl_24 4 rfl) ?_
      refine mr_ci hM_24 (mr_runV (As := [.int x4_24]) C hM_24 hl_24.1.1 (c_X3_isOver l G ad x4_24 σ_24 _ h_24) cw_X3_104 (mO_fix hM_24 rfl (by decide) (by decide) (by decide)) rfl rfl (n := 1) ⟨rfl, by decide, by decide, by decide +kernel⟩ rfl rfl ⟨Nat.le_of_ble_eq_true rfl, Nat.le_of_ble_eq_true rfl⟩ m_c0 (Nat.le_of_ble_eq_true rfl) dX3_ends_36 ⟨Nat.zero_le _, Nat.zero_le _⟩) (fun x40 σ37 H locs h38 hM39 => ?_)
      clear h_24 hM_24
      obtain ⟨h38, hzx40⟩ := h38
      refine lv_if_ne (tgt := 90) hx hb dX3_ends_39 (by decide) (fun hc41 => ?_) (fun hc41 => ?_)
      · replace h38 := h38.1 hc41
        refine mr_iinc (v := (x4_24 + 1)) (lv' := [(4, .int (x4_24 + 1)), (0, mV ad (some 0)), (1, .int y1), (2, .int y2), (3, .int x3_24)]) C hl_24 dX3_ends_90 (k := 4) rfl rfl (by decide) rfl (fun ls hl42 => ?_)
        clear hl_24
        refine lv_goto (tgt := 24) hx hb dX3_ends_93 (by decide) ?_
        obtain ⟨k43, hk43, h38⟩ := h38
        exact ih24 k43 hk43 x3_24 (x4_24 + 1) σ37 _ _ _ h38 hM39 (ml_sub hl42 [1, 2, 3, 4, 0] rfl)
      · replace h38 := h38.2 hc41
        refine mr_aload_n C dX3_ends_42 rfl (ml_at hl_24 0 rfl) ?_
        refine fg_X3_49 (i := 0) C hM39 (mO_fix hM39 rfl (by decide) (by decide) (by decide)) dX3_ends_43 ?_
        refine lv_iload hx hb dX3_ends_46 (ml_at hl_24 4 rfl) ?_
        obtain ⟨j44, ej45, ej45b, h38⟩ := h38
        refine mr_iald C hM39 (mB_fix hM39 rfl (by decide) (by decide) (by decide)) ej45 ej45b (by decide) dX3_ends_48 ?_
        refine lv_iconst (v := -1) hx hb dX3_ends_49 (by decide) ?_
        refine lv_icmp_eq (tgt := 90) hx hb dX3_ends_50 (by decide) (fun hc46 => ?_) (fun hc46 => ?_)
        · replace h38 := h38.1 hc46
          refine mr_iinc (v := (x4_24 + 1)) (lv' := [(4, .int (x4_24 + 1)), (0, mV ad (some 0)), (1, .int y1), (2, .int y2), (3, .int x3_24)]) C hl_24 dX3_ends_90 (k := 4) rfl rfl (by decide) rfl (fun ls hl47 => ?_)
          clear hl_24
          refine lv_goto (tgt := 24) hx hb dX3_ends_93 (by decide) ?_
          obtain ⟨k48, hk48, h38⟩ := h38
          exact ih24 k48 hk48 x3_24 (x4_24 + 1) σ37 _ _ _ h38 hM39 (ml_sub hl47 [1, 2, 3, 4, 0] rfl)
        · replace h38 := h38.2 hc46
          refine mr_aload_n C dX3_ends_53 rfl (ml_at hl_24 0 rfl) ?_
          refine mr_aload_n C dX3_ends_54 rfl (ml_at hl_24 0 rfl) ?_
          refine fg_X3_49 (i := 0) C hM39 (mO_fix hM39 rfl (by decide) (by decide) (by decide)) dX3_ends_55 ?_
          refine lv_iload hx hb dX3_ends_58 (ml_at hl_24 4 rfl) ?_
          obtain ⟨j49, ej50, ej50b, h38⟩ := h38
          refine mr_iald C hM39 (mB_fix hM39 rfl (by decide) (by decide) (by decide)) ej50 ej50b (by decide) dX3_ends_60 ?_
          refine mr_ci hM39 (mr_runV (As := [.int (mI σ37 14 j49)]) C hM39 hl_24.1.1 (c_X3_isOver l G ad (mI σ37 14 j49) σ37 _ h38) cw_X3_104 (mO_fix hM39 rfl (by decide) (by decide) (by decide)) rfl rfl (n := 1) ⟨rfl, by decide, by decide, by decide +kernel⟩ rfl rfl ⟨Nat.le_of_ble_eq_true rfl, Nat.le_of_ble_eq_true rfl⟩ m_c0 (Nat.le_of_ble_eq_true rfl) dX3_ends_61 ⟨Nat.zero_le _, Nat.zero_le _⟩) (fun x54 σ51 H locs h52 hM53 => ?_)
          clear h38 hM39
          obtain ⟨h52, hzx54⟩ := h52
          refine lv_if_eq (tgt := 90) hx hb dX3_ends_64 (by decide) (fun hc55 => ?_) (fun hc55 => ?_)
          · replace h52 := h52.1 hc55
            refine mr_iinc (v := (x4_24 + 1)) (lv' := [(4, .int (x4_24 + 1)), (0, mV ad (some 0)), (1, .int y1), (2, .int y2), (3, .int x3_24)]) C hl_24 dX3_ends_90 (k := 4) rfl rfl (by decide) rfl (fun ls hl56 => ?_)
            clear hl_24
            refine lv_goto (tgt := 24) hx hb dX3_ends_93 (by decide) ?_
            obtain ⟨k57, hk57, h52⟩ := h52
            exact ih24 k57 hk57 x3_24 (x4_24 + 1) σ51 _ _ _ h52 hM53 (ml_sub hl56 [1, 2, 3, 4, 0] rfl)
          · replace h52 := h52.2 hc55
            refine mr_aload_n C dX3_ends_67 rfl (ml_at hl_24 0 rfl) ?_
            refine fg_X3_52 (i := 0) C hM53 (mO_fix hM53 rfl (by decide) (by decide) (by decide)) dX3_ends_68 ?_
            refine lv_iload hx hb dX3_ends_71 (ml_at hl_24 4 rfl) ?_
            refine lv_bipush (v := 7) hx hb dX3_ends_73 (by decide) ?_
            obtain ⟨j58, ej59, ej59b, h52⟩ := h52
            refine mr_iast C hM53 (mB_fix hM53 rfl (by decide) (by decide) (by decide)) ej59 ej59b (by decide) dX3_ends_75 (fun H locs hM60 => ?_)
            clear hM53
            obtain ⟨σ61, eσ61⟩ : ∃ y, y = sI σ51 15 j58 (7 : Int32) := ⟨_, rfl⟩
            rw [← eσ61] at hM60
            replace h52 := h52 σ61 eσ61
            refine mr_aload_n C dX3_ends_76 rfl (ml_at hl_24 0 rfl) ?_
            refine fg_X3_58 (i := 0) C hM60 (mO_fix hM60 rfl (by decide) (by decide) (by decide)) dX3_ends_77 ?_
            refine lv_iload hx hb dX3_ends_80 (ml_at hl_24 4 rfl) ?_
            refine mr_aload_n C dX3_ends_82 rfl (ml_at hl_24 0 rfl) ?_
            refine fg_X3_101 C hM60 (mO_fix hM60 rfl (by decide) (by decide) (by decide)) dX3_ends_83 ?_
            obtain ⟨j62, ej63, ej63b, h52⟩ := h52
            refine mr_iast C hM60 (mB_fix hM60 rfl (by decide) (by decide) (by decide)) ej63 ej63b (by decide) dX3_ends_86 (fun H locs hM64 => ?_)
            clear hM60
            obtain ⟨σ65, eσ65⟩ : ∃ y, y = sI σ61 17 j62 (mI σ61 0 1) := ⟨_, rfl⟩
            rw [← eσ65] at hM64
            replace h52 := h52 σ65 eσ65
            refine mr_iinc (v := (x3_24 + 1)) (lv' := [(3, .int (x3_24 + 1)), (0, mV ad (some 0)), (1, .int y1), (2, .int y2), (4, .int x4_24)]) C hl_24 dX3_ends_87 (k := 3) rfl rfl (by decide) rfl (fun ls hl66 => ?_)
            clear hl_24
            refine mr_iinc (v := (x4_24 + 1)) (lv' := [(4, .int (x4_24 + 1)), (3, .int (x3_24 + 1)), (0, mV ad (some 0)), (1, .int y1), (2, .int y2)]) C hl66 dX3_ends_90 (k := 4) rfl rfl (by decide) rfl (fun ls hl67 => ?_)
            clear hl66
            refine lv_goto (tgt := 24) hx hb dX3_ends_93 (by decide) ?_
            obtain ⟨k68, hk68, h52⟩ := h52
            exact ih24 k68 hk68 (x3_24 + 1) (x4_24 + 1) σ65 _ _ _ h52 hM64 (ml_sub hl67 [2, 3, 4, 1, 0] rfl)
  exact hL24 nn24 (0 : Int32) (y1 + (1 : Int32)) σ8 _ _ _ h hM7 (ml_sub hl10 [2, 3, 4, 1, 0] rfl)
def w_X3_counts (y1 : Int32) (σ0 : mS) (Q : mS → Prop) : Prop := (∃ j1, y1 = nI j1 ∧ (j1 < 6 ∧ (∃ j3, y1 = nI j3 ∧ (j3 < 6 ∧ (∀ σ6, σ6 = sI σ0 10 j3 ((mI σ0 10 j1) + (1 : Int32)) → (∃ j7, y1 = nI j7 ∧ (j7 < 6 ∧ ((¬ (mI σ6 10 j7) = (3 : Int32) → (Q σ6)) ∧ ((mI σ6 10 j7) = (3 : Int32) → (∃ j10, y1 = nI j10 ∧ (j10 < 6 ∧ (∀ σ13, σ13 = sI σ6 10 j10 (0 : Int32) → (∃ j14, y1 = nI j14 ∧ (j14 < 6 ∧ (∀ σ17, σ17 = sI σ13 11 j14 ((mI σ13 0 1) + (20 : Int32)) → (Q σ17))))))))))))))))
set_option maxRecDepth 100000 in
set_option maxHeartbeats 4000000 in
theorem c_X3_counts (l : Launch) (G : mG) (ad : Nat → Nat) (y1 : Int32) (σ0 : mS) (Q : mS → Prop) (h : w_X3_counts y1 σ0 Q) : mKv l yX3_counts cX3_counts 2 0 0 G kdM ad σ0 [mV ad (some 0), .int y1] Q := by
  refine mr_start (lst := [(0, mV ad (some 0)), (1, .int y1)]) (by decide) (m_cR (m_cI m_c0)) rfl (Nat.le_of_ble_eq_true rfl) (fun p e s m below meth c C hM hr hlk ls hl => ?_)
  have hx := C.1.1
  have hb := C.1.2.1
  unfold w_X3_counts at h
  refine mr_aload_n C dX3_counts_0 rfl (ml_at hl 0 rfl) ?_
  refine fg_X3_37 (i := 0) C hM (mO_fix hM rfl (by decide) (by decide) (by decide)) dX3_counts_1 ?_
  refine lv_iload_n hx hb dX3_counts_4 rfl (ml_at hl 1 rfl) ?_
  refine lv_dup2_11 hx hb dX3_counts_5 rfl (mV_cat _ _) ?_
  obtain ⟨j1, ej2, ej2b, h⟩ := h
  refine mr_iald C hM (mB_fix hM rfl (by decide) (by decide) (by decide)) ej2 ej2b (by decide) dX3_counts_6 ?_
  refine lv_iconst (v := 1) hx hb dX3_counts_7 (by decide) ?_
  refine lv_iadd hx hb dX3_counts_8 ?_
  obtain ⟨j3, ej4, ej4b, h⟩ := h
  refine mr_iast C hM (mB_fix hM rfl (by decide) (by decide) (by decide)) ej4 ej4b (by decide) dX3_counts_9 (fun H locs hM5 => ?_)
  clear hM
  obtain ⟨σ6, eσ6⟩ : ∃ y, y = sI σ0 10 j3 ((mI σ0 10 j1) + (1 : Int32)) := ⟨_, rfl⟩
  rw [← eσ6] at hM5
  replace h := h σ6 eσ6
  refine mr_aload_n C dX3_counts_10 rfl (ml_at hl 0 rfl) ?_
  refine fg_X3_37 (i := 0) C hM5 (mO_fix hM5 rfl (by decide) (by decide) (by decide)) dX3_counts_11 ?_
  refine lv_iload_n hx hb dX3_counts_14 rfl (ml_at hl 1 rfl) ?_
  obtain ⟨j7, ej8, ej8b, h⟩ := h
  refine mr_iald C hM5 (mB_fix hM5 rfl (by decide) (by decide) (by decide)) ej8 ej8b (by decide) dX3_counts_15 ?_
  refine lv_iconst (v := 3) hx hb dX3_counts_16 (by decide) ?_
  refine lv_icmp_ne (tgt := 40) hx hb dX3_counts_17 (by decide) (fun hc9 => ?_) (fun hc9 => ?_)
  · replace h := h.1 hc9
    exact mr_vret C hM5 hr hlk h dX3_counts_40
  · replace h := h.2 hc9
    refine mr_aload_n C dX3_counts_20 rfl (ml_at hl 0 rfl) ?_
    refine fg_X3_37 (i := 0) C hM5 (mO_fix hM5 rfl (by decide) (by decide) (by decide)) dX3_counts_21 ?_
    refine lv_iload_n hx hb dX3_counts_24 rfl (ml_at hl 1 rfl) ?_
    refine lv_iconst (v := 0) hx hb dX3_counts_25 (by decide) ?_
    obtain ⟨j10, ej11, ej11b, h⟩ := h
    refine mr_iast C hM5 (mB_fix hM5 rfl (by decide) (by decide) (by decide)) ej11 ej11b (by decide) dX3_counts_26 (fun H locs hM12 => ?_)
    clear hM5
    obtain ⟨σ13, eσ13⟩ : ∃ y, y = sI σ6 10 j10 (0 : Int32) := ⟨_, rfl⟩
    rw [← eσ13] at hM12
    replace h := h σ13 eσ13
    refine mr_aload_n C dX3_counts_27 rfl (ml_at hl 0 rfl) ?_
    refine fg_X3_40 (i := 0) C hM12 (mO_fix hM12 rfl (by decide) (by decide) (by decide)) dX3_counts_28 ?_
    refine lv_iload_n hx hb dX3_counts_31 rfl (ml_at hl 1 rfl) ?_
    refine mr_aload_n C dX3_counts_32 rfl (ml_at hl 0 rfl) ?_
    refine fg_X3_101 C hM12 (mO_fix hM12 rfl (by decide) (by decide) (by decide)) dX3_counts_33 ?_
    refine lv_bipush (v := 20) hx hb dX3_counts_36 (by decide) ?_
    refine lv_iadd hx hb dX3_counts_38 ?_
    obtain ⟨j14, ej15, ej15b, h⟩ := h
    refine mr_iast C hM12 (mB_fix hM12 rfl (by decide) (by decide) (by decide)) ej15 ej15b (by decide) dX3_counts_39 (fun H locs hM16 => ?_)
    clear hM12
    obtain ⟨σ17, eσ17⟩ : ∃ y, y = sI σ13 11 j14 ((mI σ13 0 1) + (20 : Int32)) := ⟨_, rfl⟩
    rw [← eσ17] at hM16
    replace h := h σ17 eσ17
    exact mr_vret C hM16 hr hlk h dX3_counts_40
def w_X3_isOpenNow (y1 : Int32) (σ0 : mS) (Q : Int32 → mS → Prop) : Prop := (∃ j1, y1 = nI j1 ∧ (j1 < 6 ∧ (((mI σ0 11 j1) ≤ (mI σ0 0 1) → (Q (0 : Int32) σ0)) ∧ (¬ (mI σ0 11 j1) ≤ (mI σ0 0 1) → (Q (1 : Int32) σ0)))))
set_option maxRecDepth 100000 in
set_option maxHeartbeats 4000000 in
theorem c_X3_isOpenNow (l : Launch) (G : mG) (ad : Nat → Nat) (y1 : Int32) (σ0 : mS) (Q : Int32 → mS → Prop) (h : w_X3_isOpenNow y1 σ0 Q) : mKz l yX3_isOpenNow cX3_isOpenNow 2 0 0 G kdM ad σ0 [mV ad (some 0), .int y1] Q := by
  refine mr_start (lst := [(0, mV ad (some 0)), (1, .int y1)]) (by decide) (m_cR (m_cI m_c0)) rfl (Nat.le_of_ble_eq_true rfl) (fun p e s m below meth c C hM hr hlk ls hl => ?_)
  have hx := C.1.1
  have hb := C.1.2.1
  unfold w_X3_isOpenNow at h
  refine mr_aload_n C dX3_isOpenNow_0 rfl (ml_at hl 0 rfl) ?_
  refine fg_X3_101 C hM (mO_fix hM rfl (by decide) (by decide) (by decide)) dX3_isOpenNow_1 ?_
  refine mr_aload_n C dX3_isOpenNow_4 rfl (ml_at hl 0 rfl) ?_
  refine fg_X3_40 (i := 0) C hM (mO_fix hM rfl (by decide) (by decide) (by decide)) dX3_isOpenNow_5 ?_
  refine lv_iload_n hx hb dX3_isOpenNow_8 rfl (ml_at hl 1 rfl) ?_
  obtain ⟨j1, ej2, ej2b, h⟩ := h
  refine mr_iald C hM (mB_fix hM rfl (by decide) (by decide) (by decide)) ej2 ej2b (by decide) dX3_isOpenNow_9 ?_
  refine lv_icmp_ge (tgt := 17) hx hb dX3_isOpenNow_10 (by decide) (fun hc3 => ?_) (fun hc3 => ?_)
  · replace h := h.1 hc3
    refine lv_iconst (v := 0) hx hb dX3_isOpenNow_17 (by decide) ?_
    exact mr_zret C hM hr hlk rfl h dX3_isOpenNow_18
  · replace h := h.2 hc3
    refine lv_iconst (v := 1) hx hb dX3_isOpenNow_13 (by decide) ?_
    refine lv_goto (tgt := 18) hx hb dX3_isOpenNow_14 (by decide) ?_
    exact mr_zret C hM hr hlk rfl h dX3_isOpenNow_18
def w_X3_works (y1 : Int32) (σ0 : mS) (Q : mS → Prop) : Prop := (∃ j1, y1 = nI j1 ∧ (j1 < 200 ∧ (∀ σ4, σ4 = sI σ0 15 j1 (1 : Int32) → (∃ j5, y1 = nI j5 ∧ (j5 < 200 ∧ (∃ j7, (mI σ4 12 j5) = nI j7 ∧ (j7 < 6 ∧ (∃ j9, y1 = nI j9 ∧ (j9 < 200 ∧ (∀ σ12, σ12 = sI σ4 16 j9 ((mI σ4 0 1) + (mI σ4 1 j7)) → (Q σ12)))))))))))
set_option maxRecDepth 100000 in
set_option maxHeartbeats 4000000 in
theorem c_X3_works (l : Launch) (G : mG) (ad : Nat → Nat) (y1 : Int32) (σ0 : mS) (Q : mS → Prop) (h : w_X3_works y1 σ0 Q) : mKv l yX3_works cX3_works 2 0 0 G kdM ad σ0 [mV ad (some 0), .int y1] Q := by
  refine mr_start (lst := [(0, mV ad (some 0)), (1, .int y1)]) (by decide) (m_cR (m_cI m_c0)) rfl (Nat.le_of_ble_eq_true rfl) (fun p e s m below meth c C hM hr hlk ls hl => ?_)
  have hx := C.1.1
  have hb := C.1.2.1
  unfold w_X3_works at h
  refine mr_aload_n C dX3_works_0 rfl (ml_at hl 0 rfl) ?_
  refine fg_X3_52 (i := 0) C hM (mO_fix hM rfl (by decide) (by decide) (by decide)) dX3_works_1 ?_
  refine lv_iload_n hx hb dX3_works_4 rfl (ml_at hl 1 rfl) ?_
  refine lv_iconst (v := 1) hx hb dX3_works_5 (by decide) ?_
  obtain ⟨j1, ej2, ej2b, h⟩ := h
  refine mr_iast C hM (mB_fix hM rfl (by decide) (by decide) (by decide)) ej2 ej2b (by decide) dX3_works_6 (fun H locs hM3 => ?_)
  clear hM
  obtain ⟨σ4, eσ4⟩ : ∃ y, y = sI σ0 15 j1 (1 : Int32) := ⟨_, rfl⟩
  rw [← eσ4] at hM3
  replace h := h σ4 eσ4
  refine mr_aload_n C dX3_works_7 rfl (ml_at hl 0 rfl) ?_
  refine fg_X3_55 (i := 0) C hM3 (mO_fix hM3 rfl (by decide) (by decide) (by decide)) dX3_works_8 ?_
  refine lv_iload_n hx hb dX3_works_11 rfl (ml_at hl 1 rfl) ?_
  refine mr_aload_n C dX3_works_12 rfl (ml_at hl 0 rfl) ?_
  refine fg_X3_101 C hM3 (mO_fix hM3 rfl (by decide) (by decide) (by decide)) dX3_works_13 ?_
  refine mr_aload_n C dX3_works_16 rfl (ml_at hl 0 rfl) ?_
  refine fg_X3_7 (i := 0) C hM3 (mO_fix hM3 rfl (by decide) (by decide) (by decide)) dX3_works_17 ?_
  refine mr_aload_n C dX3_works_20 rfl (ml_at hl 0 rfl) ?_
  refine fg_X3_43 (i := 0) C hM3 (mO_fix hM3 rfl (by decide) (by decide) (by decide)) dX3_works_21 ?_
  refine lv_iload_n hx hb dX3_works_24 rfl (ml_at hl 1 rfl) ?_
  obtain ⟨j5, ej6, ej6b, h⟩ := h
  refine mr_iald C hM3 (mB_fix hM3 rfl (by decide) (by decide) (by decide)) ej6 ej6b (by decide) dX3_works_25 ?_
  obtain ⟨j7, ej8, ej8b, h⟩ := h
  refine mr_iald C hM3 (mB_fix hM3 rfl (by decide) (by decide) (by decide)) ej8 ej8b (by decide) dX3_works_26 ?_
  refine lv_iadd hx hb dX3_works_27 ?_
  obtain ⟨j9, ej10, ej10b, h⟩ := h
  refine mr_iast C hM3 (mB_fix hM3 rfl (by decide) (by decide) (by decide)) ej10 ej10b (by decide) dX3_works_28 (fun H locs hM11 => ?_)
  clear hM3
  obtain ⟨σ12, eσ12⟩ : ∃ y, y = sI σ4 16 j9 ((mI σ4 0 1) + (mI σ4 1 j7)) := ⟨_, rfl⟩
  rw [← eσ12] at hM11
  replace h := h σ12 eσ12
  exact mr_vret C hM11 hr hlk h dX3_works_29
def w_X3_begins (y1 : Int32) (y2 : Int32) (y3 : Int32) (σ0 : mS) (Q : mS → Prop) : Prop := (∀ σ3, σ3 = sI σ0 0 13 ((mI σ0 0 13) + (1 : Int32)) → (∃ j4, (mI σ0 0 13) = nI j4 ∧ (j4 < 200 ∧ (∀ σ7, σ7 = sI σ3 12 j4 y1 → (∃ j8, (mI σ0 0 13) = nI j8 ∧ (j8 < 200 ∧ (∀ σ11, σ11 = sI σ7 13 j8 y2 → (∃ j12, (mI σ0 0 13) = nI j12 ∧ (j12 < 200 ∧ (∀ σ15, σ15 = sI σ11 14 j12 y3 → (∃ j16, (mI σ0 0 13) = nI j16 ∧ (j16 < 200 ∧ (∀ σ19, σ19 = sI σ15 18 j16 (mI σ15 0 1) → (∃ J72 : Int32 → mS → Prop, (∀ (xk0_72 : Int32) (σ_72 : mS), J72 xk0_72 σ_72 → (∃ j20, (mI σ0 0 13) = nI j20 ∧ (j20 < 200 ∧ (∀ σ23, σ23 = sI σ_72 19 j20 xk0_72 → (∃ j24, (mI σ0 0 13) = nI j24 ∧ (j24 < 200 ∧ (∀ σ27, σ27 = sI σ23 17 j24 (-1 : Int32) → (∃ j28, (mI σ0 0 13) = nI j28 ∧ (j28 < 200 ∧ (∀ σ31, σ31 = sI σ27 24 j28 (vp_nar .boolean (0 : Int32)) → (∃ j32, (mI σ0 0 13) = nI j32 ∧ (j32 < 200 ∧ (∀ σ35, σ35 = sI σ31 15 j32 (3 : Int32) → w_X3_manyOf y1 (1 : Int32) σ35 (fun x39 σ36 => w_X3_manyOf y1 (0 : Int32) σ36 (fun x44 σ41 => w_X3_isOpenNow y1 σ41 (fun x49 σ46 => ((x49 = 0 → (∃ j51, y1 = nI j51 ∧ (j51 < 6 ∧ (((mI σ46 1 j51) ≤ (y2 - (mI σ46 0 1)) → (∃ j54, y1 = nI j54 ∧ (j54 < 6 ∧ (((mI σ46 6 j54) ≤ x39 → (∃ j57, y1 = nI j57 ∧ (j57 < 6 ∧ (((mI σ46 7 j57) ≤ x44 → w_X3_ends (mI σ0 0 13) (6 : Int32) σ46 (fun x63 σ60 => (Q σ60))) ∧ (¬ (mI σ46 7 j57) ≤ x44 → (∃ j64, (mI σ0 0 13) = nI j64 ∧ (j64 < 200 ∧ (∀ σ67, σ67 = sI σ46 15 j64 (0 : Int32) → (Q σ67))))))))) ∧ (¬ (mI σ46 6 j54) ≤ x39 → w_X3_works (mI σ0 0 13) σ46 (fun σ68 => (Q σ68))))))) ∧ (¬ (mI σ46 1 j51) ≤ (y2 - (mI σ46 0 1)) → w_X3_ends (mI σ0 0 13) (6 : Int32) σ46 (fun x74 σ71 => (Q σ71))))))) ∧ (¬ x49 = 0 → w_X3_ends (mI σ0 0 13) (4 : Int32) σ46 (fun x78 σ75 => (Q σ75)))))))))))))))))))) ∧ ((¬ y3 = (-1 : Int32) → (∃ j80, y3 = nI j80 ∧ (j80 < 200 ∧ (J72 (mI σ19 22 j80) σ19)))) ∧ (y3 = (-1 : Int32) → (J72 (0 : Int32) σ19)))))))))))))))))
set_option maxRecDepth 100000 in
set_option maxHeartbeats 4000000 in
theorem c_X3_begins (l : Launch) (G : mG) (ad : Nat → Nat) (y1 : Int32) (y2 : Int32) (y3 : Int32) (σ0 : mS) (Q : mS → Prop) (h : w_X3_begins y1 y2 y3 σ0 Q) : mKv l yX3_begins cX3_begins 7 2 45 G kdM ad σ0 [mV ad (some 0), .int y1, .int y2, .int y3] Q := by
  refine mr_start (lst := [(0, mV ad (some 0)), (1, .int y1), (2, .int y2), (3, .int y3)]) (by decide) (m_cR (m_cI (m_cI (m_cI m_c0)))) rfl (Nat.le_of_ble_eq_true rfl) (fun p e s m below meth c C hM hr hlk ls hl => ?_)
  have hx := C.1.1
  have hb := C.1.2.1
  unfold w_X3_begins at h
  refine mr_aload_n C dX3_begins_0 rfl (ml_at hl 0 rfl) ?_
  refine fg_X3_94 C hM (mO_fix hM rfl (by decide) (by decide) (by decide)) dX3_begins_1 ?_
  refine mr_istore (lv' := [(4, .int (mI σ0 0 13)), (0, mV ad (some 0)), (1, .int y1), (2, .int y2), (3, .int y3)]) C hl dX3_begins_4 (by decide) rfl (fun ls hl1 => ?_)
  clear hl
  refine mr_aload_n C dX3_begins_6 rfl (ml_at hl1 1 rfl) ?_
  refine lv_dup hx hb dX3_begins_7 (mV_cat _ _) ?_
  refine fg_X3_94 C hM (mO_fix hM rfl (by decide) (by decide) (by decide)) dX3_begins_8 ?_
  refine lv_iconst (v := 1) hx hb dX3_begins_11 (by decide) ?_
  refine lv_iadd hx hb dX3_begins_12 ?_
  refine fp_X3_94 C hM (mO_fix hM rfl (by decide) (by decide) (by decide)) dX3_begins_13 ((mI σ0 0 13) + (1 : Int32)) (fun H locs hM2 => ?_)
  clear hM
  obtain ⟨σ3, eσ3⟩ : ∃ y, y = sI σ0 0 13 ((mI σ0 0 13) + (1 : Int32)) := ⟨_, rfl⟩
  rw [← eσ3] at hM2
  replace h := h σ3 eσ3
  refine mr_aload_n C dX3_begins_16 rfl (ml_at hl1 1 rfl) ?_
  refine fg_X3_43 (i := 0) C hM2 (mO_fix hM2 rfl (by decide) (by decide) (by decide)) dX3_begins_17 ?_
  refine lv_iload hx hb dX3_begins_20 (ml_at hl1 0 rfl) ?_
  refine lv_iload_n hx hb dX3_begins_22 rfl (ml_at hl1 2 rfl) ?_
  obtain ⟨j4, ej5, ej5b, h⟩ := h
  refine mr_iast C hM2 (mB_fix hM2 rfl (by decide) (by decide) (by decide)) ej5 ej5b (by decide) dX3_begins_23 (fun H locs hM6 => ?_)
  clear hM2
  obtain ⟨σ7, eσ7⟩ : ∃ y, y = sI σ3 12 j4 y1 := ⟨_, rfl⟩
  rw [← eσ7] at hM6
  replace h := h σ7 eσ7
  refine mr_aload_n C dX3_begins_24 rfl (ml_at hl1 1 rfl) ?_
  refine fg_X3_46 (i := 0) C hM6 (mO_fix hM6 rfl (by decide) (by decide) (by decide)) dX3_begins_25 ?_
  refine lv_iload hx hb dX3_begins_28 (ml_at hl1 0 rfl) ?_
  refine lv_iload_n hx hb dX3_begins_30 rfl (ml_at hl1 3 rfl) ?_
  obtain ⟨j8, ej9, ej9b, h⟩ := h
  refine mr_iast C hM6 (mB_fix hM6 rfl (by decide) (by decide) (by decide)) ej9 ej9b (by decide) dX3_begins_31 (fun H locs hM10 => ?_)
  clear hM6
  obtain ⟨σ11, eσ11⟩ : ∃ y, y = sI σ7 13 j8 y2 := ⟨_, rfl⟩
  rw [← eσ11] at hM10
  replace h := h σ11 eσ11
  refine mr_aload_n C dX3_begins_32 rfl (ml_at hl1 1 rfl) ?_
  refine fg_X3_49 (i := 0) C hM10 (mO_fix hM10 rfl (by decide) (by decide) (by decide)) dX3_begins_33 ?_
  refine lv_iload hx hb dX3_begins_36 (ml_at hl1 0 rfl) ?_
  refine lv_iload_n hx hb dX3_begins_38 rfl (ml_at hl1 4 rfl) ?_
  obtain ⟨j12, ej13, ej13b, h⟩ := h
  refine mr_iast C hM10 (mB_fix hM10 rfl (by decide) (by decide) (by decide)) ej13 ej13b (by decide) dX3_begins_39 (fun H locs hM14 => ?_)
  clear hM10
  obtain ⟨σ15, eσ15⟩ : ∃ y, y = sI σ11 14 j12 y3 := ⟨_, rfl⟩
  rw [← eσ15] at hM14
  replace h := h σ15 eσ15
  refine mr_aload_n C dX3_begins_40 rfl (ml_at hl1 1 rfl) ?_
  refine fg_X3_61 (i := 0) C hM14 (mO_fix hM14 rfl (by decide) (by decide) (by decide)) dX3_begins_41 ?_
  refine lv_iload hx hb dX3_begins_44 (ml_at hl1 0 rfl) ?_
  refine mr_aload_n C dX3_begins_46 rfl (ml_at hl1 1 rfl) ?_
  refine fg_X3_101 C hM14 (mO_fix hM14 rfl (by decide) (by decide) (by decide)) dX3_begins_47 ?_
  obtain ⟨j16, ej17, ej17b, h⟩ := h
  refine mr_iast C hM14 (mB_fix hM14 rfl (by decide) (by decide) (by decide)) ej17 ej17b (by decide) dX3_begins_50 (fun H locs hM18 => ?_)
  clear hM14
  obtain ⟨σ19, eσ19⟩ : ∃ y, y = sI σ15 18 j16 (mI σ15 0 1) := ⟨_, rfl⟩
  rw [← eσ19] at hM18
  replace h := h σ19 eσ19
  refine mr_aload_n C dX3_begins_51 rfl (ml_at hl1 1 rfl) ?_
  refine fg_X3_64 (i := 0) C hM18 (mO_fix hM18 rfl (by decide) (by decide) (by decide)) dX3_begins_52 ?_
  refine lv_iload hx hb dX3_begins_55 (ml_at hl1 0 rfl) ?_
  refine lv_iload_n hx hb dX3_begins_57 rfl (ml_at hl1 4 rfl) ?_
  refine lv_iconst (v := -1) hx hb dX3_begins_58 (by decide) ?_
  obtain ⟨J72, hJ72, h⟩ := h
  have hj72 : ∀ (xk0_72 : Int32) (σ_72 : mS) (H : Heap) (locs : List Loc) (ls : Array Slot), J72 xk0_72 σ_72 → mM G kdM ad s σ_72 H locs → ml_has ls 7 [(0, mV ad (some 0)), (1, .int y1), (2, .int y2), (4, .int (mI σ0 0 13))] → W p l e (mRm 2 45) s m ([mV ad (some 0), .int y1, .int y2, .int y3] : List Value).toArray below meth c H locs 0 0 (MQ below (va_Qv Q (mPost G kdM ad) (mA ad)) ([mV ad (some 0), .int y1, .int y2, .int y3] : List Value).toArray s 0 0 (mA ad)) (F0 m 72 ls [.int xk0_72, .int (mI σ0 0 13), mV ad (some 19)]) := by
    intro xk0_72 σ_72 H locs ls h_72 hM_72 hl_72
    replace h_72 := hJ72 xk0_72 σ_72 h_72
    obtain ⟨j20, ej21, ej21b, h_72⟩ := h_72
    refine mr_iast C hM_72 (mB_fix hM_72 rfl (by decide) (by decide) (by decide)) ej21 ej21b (by decide) dX3_begins_72 (fun H locs hM22 => ?_)
    clear hM_72
    obtain ⟨σ23, eσ23⟩ : ∃ y, y = sI σ_72 19 j20 xk0_72 := ⟨_, rfl⟩
    rw [← eσ23] at hM22
    replace h_72 := h_72 σ23 eσ23
    refine mr_aload_n C dX3_begins_73 rfl (ml_at hl_72 0 rfl) ?_
    refine fg_X3_58 (i := 0) C hM22 (mO_fix hM22 rfl (by decide) (by decide) (by decide)) dX3_begins_74 ?_
    refine lv_iload hx hb dX3_begins_77 (ml_at hl_72 3 rfl) ?_
    refine lv_iconst (v := -1) hx hb dX3_begins_79 (by decide) ?_
    obtain ⟨j24, ej25, ej25b, h_72⟩ := h_72
    refine mr_iast C hM22 (mB_fix hM22 rfl (by decide) (by decide) (by decide)) ej25 ej25b (by decide) dX3_begins_80 (fun H locs hM26 => ?_)
    clear hM22
    obtain ⟨σ27, eσ27⟩ : ∃ y, y = sI σ23 17 j24 (-1 : Int32) := ⟨_, rfl⟩
    rw [← eσ27] at hM26
    replace h_72 := h_72 σ27 eσ27
    refine mr_aload_n C dX3_begins_81 rfl (ml_at hl_72 0 rfl) ?_
    refine fg_X3_79 (i := 0) C hM26 (mO_fix hM26 rfl (by decide) (by decide) (by decide)) dX3_begins_82 ?_
    refine lv_iload hx hb dX3_begins_85 (ml_at hl_72 3 rfl) ?_
    refine lv_iconst (v := 0) hx hb dX3_begins_87 (by decide) ?_
    obtain ⟨j28, ej29, ej29b, h_72⟩ := h_72
    refine mr_zast C hM26 (mB_fix hM26 rfl (by decide) (by decide) (by decide)) ej29 ej29b (by decide) dX3_begins_88 (fun H locs hM30 => ?_)
    clear hM26
    obtain ⟨σ31, eσ31⟩ : ∃ y, y = sI σ27 24 j28 (vp_nar .boolean (0 : Int32)) := ⟨_, rfl⟩
    rw [← eσ31] at hM30
    replace h_72 := h_72 σ31 eσ31
    refine mr_aload_n C dX3_begins_89 rfl (ml_at hl_72 0 rfl) ?_
    refine fg_X3_52 (i := 0) C hM30 (mO_fix hM30 rfl (by decide) (by decide) (by decide)) dX3_begins_90 ?_
    refine lv_iload hx hb dX3_begins_93 (ml_at hl_72 3 rfl) ?_
    refine lv_iconst (v := 3) hx hb dX3_begins_95 (by decide) ?_
    obtain ⟨j32, ej33, ej33b, h_72⟩ := h_72
    refine mr_iast C hM30 (mB_fix hM30 rfl (by decide) (by decide) (by decide)) ej33 ej33b (by decide) dX3_begins_96 (fun H locs hM34 => ?_)
    clear hM30
    obtain ⟨σ35, eσ35⟩ : ∃ y, y = sI σ31 15 j32 (3 : Int32) := ⟨_, rfl⟩
    rw [← eσ35] at hM34
    replace h_72 := h_72 σ35 eσ35
    refine mr_aload_n C dX3_begins_97 rfl (ml_at hl_72 0 rfl) ?_
    refine lv_iload_n hx hb dX3_begins_98 rfl (ml_at hl_72 1 rfl) ?_
    refine lv_iconst (v := 1) hx hb dX3_begins_99 (by decide) ?_
    refine mr_ci hM34 (mr_runV (As := [.int y1, .int (1 : Int32)]) C hM34 hl_72.1.1 (c_X3_manyOf l G ad y1 (1 : Int32) σ35 _ h_72) cw_X3_107 (mO_fix hM34 rfl (by decide) (by decide) (by decide)) rfl rfl (n := 2) ⟨rfl, by decide, by decide, by decide +kernel⟩ rfl rfl ⟨Nat.le_of_ble_eq_true rfl, Nat.le_of_ble_eq_true rfl⟩ m_c0 (Nat.le_of_ble_eq_true rfl) dX3_begins_100 ⟨Nat.zero_le _, Nat.zero_le _⟩) (fun x39 σ36 H locs h37 hM38 => ?_)
    clear h_72 hM34
    refine mr_istore (lv' := [(5, .int x39), (0, mV ad (some 0)), (1, .int y1), (2, .int y2), (4, .int (mI σ0 0 13))]) C hl_72 dX3_begins_103 (by decide) rfl (fun ls hl40 => ?_)
    clear hl_72
    refine mr_aload_n C dX3_begins_105 rfl (ml_at hl40 1 rfl) ?_
    refine lv_iload_n hx hb dX3_begins_106 rfl (ml_at hl40 2 rfl) ?_
    refine lv_iconst (v := 0) hx hb dX3_begins_107 (by decide) ?_
    refine mr_ci hM38 (mr_runV (As := [.int y1, .int (0 : Int32)]) C hM38 hl40.1.1 (c_X3_manyOf l G ad y1 (0 : Int32) σ36 _ h37) cw_X3_107 (mO_fix hM38 rfl (by decide) (by decide) (by decide)) rfl rfl (n := 2) ⟨rfl, by decide, by decide, by decide +kernel⟩ rfl rfl ⟨Nat.le_of_ble_eq_true rfl, Nat.le_of_ble_eq_true rfl⟩ m_c0 (Nat.le_of_ble_eq_true rfl) dX3_begins_108 ⟨Nat.zero_le _, Nat.zero_le _⟩) (fun x44 σ41 H locs h42 hM43 => ?_)
    clear h37 hM38
    refine mr_istore (lv' := [(6, .int x44), (5, .int x39), (0, mV ad (some 0)), (1, .int y1), (2, .int y2), (4, .int (mI σ0 0 13))]) C hl40 dX3_begins_111 (by decide) rfl (fun ls hl45 => ?_)
    clear hl40
    refine mr_aload_n C dX3_begins_113 rfl (ml_at hl45 2 rfl) ?_
    refine lv_iload_n hx hb dX3_begins_114 rfl (ml_at hl45 3 rfl) ?_
    refine mr_ci hM43 (mr_runV (As := [.int y1]) C hM43 hl45.1.1 (c_X3_isOpenNow l G ad y1 σ41 _ h42) cw_X3_111 (mO_fix hM43 rfl (by decide) (by decide) (by decide)) rfl rfl (n := 1) ⟨rfl, by decide, by decide, by decide +kernel⟩ rfl rfl ⟨Nat.le_of_ble_eq_true rfl, Nat.le_of_ble_eq_true rfl⟩ m_c0 (Nat.le_of_ble_eq_true rfl) dX3_begins_115 ⟨Nat.zero_le _, Nat.zero_le _⟩) (fun x49 σ46 H locs h47 hM48 => ?_)
    clear h42 hM43
    obtain ⟨h47, hzx49⟩ := h47
    refine lv_if_eq (tgt := 132) hx hb dX3_begins_118 (by decide) (fun hc50 => ?_) (fun hc50 => ?_)
    · replace h47 := h47.1 hc50
      refine lv_iload_n hx hb dX3_begins_132 rfl (ml_at hl45 4 rfl) ?_
      refine mr_aload_n C dX3_begins_133 rfl (ml_at hl45 2 rfl) ?_
      refine fg_X3_101 C hM48 (mO_fix hM48 rfl (by decide) (by decide) (by decide)) dX3_begins_134 ?_
      refine lv_isub hx hb dX3_begins_137 ?_
      refine mr_aload_n C dX3_begins_138 rfl (ml_at hl45 2 rfl) ?_
      refine fg_X3_7 (i := 0) C hM48 (mO_fix hM48 rfl (by decide) (by decide) (by decide)) dX3_begins_139 ?_
      refine lv_iload_n hx hb dX3_begins_142 rfl (ml_at hl45 3 rfl) ?_
      obtain ⟨j51, ej52, ej52b, h47⟩ := h47
      refine mr_iald C hM48 (mB_fix hM48 rfl (by decide) (by decide) (by decide)) ej52 ej52b (by decide) dX3_begins_143 ?_
      refine lv_icmp_ge (tgt := 159) hx hb dX3_begins_144 (by decide) (fun hc53 => ?_) (fun hc53 => ?_)
      · replace h47 := h47.1 hc53
        refine lv_iload hx hb dX3_begins_159 (ml_at hl45 1 rfl) ?_
        refine mr_aload_n C dX3_begins_161 rfl (ml_at hl45 2 rfl) ?_
        refine fg_X3_25 (i := 0) C hM48 (mO_fix hM48 rfl (by decide) (by decide) (by decide)) dX3_begins_162 ?_
        refine lv_iload_n hx hb dX3_begins_165 rfl (ml_at hl45 3 rfl) ?_
        obtain ⟨j54, ej55, ej55b, h47⟩ := h47
        refine mr_iald C hM48 (mB_fix hM48 rfl (by decide) (by decide) (by decide)) ej55 ej55b (by decide) dX3_begins_166 ?_
        refine lv_icmp_ge (tgt := 179) hx hb dX3_begins_167 (by decide) (fun hc56 => ?_) (fun hc56 => ?_)
        · replace h47 := h47.1 hc56
          refine lv_iload hx hb dX3_begins_179 (ml_at hl45 0 rfl) ?_
          refine mr_aload_n C dX3_begins_181 rfl (ml_at hl45 2 rfl) ?_
          refine fg_X3_28 (i := 0) C hM48 (mO_fix hM48 rfl (by decide) (by decide) (by decide)) dX3_begins_182 ?_
          refine lv_iload_n hx hb dX3_begins_185 rfl (ml_at hl45 3 rfl) ?_
          obtain ⟨j57, ej58, ej58b, h47⟩ := h47
          refine mr_iald C hM48 (mB_fix hM48 rfl (by decide) (by decide) (by decide)) ej58 ej58b (by decide) dX3_begins_186 ?_
          refine lv_icmp_ge (tgt := 201) hx hb dX3_begins_187 (by decide) (fun hc59 => ?_) (fun hc59 => ?_)
          · replace h47 := h47.1 hc59
            refine mr_aload_n C dX3_begins_201 rfl (ml_at hl45 2 rfl) ?_
            refine lv_iload hx hb dX3_begins_202 (ml_at hl45 5 rfl) ?_
            refine lv_bipush (v := 6) hx hb dX3_begins_204 (by decide) ?_
            refine mr_ci hM48 (mr_runV (As := [.int (mI σ0 0 13), .int (6 : Int32)]) C hM48 hl45.1.1 (c_X3_ends l G ad (mI σ0 0 13) (6 : Int32) σ46 _ h47) cw_X3_114 (mO_fix hM48 rfl (by decide) (by decide) (by decide)) rfl rfl (n := 2) ⟨rfl, by decide, by decide, by decide +kernel⟩ rfl rfl ⟨Nat.le_of_ble_eq_true rfl, Nat.le_of_ble_eq_true rfl⟩ m_c0 (Nat.le_of_ble_eq_true rfl) dX3_begins_206 ⟨Nat.zero_le _, Nat.zero_le _⟩) (fun x63 σ60 H locs h61 hM62 => ?_)
            clear h47 hM48
            refine lv_pop hx hb dX3_begins_209 rfl ?_
            exact mr_vret C hM62 hr hlk h61 dX3_begins_210
          · replace h47 := h47.2 hc59
            refine mr_aload_n C dX3_begins_190 rfl (ml_at hl45 2 rfl) ?_
            refine fg_X3_52 (i := 0) C hM48 (mO_fix hM48 rfl (by decide) (by decide) (by decide)) dX3_begins_191 ?_
            refine lv_iload hx hb dX3_begins_194 (ml_at hl45 5 rfl) ?_
            refine lv_iconst (v := 0) hx hb dX3_begins_196 (by decide) ?_
            obtain ⟨j64, ej65, ej65b, h47⟩ := h47
            refine mr_iast C hM48 (mB_fix hM48 rfl (by decide) (by decide) (by decide)) ej65 ej65b (by decide) dX3_begins_197 (fun H locs hM66 => ?_)
            clear hM48
            obtain ⟨σ67, eσ67⟩ : ∃ y, y = sI σ46 15 j64 (0 : Int32) := ⟨_, rfl⟩
            rw [← eσ67] at hM66
            replace h47 := h47 σ67 eσ67
            refine lv_goto (tgt := 210) hx hb dX3_begins_198 (by decide) ?_
            exact mr_vret C hM66 hr hlk h47 dX3_begins_210
        · replace h47 := h47.2 hc56
          refine mr_aload_n C dX3_begins_170 rfl (ml_at hl45 2 rfl) ?_
          refine lv_iload hx hb dX3_begins_171 (ml_at hl45 5 rfl) ?_
          refine mr_cv hM48 (mr_runV (As := [.int (mI σ0 0 13)]) C hM48 hl45.1.1 (c_X3_works l G ad (mI σ0 0 13) σ46 _ h47) cw_X3_117 (mO_fix hM48 rfl (by decide) (by decide) (by decide)) rfl rfl (n := 1) ⟨rfl, by decide, by decide, by decide +kernel⟩ rfl rfl ⟨Nat.le_of_ble_eq_true rfl, Nat.le_of_ble_eq_true rfl⟩ m_c0 (Nat.le_of_ble_eq_true rfl) dX3_begins_173 ⟨Nat.zero_le _, Nat.zero_le _⟩) (fun σ68 H locs h69 hM70 => ?_)
          clear h47 hM48
          refine lv_goto (tgt := 210) hx hb dX3_begins_176 (by decide) ?_
          exact mr_vret C hM70 hr hlk h69 dX3_begins_210
      · replace h47 := h47.2 hc53
        refine mr_aload_n C dX3_begins_147 rfl (ml_at hl45 2 rfl) ?_
        refine lv_iload hx hb dX3_begins_148 (ml_at hl45 5 rfl) ?_
        refine lv_bipush (v := 6) hx hb dX3_begins_150 (by decide) ?_
        refine mr_ci hM48 (mr_runV (As := [.int (mI σ0 0 13), .int (6 : Int32)]) C hM48 hl45.1.1 (c_X3_ends l G ad (mI σ0 0 13) (6 : Int32) σ46 _ h47) cw_X3_114 (mO_fix hM48 rfl (by decide) (by decide) (by decide)) rfl rfl (n := 2) ⟨rfl, by decide, by decide, by decide +kernel⟩ rfl rfl ⟨Nat.le_of_ble_eq_true rfl, Nat.le_of_ble_eq_true rfl⟩ m_c0 (Nat.le_of_ble_eq_true rfl) dX3_begins_152 ⟨Nat.zero_le _, Nat.zero_le _⟩) (fun x74 σ71 H locs h72 hM73 => ?_)
        clear h47 hM48
        refine lv_pop hx hb dX3_begins_155 rfl ?_
        refine lv_goto (tgt := 210) hx hb dX3_begins_156 (by decide) ?_
        exact mr_vret C hM73 hr hlk h72 dX3_begins_210
    · replace h47 := h47.2 hc50
      refine mr_aload_n C dX3_begins_121 rfl (ml_at hl45 2 rfl) ?_
      refine lv_iload hx hb dX3_begins_122 (ml_at hl45 5 rfl) ?_
      refine lv_iconst (v := 4) hx hb dX3_begins_124 (by decide) ?_
      refine mr_ci hM48 (mr_runV (As := [.int (mI σ0 0 13), .int (4 : Int32)]) C hM48 hl45.1.1 (c_X3_ends l G ad (mI σ0 0 13) (4 : Int32) σ46 _ h47) cw_X3_114 (mO_fix hM48 rfl (by decide) (by decide) (by decide)) rfl rfl (n := 2) ⟨rfl, by decide, by decide, by decide +kernel⟩ rfl rfl ⟨Nat.le_of_ble_eq_true rfl, Nat.le_of_ble_eq_true rfl⟩ m_c0 (Nat.le_of_ble_eq_true rfl) dX3_begins_125 ⟨Nat.zero_le _, Nat.zero_le _⟩) (fun x78 σ75 H locs h76 hM77 => ?_)
      clear h47 hM48
      refine lv_pop hx hb dX3_begins_128 rfl ?_
      refine lv_goto (tgt := 210) hx hb dX3_begins_129 (by decide) ?_
      exact mr_vret C hM77 hr hlk h76 dX3_begins_210
  refine lv_icmp_ne (tgt := 66) hx hb dX3_begins_59 (by decide) (fun hc79 => ?_) (fun hc79 => ?_)
  · replace h := h.1 hc79
    refine mr_aload_n C dX3_begins_66 rfl (ml_at hl1 1 rfl) ?_
    refine fg_X3_73 (i := 0) C hM18 (mO_fix hM18 rfl (by decide) (by decide) (by decide)) dX3_begins_67 ?_
    refine lv_iload_n hx hb dX3_begins_70 rfl (ml_at hl1 4 rfl) ?_
    obtain ⟨j80, ej81, ej81b, h⟩ := h
    refine mr_iald C hM18 (mB_fix hM18 rfl (by decide) (by decide) (by decide)) ej81 ej81b (by decide) dX3_begins_71 ?_
    exact hj72 (mI σ19 22 j80) σ19 _ _ _ h hM18 (ml_sub hl1 [1, 2, 3, 0] rfl)
  · replace h := h.2 hc79
    refine lv_iconst (v := 0) hx hb dX3_begins_62 (by decide) ?_
    refine lv_goto (tgt := 72) hx hb dX3_begins_63 (by decide) ?_
    exact hj72 (0 : Int32) σ19 _ _ _ h hM18 (ml_sub hl1 [1, 2, 3, 0] rfl)
def w_X3_call (y1 : Int32) (y2 : Int32) (σ0 : mS) (Q : Int32 → mS → Prop) : Prop := w_X3_isService y1 σ0 (fun x4 σ1 => (∃ J41 : Int32 → mS → Prop, (∀ (xk0_41 : Int32) (σ_41 : mS), J41 xk0_41 σ_41 → (∀ σ6, σ6 = sI σ_41 0 0 xk0_41 → (((mI σ6 0 0) ≤ 0 → w_X3_begins y1 ((mI σ6 0 1) + y2) (-1 : Int32) σ6 (fun σ8 => (Q ((mI σ8 0 13) - (1 : Int32)) σ8))) ∧ (¬ (mI σ6 0 0) ≤ 0 → (Q (0 : Int32) σ6))))) ∧ ((¬ x4 = 0 → w_X3_in y2 (1 : Int32) (100 : Int32) σ1 (fun x15 σ12 => ((¬ x15 = 0 → ((¬ (mI σ12 0 13) = (200 : Int32) → (J41 (0 : Int32) σ12)) ∧ ((mI σ12 0 13) = (200 : Int32) → (J41 (3 : Int32) σ12)))) ∧ (x15 = 0 → (J41 (2 : Int32) σ12))))) ∧ (x4 = 0 → (J41 (1 : Int32) σ1)))))
set_option maxRecDepth 100000 in
set_option maxHeartbeats 4000000 in
theorem c_X3_call (l : Launch) (G : mG) (ad : Nat → Nat) (y1 : Int32) (y2 : Int32) (σ0 : mS) (Q : Int32 → mS → Prop) (h : w_X3_call y1 y2 σ0 Q) : mKi l yX3_call cX3_call 3 3 71 G kdM ad σ0 [mV ad (some 0), .int y1, .int y2] Q := by
  refine mr_start (lst := [(0, mV ad (some 0)), (1, .int y1), (2, .int y2)]) (by decide) (m_cR (m_cI (m_cI m_c0))) rfl (Nat.le_of_ble_eq_true rfl) (fun p e s m below meth c C hM hr hlk ls hl => ?_)
  have hx := C.1.1
  have hb := C.1.2.1
  unfold w_X3_call at h
  refine mr_aload_n C dX3_call_0 rfl (ml_at hl 0 rfl) ?_
  refine lv_iload_n hx hb dX3_call_1 rfl (ml_at hl 1 rfl) ?_
  refine mr_ci hM (mr_runS (As := [.int y1]) C hM hl.1.1 (c_X3_isService l G ad y1 σ0 _ h) cw_X3_97 (n := 1) ⟨rfl, by decide, by decide, by decide +kernel⟩ rfl rfl ⟨Nat.le_of_ble_eq_true rfl, Nat.le_of_ble_eq_true rfl⟩ (m_cR m_c0) (Nat.le_of_ble_eq_true rfl) dX3_call_2 ⟨Nat.zero_le _, Nat.zero_le _⟩) (fun x4 σ1 H locs h2 hM3 => ?_)
  clear h hM
  obtain ⟨h2, hzx4⟩ := h2
  obtain ⟨J41, hJ41, h2⟩ := h2
  have hj41 : ∀ (xk0_41 : Int32) (σ_41 : mS) (H : Heap) (locs : List Loc) (ls : Array Slot), J41 xk0_41 σ_41 → mM G kdM ad s σ_41 H locs → ml_has ls 3 [(0, mV ad (some 0)), (1, .int y1), (2, .int y2)] → W p l e (mRm 3 71) s m ([mV ad (some 0), .int y1, .int y2] : List Value).toArray below meth c H locs 0 0 (MQ below (va_Qi Q (mPost G kdM ad) (mA ad)) ([mV ad (some 0), .int y1, .int y2] : List Value).toArray s 0 0 (mA ad)) (F0 m 41 ls [.int xk0_41, mV ad (some 0)]) := by
    intro xk0_41 σ_41 H locs ls h_41 hM_41 hl_41
    replace h_41 := hJ41 xk0_41 σ_41 h_41
    refine fp_X3_86 C hM_41 (mO_fix hM_41 rfl (by decide) (by decide) (by decide)) dX3_call_41 xk0_41 (fun H locs hM5 => ?_)
    clear hM_41
    obtain ⟨σ6, eσ6⟩ : ∃ y, y = sI σ_41 0 0 xk0_41 := ⟨_, rfl⟩
    rw [← eσ6] at hM5
    replace h_41 := h_41 σ6 eσ6
    refine mr_aload_n C dX3_call_44 rfl (ml_at hl_41 0 rfl) ?_
    refine fg_X3_86 C hM5 (mO_fix hM5 rfl (by decide) (by decide) (by decide)) dX3_call_45 ?_
    refine lv_if_le (tgt := 53) hx hb dX3_call_48 (by decide) (fun hc7 => ?_) (fun hc7 => ?_)
    · replace h_41 := h_41.1 hc7
      refine mr_aload_n C dX3_call_53 rfl (ml_at hl_41 0 rfl) ?_
      refine lv_iload_n hx hb dX3_call_54 rfl (ml_at hl_41 1 rfl) ?_
      refine mr_aload_n C dX3_call_55 rfl (ml_at hl_41 0 rfl) ?_
      refine fg_X3_101 C hM5 (mO_fix hM5 rfl (by decide) (by decide) (by decide)) dX3_call_56 ?_
      refine lv_iload_n hx hb dX3_call_59 rfl (ml_at hl_41 2 rfl) ?_
      refine lv_iadd hx hb dX3_call_60 ?_
      refine lv_iconst (v := -1) hx hb dX3_call_61 (by decide) ?_
      refine mr_cv hM5 (mr_runV (As := [.int y1, .int ((mI σ6 0 1) + y2), .int (-1 : Int32)]) C hM5 hl_41.1.1 (c_X3_begins l G ad y1 ((mI σ6 0 1) + y2) (-1 : Int32) σ6 _ h_41) cw_X3_121 (mO_fix hM5 rfl (by decide) (by decide) (by decide)) rfl rfl (n := 3) ⟨rfl, by decide, by decide, by decide +kernel⟩ rfl rfl ⟨Nat.le_of_ble_eq_true rfl, Nat.le_of_ble_eq_true rfl⟩ m_c0 (Nat.le_of_ble_eq_true rfl) dX3_call_62 ⟨Nat.zero_le _, Nat.zero_le _⟩) (fun σ8 H locs h9 hM10 => ?_)
      clear h_41 hM5
      refine mr_aload_n C dX3_call_65 rfl (ml_at hl_41 0 rfl) ?_
      refine fg_X3_94 C hM10 (mO_fix hM10 rfl (by decide) (by decide) (by decide)) dX3_call_66 ?_
      refine lv_iconst (v := 1) hx hb dX3_call_69 (by decide) ?_
      refine lv_isub hx hb dX3_call_70 ?_
      exact mr_iret C hM10 hr hlk h9 dX3_call_71
    · replace h_41 := h_41.2 hc7
      refine lv_iconst (v := 0) hx hb dX3_call_51 (by decide) ?_
      exact mr_iret C hM5 hr hlk h_41 dX3_call_52
  refine lv_if_ne (tgt := 12) hx hb dX3_call_5 (by decide) (fun hc11 => ?_) (fun hc11 => ?_)
  · replace h2 := h2.1 hc11
    refine lv_iload_n hx hb dX3_call_12 rfl (ml_at hl 2 rfl) ?_
    refine lv_iconst (v := 1) hx hb dX3_call_13 (by decide) ?_
    refine lv_bipush (v := 100) hx hb dX3_call_14 (by decide) ?_
    refine mr_ci hM3 (mr_runS (As := [.int y2, .int (1 : Int32), .int (100 : Int32)]) C hM3 hl.1.1 (c_X3_in l G ad y2 (1 : Int32) (100 : Int32) σ1 _ h2) cw_X3_90 (n := 3) ⟨rfl, by decide, by decide, by decide +kernel⟩ rfl rfl ⟨Nat.le_of_ble_eq_true rfl, Nat.le_of_ble_eq_true rfl⟩ (m_cR m_c0) (Nat.le_of_ble_eq_true rfl) dX3_call_16 ⟨Nat.zero_le _, Nat.zero_le _⟩) (fun x15 σ12 H locs h13 hM14 => ?_)
    clear h2 hM3
    obtain ⟨h13, hzx15⟩ := h13
    refine lv_if_ne (tgt := 26) hx hb dX3_call_19 (by decide) (fun hc16 => ?_) (fun hc16 => ?_)
    · replace h13 := h13.1 hc16
      refine mr_aload_n C dX3_call_26 rfl (ml_at hl 0 rfl) ?_
      refine fg_X3_94 C hM14 (mO_fix hM14 rfl (by decide) (by decide) (by decide)) dX3_call_27 ?_
      refine lv_sipush (v := 200) hx hb dX3_call_30 (by decide) ?_
      refine lv_icmp_ne (tgt := 40) hx hb dX3_call_33 (by decide) (fun hc17 => ?_) (fun hc17 => ?_)
      · replace h13 := h13.1 hc17
        refine lv_iconst (v := 0) hx hb dX3_call_40 (by decide) ?_
        exact hj41 (0 : Int32) σ12 _ _ _ h13 hM14 (ml_sub hl [0, 1, 2] rfl)
      · replace h13 := h13.2 hc17
        refine lv_iconst (v := 3) hx hb dX3_call_36 (by decide) ?_
        refine lv_goto (tgt := 41) hx hb dX3_call_37 (by decide) ?_
        exact hj41 (3 : Int32) σ12 _ _ _ h13 hM14 (ml_sub hl [0, 1, 2] rfl)
    · replace h13 := h13.2 hc16
      refine lv_iconst (v := 2) hx hb dX3_call_22 (by decide) ?_
      refine lv_goto (tgt := 41) hx hb dX3_call_23 (by decide) ?_
      exact hj41 (2 : Int32) σ12 _ _ _ h13 hM14 (ml_sub hl [0, 1, 2] rfl)
  · replace h2 := h2.2 hc11
    refine lv_iconst (v := 1) hx hb dX3_call_8 (by decide) ?_
    refine lv_goto (tgt := 41) hx hb dX3_call_9 (by decide) ?_
    exact hj41 (1 : Int32) σ1 _ _ _ h2 hM3 (ml_sub hl [0, 1, 2] rfl)
def w_X3_cancel (y1 : Int32) (σ0 : mS) (Q : Int32 → mS → Prop) : Prop := w_X3_isCall y1 σ0 (fun x4 σ1 => (∃ J36 : Int32 → mS → Prop, (∀ (xk0_36 : Int32) (σ_36 : mS), J36 xk0_36 σ_36 → (∀ σ6, σ6 = sI σ_36 0 0 xk0_36 → (((mI σ6 0 0) ≤ 0 → w_X3_ends y1 (7 : Int32) σ6 (fun x11 σ8 => (Q (x11 + (1 : Int32)) σ8))) ∧ (¬ (mI σ6 0 0) ≤ 0 → (Q (0 : Int32) σ6))))) ∧ ((¬ x4 = 0 → w_X3_isOver y1 σ1 (fun x16 σ13 => (∃ J31 : mS → Prop, (∀  (σ_31 : mS), J31  σ_31 → (J36 (2 : Int32) σ_31)) ∧ ((¬ x16 = 0 → (J31  σ13)) ∧ (x16 = 0 → (∃ j18, y1 = nI j18 ∧ (j18 < 200 ∧ (((mI σ13 14 j18) = (-1 : Int32) → (J36 (0 : Int32) σ13)) ∧ (¬ (mI σ13 14 j18) = (-1 : Int32) → (J31  σ13)))))))))) ∧ (x4 = 0 → (J36 (1 : Int32) σ1)))))
set_option maxRecDepth 100000 in
set_option maxHeartbeats 4000000 in
theorem c_X3_cancel (l : Launch) (G : mG) (ad : Nat → Nat) (y1 : Int32) (σ0 : mS) (Q : Int32 → mS → Prop) (h : w_X3_cancel y1 σ0 Q) : mKi l yX3_cancel cX3_cancel 2 2 45 G kdM ad σ0 [mV ad (some 0), .int y1] Q := by
  refine mr_start (lst := [(0, mV ad (some 0)), (1, .int y1)]) (by decide) (m_cR (m_cI m_c0)) rfl (Nat.le_of_ble_eq_true rfl) (fun p e s m below meth c C hM hr hlk ls hl => ?_)
  have hx := C.1.1
  have hb := C.1.2.1
  unfold w_X3_cancel at h
  refine mr_aload_n C dX3_cancel_0 rfl (ml_at hl 0 rfl) ?_
  refine mr_aload_n C dX3_cancel_1 rfl (ml_at hl 0 rfl) ?_
  refine lv_iload_n hx hb dX3_cancel_2 rfl (ml_at hl 1 rfl) ?_
  refine mr_ci hM (mr_runV (As := [.int y1]) C hM hl.1.1 (c_X3_isCall l G ad y1 σ0 _ h) cw_X3_125 (mO_fix hM rfl (by decide) (by decide) (by decide)) rfl rfl (n := 1) ⟨rfl, by decide, by decide, by decide +kernel⟩ rfl rfl ⟨Nat.le_of_ble_eq_true rfl, Nat.le_of_ble_eq_true rfl⟩ (m_cR m_c0) (Nat.le_of_ble_eq_true rfl) dX3_cancel_3 ⟨Nat.zero_le _, Nat.zero_le _⟩) (fun x4 σ1 H locs h2 hM3 => ?_)
  clear h hM
  obtain ⟨h2, hzx4⟩ := h2
  obtain ⟨J36, hJ36, h2⟩ := h2
  have hj36 : ∀ (xk0_36 : Int32) (σ_36 : mS) (H : Heap) (locs : List Loc) (ls : Array Slot), J36 xk0_36 σ_36 → mM G kdM ad s σ_36 H locs → ml_has ls 2 [(0, mV ad (some 0)), (1, .int y1)] → W p l e (mRm 2 45) s m ([mV ad (some 0), .int y1] : List Value).toArray below meth c H locs 0 0 (MQ below (va_Qi Q (mPost G kdM ad) (mA ad)) ([mV ad (some 0), .int y1] : List Value).toArray s 0 0 (mA ad)) (F0 m 36 ls [.int xk0_36, mV ad (some 0)]) := by
    intro xk0_36 σ_36 H locs ls h_36 hM_36 hl_36
    replace h_36 := hJ36 xk0_36 σ_36 h_36
    refine fp_X3_86 C hM_36 (mO_fix hM_36 rfl (by decide) (by decide) (by decide)) dX3_cancel_36 xk0_36 (fun H locs hM5 => ?_)
    clear hM_36
    obtain ⟨σ6, eσ6⟩ : ∃ y, y = sI σ_36 0 0 xk0_36 := ⟨_, rfl⟩
    rw [← eσ6] at hM5
    replace h_36 := h_36 σ6 eσ6
    refine mr_aload_n C dX3_cancel_39 rfl (ml_at hl_36 0 rfl) ?_
    refine fg_X3_86 C hM5 (mO_fix hM5 rfl (by decide) (by decide) (by decide)) dX3_cancel_40 ?_
    refine lv_if_le (tgt := 50) hx hb dX3_cancel_43 (by decide) (fun hc7 => ?_) (fun hc7 => ?_)
    · replace h_36 := h_36.1 hc7
      refine mr_aload_n C dX3_cancel_50 rfl (ml_at hl_36 0 rfl) ?_
      refine lv_iload_n hx hb dX3_cancel_51 rfl (ml_at hl_36 1 rfl) ?_
      refine lv_bipush (v := 7) hx hb dX3_cancel_52 (by decide) ?_
      refine mr_ci hM5 (mr_runV (As := [.int y1, .int (7 : Int32)]) C hM5 hl_36.1.1 (c_X3_ends l G ad y1 (7 : Int32) σ6 _ h_36) cw_X3_114 (mO_fix hM5 rfl (by decide) (by decide) (by decide)) rfl rfl (n := 2) ⟨rfl, by decide, by decide, by decide +kernel⟩ rfl rfl ⟨Nat.le_of_ble_eq_true rfl, Nat.le_of_ble_eq_true rfl⟩ m_c0 (Nat.le_of_ble_eq_true rfl) dX3_cancel_54 ⟨Nat.zero_le _, Nat.zero_le _⟩) (fun x11 σ8 H locs h9 hM10 => ?_)
      clear h_36 hM5
      refine lv_iconst (v := 1) hx hb dX3_cancel_57 (by decide) ?_
      refine lv_iadd hx hb dX3_cancel_58 ?_
      exact mr_iret C hM10 hr hlk h9 dX3_cancel_59
    · replace h_36 := h_36.2 hc7
      refine lv_iconst (v := 0) hx hb dX3_cancel_46 (by decide) ?_
      refine lv_goto (tgt := 59) hx hb dX3_cancel_47 (by decide) ?_
      exact mr_iret C hM5 hr hlk h_36 dX3_cancel_59
  refine lv_if_ne (tgt := 13) hx hb dX3_cancel_6 (by decide) (fun hc12 => ?_) (fun hc12 => ?_)
  · replace h2 := h2.1 hc12
    refine mr_aload_n C dX3_cancel_13 rfl (ml_at hl 0 rfl) ?_
    refine lv_iload_n hx hb dX3_cancel_14 rfl (ml_at hl 1 rfl) ?_
    refine mr_ci hM3 (mr_runV (As := [.int y1]) C hM3 hl.1.1 (c_X3_isOver l G ad y1 σ1 _ h2) cw_X3_104 (mO_fix hM3 rfl (by decide) (by decide) (by decide)) rfl rfl (n := 1) ⟨rfl, by decide, by decide, by decide +kernel⟩ rfl rfl ⟨Nat.le_of_ble_eq_true rfl, Nat.le_of_ble_eq_true rfl⟩ (m_cR m_c0) (Nat.le_of_ble_eq_true rfl) dX3_cancel_15 ⟨Nat.zero_le _, Nat.zero_le _⟩) (fun x16 σ13 H locs h14 hM15 => ?_)
    clear h2 hM3
    obtain ⟨h14, hzx16⟩ := h14
    obtain ⟨J31, hJ31, h14⟩ := h14
    have hj31 : ∀  (σ_31 : mS) (H : Heap) (locs : List Loc) (ls : Array Slot), J31  σ_31 → mM G kdM ad s σ_31 H locs → ml_has ls 2 [(0, mV ad (some 0)), (1, .int y1)] → W p l e (mRm 2 45) s m ([mV ad (some 0), .int y1] : List Value).toArray below meth c H locs 0 0 (MQ below (va_Qi Q (mPost G kdM ad) (mA ad)) ([mV ad (some 0), .int y1] : List Value).toArray s 0 0 (mA ad)) (F0 m 31 ls [mV ad (some 0)]) := by
      intro  σ_31 H locs ls h_31 hM_31 hl_31
      replace h_31 := hJ31  σ_31 h_31
      refine lv_iconst (v := 2) hx hb dX3_cancel_31 (by decide) ?_
      refine lv_goto (tgt := 36) hx hb dX3_cancel_32 (by decide) ?_
      exact hj36 (2 : Int32) σ_31 _ _ _ h_31 hM_31 (ml_sub hl_31 [0, 1] rfl)
    refine lv_if_ne (tgt := 31) hx hb dX3_cancel_18 (by decide) (fun hc17 => ?_) (fun hc17 => ?_)
    · replace h14 := h14.1 hc17
      exact hj31  σ13 _ _ _ h14 hM15 (ml_sub hl [0, 1] rfl)
    · replace h14 := h14.2 hc17
      refine mr_aload_n C dX3_cancel_21 rfl (ml_at hl 0 rfl) ?_
      refine fg_X3_49 (i := 0) C hM15 (mO_fix hM15 rfl (by decide) (by decide) (by decide)) dX3_cancel_22 ?_
      refine lv_iload_n hx hb dX3_cancel_25 rfl (ml_at hl 1 rfl) ?_
      obtain ⟨j18, ej19, ej19b, h14⟩ := h14
      refine mr_iald C hM15 (mB_fix hM15 rfl (by decide) (by decide) (by decide)) ej19 ej19b (by decide) dX3_cancel_26 ?_
      refine lv_iconst (v := -1) hx hb dX3_cancel_27 (by decide) ?_
      refine lv_icmp_eq (tgt := 35) hx hb dX3_cancel_28 (by decide) (fun hc20 => ?_) (fun hc20 => ?_)
      · replace h14 := h14.1 hc20
        refine lv_iconst (v := 0) hx hb dX3_cancel_35 (by decide) ?_
        exact hj36 (0 : Int32) σ13 _ _ _ h14 hM15 (ml_sub hl [0, 1] rfl)
      · replace h14 := h14.2 hc20
        exact hj31  σ13 _ _ _ h14 hM15 (ml_sub hl [0, 1] rfl)
  · replace h2 := h2.2 hc12
    refine lv_iconst (v := 1) hx hb dX3_cancel_9 (by decide) ?_
    refine lv_goto (tgt := 36) hx hb dX3_cancel_10 (by decide) ?_
    exact hj36 (1 : Int32) σ1 _ _ _ h2 hM3 (ml_sub hl [0, 1] rfl)
def w_X3_late  (σ0 : mS) (Q : mS → Prop) : Prop := (∃ I2 : Nat → Int32 → mS → Prop, (∀ (n2 : Nat) (x1_2 : Int32) (σ_2 : mS), I2 n2 x1_2 σ_2 → (((mI σ_2 0 13) ≤ x1_2 → (Q σ_2)) ∧ (¬ (mI σ_2 0 13) ≤ x1_2 → w_X3_isOver x1_2 σ_2 (fun x6 σ3 => ((¬ x6 = 0 → (∃ k9, k9 < n2 ∧ I2 k9 (x1_2 + 1) σ3)) ∧ (x6 = 0 → (∃ j10, x1_2 = nI j10 ∧ (j10 < 200 ∧ (((mI σ3 0 1) < (mI σ3 13 j10) → (∃ k14, k14 < n2 ∧ I2 k14 (x1_2 + 1) σ3)) ∧ (¬ (mI σ3 0 1) < (mI σ3 13 j10) → w_X3_ends x1_2 (5 : Int32) σ3 (fun x18 σ15 => (∃ j19, x1_2 = nI j19 ∧ (j19 < 200 ∧ w_X3_counts (mI σ15 12 j19) σ15 (fun σ21 => (∃ k25, k25 < n2 ∧ I2 k25 (x1_2 + 1) σ21))))))))))))))) ∧ ∃ n, I2 n (0 : Int32) σ0)
set_option maxRecDepth 100000 in
set_option maxHeartbeats 4000000 in
theorem c_X3_late (l : Launch) (G : mG) (ad : Nat → Nat)  (σ0 : mS) (Q : mS → Prop) (h : w_X3_late  σ0 Q) : mKv l yX3_late cX3_late 2 2 45 G kdM ad σ0 [mV ad (some 0)] Q := by
  refine mr_start (lst := [(0, mV ad (some 0))]) (by decide) (m_cR m_c0) rfl (Nat.le_of_ble_eq_true rfl) (fun p e s m below meth c C hM hr hlk ls hl => ?_)
  have hx := C.1.1
  have hb := C.1.2.1
  unfold w_X3_late at h
  refine lv_iconst (v := 0) hx hb dX3_late_0 (by decide) ?_
  refine mr_istore_n (lv' := [(1, .int (0 : Int32)), (0, mV ad (some 0))]) C hl dX3_late_1 rfl (by decide) rfl (fun ls hl1 => ?_)
  clear hl
  obtain ⟨I2, hI2, nn2, h⟩ := h
  have hL2 : ∀ (n2 : Nat) (x1_2 : Int32) (σ_2 : mS) (H : Heap) (locs : List Loc) (ls : Array Slot), I2 n2 x1_2 σ_2 → mM G kdM ad s σ_2 H locs → ml_has ls 2 [(0, mV ad (some 0)), (1, .int x1_2)] → W p l e (mRm 2 45) s m ([mV ad (some 0)] : List Value).toArray below meth c H locs 0 0 (MQ below (va_Qv Q (mPost G kdM ad) (mA ad)) ([mV ad (some 0)] : List Value).toArray s 0 0 (mA ad)) (F0 m 2 ls []) := by
    refine m_loop (fun n2 ih2 => ?_)
    intro x1_2 σ_2 H locs ls h_2 hM_2 hl_2
    replace h_2 := hI2 n2 x1_2 σ_2 h_2
    refine lv_iload_n hx hb dX3_late_2 rfl (ml_at hl_2 1 rfl) ?_
    refine mr_aload_n C dX3_late_3 rfl (ml_at hl_2 0 rfl) ?_
    refine fg_X3_94 C hM_2 (mO_fix hM_2 rfl (by decide) (by decide) (by decide)) dX3_late_4 ?_
    refine lv_icmp_ge (tgt := 54) hx hb dX3_late_7 (by decide) (fun hc2 => ?_) (fun hc2 => ?_)
    · replace h_2 := h_2.1 hc2
      exact mr_vret C hM_2 hr hlk h_2 dX3_late_54
    · replace h_2 := h_2.2 hc2
      refine mr_aload_n C dX3_late_10 rfl (ml_at hl_2 0 rfl) ?_
      refine lv_iload_n hx hb dX3_late_11 rfl (ml_at hl_2 1 rfl) ?_
      refine mr_ci hM_2 (mr_runV (As := [.int x1_2]) C hM_2 hl_2.1.1 (c_X3_isOver l G ad x1_2 σ_2 _ h_2) cw_X3_104 (mO_fix hM_2 rfl (by decide) (by decide) (by decide)) rfl rfl (n := 1) ⟨rfl, by decide, by decide, by decide +kernel⟩ rfl rfl ⟨Nat.le_of_ble_eq_true rfl, Nat.le_of_ble_eq_true rfl⟩ m_c0 (Nat.le_of_ble_eq_true rfl) dX3_late_12 ⟨Nat.zero_le _, Nat.zero_le _⟩) (fun x6 σ3 H locs h4 hM5 => ?_)
      clear h_2 hM_2
      obtain ⟨h4, hzx6⟩ := h4
      refine lv_if_ne (tgt := 48) hx hb dX3_late_15 (by decide) (fun hc7 => ?_) (fun hc7 => ?_)
      · replace h4 := h4.1 hc7
        refine mr_iinc (v := (x1_2 + 1)) (lv' := [(1, .int (x1_2 + 1)), (0, mV ad (some 0))]) C hl_2 dX3_late_48 (k := 1) rfl rfl (by decide) rfl (fun ls hl8 => ?_)
        clear hl_2
        refine lv_goto (tgt := 2) hx hb dX3_late_51 (by decide) ?_
        obtain ⟨k9, hk9, h4⟩ := h4
        exact ih2 k9 hk9 (x1_2 + 1) σ3 _ _ _ h4 hM5 (ml_sub hl8 [1, 0] rfl)
      · replace h4 := h4.2 hc7
        refine mr_aload_n C dX3_late_18 rfl (ml_at hl_2 0 rfl) ?_
        refine fg_X3_46 (i := 0) C hM5 (mO_fix hM5 rfl (by decide) (by decide) (by decide)) dX3_late_19 ?_
        refine lv_iload_n hx hb dX3_late_22 rfl (ml_at hl_2 1 rfl) ?_
        obtain ⟨j10, ej11, ej11b, h4⟩ := h4
        refine mr_iald C hM5 (mB_fix hM5 rfl (by decide) (by decide) (by decide)) ej11 ej11b (by decide) dX3_late_23 ?_
        refine mr_aload_n C dX3_late_24 rfl (ml_at hl_2 0 rfl) ?_
        refine fg_X3_101 C hM5 (mO_fix hM5 rfl (by decide) (by decide) (by decide)) dX3_late_25 ?_
        refine lv_icmp_gt (tgt := 48) hx hb dX3_late_28 (by decide) (fun hc12 => ?_) (fun hc12 => ?_)
        · replace h4 := h4.1 hc12
          refine mr_iinc (v := (x1_2 + 1)) (lv' := [(1, .int (x1_2 + 1)), (0, mV ad (some 0))]) C hl_2 dX3_late_48 (k := 1) rfl rfl (by decide) rfl (fun ls hl13 => ?_)
          clear hl_2
          refine lv_goto (tgt := 2) hx hb dX3_late_51 (by decide) ?_
          obtain ⟨k14, hk14, h4⟩ := h4
          exact ih2 k14 hk14 (x1_2 + 1) σ3 _ _ _ h4 hM5 (ml_sub hl13 [1, 0] rfl)
        · replace h4 := h4.2 hc12
          refine mr_aload_n C dX3_late_31 rfl (ml_at hl_2 0 rfl) ?_
          refine lv_iload_n hx hb dX3_late_32 rfl (ml_at hl_2 1 rfl) ?_
          refine lv_iconst (v := 5) hx hb dX3_late_33 (by decide) ?_
          refine mr_ci hM5 (mr_runV (As := [.int x1_2, .int (5 : Int32)]) C hM5 hl_2.1.1 (c_X3_ends l G ad x1_2 (5 : Int32) σ3 _ h4) cw_X3_114 (mO_fix hM5 rfl (by decide) (by decide) (by decide)) rfl rfl (n := 2) ⟨rfl, by decide, by decide, by decide +kernel⟩ rfl rfl ⟨Nat.le_of_ble_eq_true rfl, Nat.le_of_ble_eq_true rfl⟩ m_c0 (Nat.le_of_ble_eq_true rfl) dX3_late_34 ⟨Nat.zero_le _, Nat.zero_le _⟩) (fun x18 σ15 H locs h16 hM17 => ?_)
          clear h4 hM5
          refine lv_pop hx hb dX3_late_37 rfl ?_
          refine mr_aload_n C dX3_late_38 rfl (ml_at hl_2 0 rfl) ?_
          refine mr_aload_n C dX3_late_39 rfl (ml_at hl_2 0 rfl) ?_
          refine fg_X3_43 (i := 0) C hM17 (mO_fix hM17 rfl (by decide) (by decide) (by decide)) dX3_late_40 ?_
          refine lv_iload_n hx hb dX3_late_43 rfl (ml_at hl_2 1 rfl) ?_
          obtain ⟨j19, ej20, ej20b, h16⟩ := h16
          refine mr_iald C hM17 (mB_fix hM17 rfl (by decide) (by decide) (by decide)) ej20 ej20b (by decide) dX3_late_44 ?_
          refine mr_cv hM17 (mr_runV (As := [.int (mI σ15 12 j19)]) C hM17 hl_2.1.1 (c_X3_counts l G ad (mI σ15 12 j19) σ15 _ h16) cw_X3_128 (mO_fix hM17 rfl (by decide) (by decide) (by decide)) rfl rfl (n := 1) ⟨rfl, by decide, by decide, by decide +kernel⟩ rfl rfl ⟨Nat.le_of_ble_eq_true rfl, Nat.le_of_ble_eq_true rfl⟩ m_c0 (Nat.le_of_ble_eq_true rfl) dX3_late_45 ⟨Nat.zero_le _, Nat.zero_le _⟩) (fun σ21 H locs h22 hM23 => ?_)
          clear h16 hM17
          refine mr_iinc (v := (x1_2 + 1)) (lv' := [(1, .int (x1_2 + 1)), (0, mV ad (some 0))]) C hl_2 dX3_late_48 (k := 1) rfl rfl (by decide) rfl (fun ls hl24 => ?_)
          clear hl_2
          refine lv_goto (tgt := 2) hx hb dX3_late_51 (by decide) ?_
          obtain ⟨k25, hk25, h22⟩ := h22
          exact ih2 k25 hk25 (x1_2 + 1) σ21 _ _ _ h22 hM23 (ml_sub hl24 [1, 0] rfl)
  exact hL2 nn2 (0 : Int32) σ0 _ _ _ h hM (ml_sub hl1 [1, 0] rfl)
def w_X3_startsAsking (y1 : Int32) (σ0 : mS) (Q : mS → Prop) : Prop := (∃ j1, y1 = nI j1 ∧ (j1 < 200 ∧ (∃ j4, y1 = nI j4 ∧ (j4 < 200 ∧ (∀ σ7, σ7 = sI σ0 15 j4 (2 : Int32) → (∃ I16 : Nat → Int32 → mS → Prop, (∀ (n16 : Nat) (x3_16 : Int32) (σ_16 : mS), I16 n16 x3_16 σ_16 → (((3 : Int32) ≤ x3_16 → (∃ j10, (mI σ0 12 j1) = nI j10 ∧ (j10 < 6 ∧ (∃ j12, y1 = nI j12 ∧ (j12 < 200 ∧ (∀ σ15, σ15 = sI σ_16 21 j12 (mI σ_16 4 j10) → (∃ j16, y1 = nI j16 ∧ (j16 < 200 ∧ (∀ σ19, σ19 = sI σ15 22 j16 (0 : Int32) → (∃ j20, y1 = nI j20 ∧ (j20 < 200 ∧ (∀ σ23, σ23 = sI σ19 23 j20 (0 : Int32) → (∃ j24, y1 = nI j24 ∧ (j24 < 200 ∧ (∀ σ27, σ27 = sI σ23 24 j24 (vp_nar .boolean (1 : Int32)) → (Q σ27)))))))))))))))) ∧ (¬ (3 : Int32) ≤ x3_16 → (∃ j28, (((3 : Int32) * (mI σ0 12 j1)) + x3_16) = nI j28 ∧ (j28 < 18 ∧ (∃ j30, (((3 : Int32) * y1) + x3_16) = nI j30 ∧ (j30 < 600 ∧ (∀ σ33, σ33 = sI σ_16 20 j30 (mI σ_16 5 j28) → (∃ k35, k35 < n16 ∧ I16 k35 (x3_16 + 1) σ33))))))))) ∧ ∃ n, I16 n (0 : Int32) σ7))))))
set_option maxRecDepth 100000 in
set_option maxHeartbeats 4000000 in
theorem c_X3_startsAsking (l : Launch) (G : mG) (ad : Nat → Nat) (y1 : Int32) (σ0 : mS) (Q : mS → Prop) (h : w_X3_startsAsking y1 σ0 Q) : mKv l yX3_startsAsking cX3_startsAsking 4 0 0 G kdM ad σ0 [mV ad (some 0), .int y1] Q := by
  refine mr_start (lst := [(0, mV ad (some 0)), (1, .int y1)]) (by decide) (m_cR (m_cI m_c0)) rfl (Nat.le_of_ble_eq_true rfl) (fun p e s m below meth c C hM hr hlk ls hl => ?_)
  have hx := C.1.1
  have hb := C.1.2.1
  unfold w_X3_startsAsking at h
  refine mr_aload_n C dX3_startsAsking_0 rfl (ml_at hl 0 rfl) ?_
  refine fg_X3_43 (i := 0) C hM (mO_fix hM rfl (by decide) (by decide) (by decide)) dX3_startsAsking_1 ?_
  refine lv_iload_n hx hb dX3_startsAsking_4 rfl (ml_at hl 1 rfl) ?_
  obtain ⟨j1, ej2, ej2b, h⟩ := h
  refine mr_iald C hM (mB_fix hM rfl (by decide) (by decide) (by decide)) ej2 ej2b (by decide) dX3_startsAsking_5 ?_
  refine mr_istore_n (lv' := [(2, .int (mI σ0 12 j1)), (0, mV ad (some 0)), (1, .int y1)]) C hl dX3_startsAsking_6 rfl (by decide) rfl (fun ls hl3 => ?_)
  clear hl
  refine mr_aload_n C dX3_startsAsking_7 rfl (ml_at hl3 1 rfl) ?_
  refine fg_X3_52 (i := 0) C hM (mO_fix hM rfl (by decide) (by decide) (by decide)) dX3_startsAsking_8 ?_
  refine lv_iload_n hx hb dX3_startsAsking_11 rfl (ml_at hl3 2 rfl) ?_
  refine lv_iconst (v := 2) hx hb dX3_startsAsking_12 (by decide) ?_
  obtain ⟨j4, ej5, ej5b, h⟩ := h
  refine mr_iast C hM (mB_fix hM rfl (by decide) (by decide) (by decide)) ej5 ej5b (by decide) dX3_startsAsking_13 (fun H locs hM6 => ?_)
  clear hM
  obtain ⟨σ7, eσ7⟩ : ∃ y, y = sI σ0 15 j4 (2 : Int32) := ⟨_, rfl⟩
  rw [← eσ7] at hM6
  replace h := h σ7 eσ7
  refine lv_iconst (v := 0) hx hb dX3_startsAsking_14 (by decide) ?_
  refine mr_istore_n (lv' := [(3, .int (0 : Int32)), (2, .int (mI σ0 12 j1)), (0, mV ad (some 0)), (1, .int y1)]) C hl3 dX3_startsAsking_15 rfl (by decide) rfl (fun ls hl8 => ?_)
  clear hl3
  obtain ⟨I16, hI16, nn16, h⟩ := h
  have hL16 : ∀ (n16 : Nat) (x3_16 : Int32) (σ_16 : mS) (H : Heap) (locs : List Loc) (ls : Array Slot), I16 n16 x3_16 σ_16 → mM G kdM ad s σ_16 H locs → ml_has ls 4 [(0, mV ad (some 0)), (1, .int y1), (2, .int (mI σ0 12 j1)), (3, .int x3_16)] → W p l e (mRm 0 0) s m ([mV ad (some 0), .int y1] : List Value).toArray below meth c H locs 0 0 (MQ below (va_Qv Q (mPost G kdM ad) (mA ad)) ([mV ad (some 0), .int y1] : List Value).toArray s 0 0 (mA ad)) (F0 m 16 ls []) := by
    refine m_loop (fun n16 ih16 => ?_)
    intro x3_16 σ_16 H locs ls h_16 hM_16 hl_16
    replace h_16 := hI16 n16 x3_16 σ_16 h_16
    refine lv_iload_n hx hb dX3_startsAsking_16 rfl (ml_at hl_16 3 rfl) ?_
    refine lv_iconst (v := 3) hx hb dX3_startsAsking_17 (by decide) ?_
    refine lv_icmp_ge (tgt := 47) hx hb dX3_startsAsking_18 (by decide) (fun hc9 => ?_) (fun hc9 => ?_)
    · replace h_16 := h_16.1 hc9
      refine mr_aload_n C dX3_startsAsking_47 rfl (ml_at hl_16 0 rfl) ?_
      refine fg_X3_70 (i := 0) C hM_16 (mO_fix hM_16 rfl (by decide) (by decide) (by decide)) dX3_startsAsking_48 ?_
      refine lv_iload_n hx hb dX3_startsAsking_51 rfl (ml_at hl_16 1 rfl) ?_
      refine mr_aload_n C dX3_startsAsking_52 rfl (ml_at hl_16 0 rfl) ?_
      refine fg_X3_19 (i := 0) C hM_16 (mO_fix hM_16 rfl (by decide) (by decide) (by decide)) dX3_startsAsking_53 ?_
      refine lv_iload_n hx hb dX3_startsAsking_56 rfl (ml_at hl_16 2 rfl) ?_
      obtain ⟨j10, ej11, ej11b, h_16⟩ := h_16
      refine mr_iald C hM_16 (mB_fix hM_16 rfl (by decide) (by decide) (by decide)) ej11 ej11b (by decide) dX3_startsAsking_57 ?_
      obtain ⟨j12, ej13, ej13b, h_16⟩ := h_16
      refine mr_iast C hM_16 (mB_fix hM_16 rfl (by decide) (by decide) (by decide)) ej13 ej13b (by decide) dX3_startsAsking_58 (fun H locs hM14 => ?_)
      clear hM_16
      obtain ⟨σ15, eσ15⟩ : ∃ y, y = sI σ_16 21 j12 (mI σ_16 4 j10) := ⟨_, rfl⟩
      rw [← eσ15] at hM14
      replace h_16 := h_16 σ15 eσ15
      refine mr_aload_n C dX3_startsAsking_59 rfl (ml_at hl_16 0 rfl) ?_
      refine fg_X3_73 (i := 0) C hM14 (mO_fix hM14 rfl (by decide) (by decide) (by decide)) dX3_startsAsking_60 ?_
      refine lv_iload_n hx hb dX3_startsAsking_63 rfl (ml_at hl_16 1 rfl) ?_
      refine lv_iconst (v := 0) hx hb dX3_startsAsking_64 (by decide) ?_
      obtain ⟨j16, ej17, ej17b, h_16⟩ := h_16
      refine mr_iast C hM14 (mB_fix hM14 rfl (by decide) (by decide) (by decide)) ej17 ej17b (by decide) dX3_startsAsking_65 (fun H locs hM18 => ?_)
      clear hM14
      obtain ⟨σ19, eσ19⟩ : ∃ y, y = sI σ15 22 j16 (0 : Int32) := ⟨_, rfl⟩
      rw [← eσ19] at hM18
      replace h_16 := h_16 σ19 eσ19
      refine mr_aload_n C dX3_startsAsking_66 rfl (ml_at hl_16 0 rfl) ?_
      refine fg_X3_76 (i := 0) C hM18 (mO_fix hM18 rfl (by decide) (by decide) (by decide)) dX3_startsAsking_67 ?_
      refine lv_iload_n hx hb dX3_startsAsking_70 rfl (ml_at hl_16 1 rfl) ?_
      refine lv_iconst (v := 0) hx hb dX3_startsAsking_71 (by decide) ?_
      obtain ⟨j20, ej21, ej21b, h_16⟩ := h_16
      refine mr_iast C hM18 (mB_fix hM18 rfl (by decide) (by decide) (by decide)) ej21 ej21b (by decide) dX3_startsAsking_72 (fun H locs hM22 => ?_)
      clear hM18
      obtain ⟨σ23, eσ23⟩ : ∃ y, y = sI σ19 23 j20 (0 : Int32) := ⟨_, rfl⟩
      rw [← eσ23] at hM22
      replace h_16 := h_16 σ23 eσ23
      refine mr_aload_n C dX3_startsAsking_73 rfl (ml_at hl_16 0 rfl) ?_
      refine fg_X3_79 (i := 0) C hM22 (mO_fix hM22 rfl (by decide) (by decide) (by decide)) dX3_startsAsking_74 ?_
      refine lv_iload_n hx hb dX3_startsAsking_77 rfl (ml_at hl_16 1 rfl) ?_
      refine lv_iconst (v := 1) hx hb dX3_startsAsking_78 (by decide) ?_
      obtain ⟨j24, ej25, ej25b, h_16⟩ := h_16
      refine mr_zast C hM22 (mB_fix hM22 rfl (by decide) (by decide) (by decide)) ej25 ej25b (by decide) dX3_startsAsking_79 (fun H locs hM26 => ?_)
      clear hM22
      obtain ⟨σ27, eσ27⟩ : ∃ y, y = sI σ23 24 j24 (vp_nar .boolean (1 : Int32)) := ⟨_, rfl⟩
      rw [← eσ27] at hM26
      replace h_16 := h_16 σ27 eσ27
      exact mr_vret C hM26 hr hlk h_16 dX3_startsAsking_80
    · replace h_16 := h_16.2 hc9
      refine mr_aload_n C dX3_startsAsking_21 rfl (ml_at hl_16 0 rfl) ?_
      refine fg_X3_67 (i := 0) C hM_16 (mO_fix hM_16 rfl (by decide) (by decide) (by decide)) dX3_startsAsking_22 ?_
      refine lv_iconst (v := 3) hx hb dX3_startsAsking_25 (by decide) ?_
      refine lv_iload_n hx hb dX3_startsAsking_26 rfl (ml_at hl_16 1 rfl) ?_
      refine lv_imul hx hb dX3_startsAsking_27 ?_
      refine lv_iload_n hx hb dX3_startsAsking_28 rfl (ml_at hl_16 3 rfl) ?_
      refine lv_iadd hx hb dX3_startsAsking_29 ?_
      refine mr_aload_n C dX3_startsAsking_30 rfl (ml_at hl_16 0 rfl) ?_
      refine fg_X3_22 (i := 0) C hM_16 (mO_fix hM_16 rfl (by decide) (by decide) (by decide)) dX3_startsAsking_31 ?_
      refine lv_iconst (v := 3) hx hb dX3_startsAsking_34 (by decide) ?_
      refine lv_iload_n hx hb dX3_startsAsking_35 rfl (ml_at hl_16 2 rfl) ?_
      refine lv_imul hx hb dX3_startsAsking_36 ?_
      refine lv_iload_n hx hb dX3_startsAsking_37 rfl (ml_at hl_16 3 rfl) ?_
      refine lv_iadd hx hb dX3_startsAsking_38 ?_
      obtain ⟨j28, ej29, ej29b, h_16⟩ := h_16
      refine mr_iald C hM_16 (mB_fix hM_16 rfl (by decide) (by decide) (by decide)) ej29 ej29b (by decide) dX3_startsAsking_39 ?_
      obtain ⟨j30, ej31, ej31b, h_16⟩ := h_16
      refine mr_iast C hM_16 (mB_fix hM_16 rfl (by decide) (by decide) (by decide)) ej31 ej31b (by decide) dX3_startsAsking_40 (fun H locs hM32 => ?_)
      clear hM_16
      obtain ⟨σ33, eσ33⟩ : ∃ y, y = sI σ_16 20 j30 (mI σ_16 5 j28) := ⟨_, rfl⟩
      rw [← eσ33] at hM32
      replace h_16 := h_16 σ33 eσ33
      refine mr_iinc (v := (x3_16 + 1)) (lv' := [(3, .int (x3_16 + 1)), (0, mV ad (some 0)), (1, .int y1), (2, .int (mI σ0 12 j1))]) C hl_16 dX3_startsAsking_41 (k := 3) rfl rfl (by decide) rfl (fun ls hl34 => ?_)
      clear hl_16
      refine lv_goto (tgt := 16) hx hb dX3_startsAsking_44 (by decide) ?_
      obtain ⟨k35, hk35, h_16⟩ := h_16
      exact ih16 k35 hk35 (x3_16 + 1) σ33 _ _ _ h_16 hM32 (ml_sub hl34 [1, 2, 3, 0] rfl)
  exact hL16 nn16 (0 : Int32) σ7 _ _ _ h hM6 (ml_sub hl8 [2, 3, 1, 0] rfl)
def w_X3_worksOut  (σ0 : mS) (Q : mS → Prop) : Prop := (∃ I2 : Nat → Int32 → mS → Prop, (∀ (n2 : Nat) (x1_2 : Int32) (σ_2 : mS), I2 n2 x1_2 σ_2 → (((mI σ_2 0 13) ≤ x1_2 → (Q σ_2)) ∧ (¬ (mI σ_2 0 13) ≤ x1_2 → (∃ j3, x1_2 = nI j3 ∧ (j3 < 200 ∧ ((¬ (mI σ_2 15 j3) = (1 : Int32) → (∃ k7, k7 < n2 ∧ I2 k7 (x1_2 + 1) σ_2)) ∧ ((mI σ_2 15 j3) = (1 : Int32) → (∃ j8, x1_2 = nI j8 ∧ (j8 < 200 ∧ (((mI σ_2 0 1) < (mI σ_2 16 j8) → (∃ k12, k12 < n2 ∧ I2 k12 (x1_2 + 1) σ_2)) ∧ (¬ (mI σ_2 0 1) < (mI σ_2 16 j8) → (∃ j13, x1_2 = nI j13 ∧ (j13 < 200 ∧ (∃ j16, (mI σ_2 12 j13) = nI j16 ∧ (j16 < 6 ∧ (∃ j18, (mI σ_2 12 j13) = nI j18 ∧ (j18 < 6 ∧ (∀ σ21, σ21 = sI σ_2 3 j18 ((mI σ_2 3 j16) + (1 : Int32)) → (∃ j22, (mI σ_2 12 j13) = nI j22 ∧ (j22 < 6 ∧ (∃ J90 : mS → Prop, (∀  (σ_90 : mS), J90  σ_90 → (∃ j24, (mI σ_2 12 j13) = nI j24 ∧ (j24 < 6 ∧ ((¬ (mI σ_90 4 j24) = 0 → w_X3_startsAsking x1_2 σ_90 (fun σ27 => (∃ k31, k31 < n2 ∧ I2 k31 (x1_2 + 1) σ27))) ∧ ((mI σ_90 4 j24) = 0 → w_X3_ends x1_2 (3 : Int32) σ_90 (fun x35 σ32 => (∃ k37, k37 < n2 ∧ I2 k37 (x1_2 + 1) σ32))))))) ∧ (((mI σ21 2 j22) ≤ 0 → (J90  σ21)) ∧ (¬ (mI σ21 2 j22) ≤ 0 → (∃ j39, (mI σ_2 12 j13) = nI j39 ∧ (j39 < 6 ∧ (∃ j41, (mI σ_2 12 j13) = nI j41 ∧ (j41 < 6 ∧ (¬ (mI σ21 2 j41) = 0 ∧ ((¬ ((mI σ21 3 j39) - (mI σ21 3 j39) / (mI σ21 2 j41) * (mI σ21 2 j41)) = 0 → (J90  σ21)) ∧ (((mI σ21 3 j39) - (mI σ21 3 j39) / (mI σ21 2 j41) * (mI σ21 2 j41)) = 0 → w_X3_ends x1_2 (4 : Int32) σ21 (fun x48 σ45 => w_X3_counts (mI σ_2 12 j13) σ45 (fun σ49 => (∃ k53, k53 < n2 ∧ I2 k53 (x1_2 + 1) σ49))))))))))))))))))))))))))))))))) ∧ ∃ n, I2 n (0 : Int32) σ0)
set_option maxRecDepth 100000 in
set_option maxHeartbeats 4000000 in
theorem c_X3_worksOut (l : Launch) (G : mG) (ad : Nat → Nat)  (σ0 : mS) (Q : mS → Prop) (h : w_X3_worksOut  σ0 Q) : mKv l yX3_worksOut cX3_worksOut 3 2 45 G kdM ad σ0 [mV ad (some 0)] Q := by
  refine mr_start (lst := [(0, mV ad (some 0))]) (by decide) (m_cR m_c0) rfl (Nat.le_of_ble_eq_true rfl) (fun p e s m below meth c C hM hr hlk ls hl => ?_)
  have hx := C.1.1
  have hb := C.1.2.1
  unfold w_X3_worksOut at h
  refine lv_iconst (v := 0) hx hb dX3_worksOut_0 (by decide) ?_
  refine mr_istore_n (lv' := [(1, .int (0 : Int32)), (0, mV ad (some 0))]) C hl dX3_worksOut_1 rfl (by decide) rfl (fun ls hl1 => ?_)
  clear hl
  obtain ⟨I2, hI2, nn2, h⟩ := h
  have hL2 : ∀ (n2 : Nat) (x1_2 : Int32) (σ_2 : mS) (H : Heap) (locs : List Loc) (ls : Array Slot), I2 n2 x1_2 σ_2 → mM G kdM ad s σ_2 H locs → ml_has ls 3 [(0, mV ad (some 0)), (1, .int x1_2)] → W p l e (mRm 2 45) s m ([mV ad (some 0)] : List Value).toArray below meth c H locs 0 0 (MQ below (va_Qv Q (mPost G kdM ad) (mA ad)) ([mV ad (some 0)] : List Value).toArray s 0 0 (mA ad)) (F0 m 2 ls []) := by
    refine m_loop (fun n2 ih2 => ?_)
    intro x1_2 σ_2 H locs ls h_2 hM_2 hl_2
    replace h_2 := hI2 n2 x1_2 σ_2 h_2
    refine lv_iload_n hx hb dX3_worksOut_2 rfl (ml_at hl_2 1 rfl) ?_
    refine mr_aload_n C dX3_worksOut_3 rfl (ml_at hl_2 0 rfl) ?_
    refine fg_X3_94 C hM_2 (mO_fix hM_2 rfl (by decide) (by decide) (by decide)) dX3_worksOut_4 ?_
    refine lv_icmp_ge (tgt := 120) hx hb dX3_worksOut_7 (by decide) (fun hc2 => ?_) (fun hc2 => ?_)
    · replace h_2 := h_2.1 hc2
      exact mr_vret C hM_2 hr hlk h_2 dX3_worksOut_120
    · replace h_2 := h_2.2 hc2
      refine mr_aload_n C dX3_worksOut_10 rfl (ml_at hl_2 0 rfl) ?_
      refine fg_X3_52 (i := 0) C hM_2 (mO_fix hM_2 rfl (by decide) (by decide) (by decide)) dX3_worksOut_11 ?_
      refine lv_iload_n hx hb dX3_worksOut_14 rfl (ml_at hl_2 1 rfl) ?_
      obtain ⟨j3, ej4, ej4b, h_2⟩ := h_2
      refine mr_iald C hM_2 (mB_fix hM_2 rfl (by decide) (by decide) (by decide)) ej4 ej4b (by decide) dX3_worksOut_15 ?_
      refine lv_iconst (v := 1) hx hb dX3_worksOut_16 (by decide) ?_
      refine lv_icmp_ne (tgt := 114) hx hb dX3_worksOut_17 (by decide) (fun hc5 => ?_) (fun hc5 => ?_)
      · replace h_2 := h_2.1 hc5
        refine mr_iinc (v := (x1_2 + 1)) (lv' := [(1, .int (x1_2 + 1)), (0, mV ad (some 0))]) C hl_2 dX3_worksOut_114 (k := 1) rfl rfl (by decide) rfl (fun ls hl6 => ?_)
        clear hl_2
        refine lv_goto (tgt := 2) hx hb dX3_worksOut_117 (by decide) ?_
        obtain ⟨k7, hk7, h_2⟩ := h_2
        exact ih2 k7 hk7 (x1_2 + 1) σ_2 _ _ _ h_2 hM_2 (ml_sub hl6 [1, 0] rfl)
      · replace h_2 := h_2.2 hc5
        refine mr_aload_n C dX3_worksOut_20 rfl (ml_at hl_2 0 rfl) ?_
        refine fg_X3_55 (i := 0) C hM_2 (mO_fix hM_2 rfl (by decide) (by decide) (by decide)) dX3_worksOut_21 ?_
        refine lv_iload_n hx hb dX3_worksOut_24 rfl (ml_at hl_2 1 rfl) ?_
        obtain ⟨j8, ej9, ej9b, h_2⟩ := h_2
        refine mr_iald C hM_2 (mB_fix hM_2 rfl (by decide) (by decide) (by decide)) ej9 ej9b (by decide) dX3_worksOut_25 ?_
        refine mr_aload_n C dX3_worksOut_26 rfl (ml_at hl_2 0 rfl) ?_
        refine fg_X3_101 C hM_2 (mO_fix hM_2 rfl (by decide) (by decide) (by decide)) dX3_worksOut_27 ?_
        refine lv_icmp_gt (tgt := 114) hx hb dX3_worksOut_30 (by decide) (fun hc10 => ?_) (fun hc10 => ?_)
        · replace h_2 := h_2.1 hc10
          refine mr_iinc (v := (x1_2 + 1)) (lv' := [(1, .int (x1_2 + 1)), (0, mV ad (some 0))]) C hl_2 dX3_worksOut_114 (k := 1) rfl rfl (by decide) rfl (fun ls hl11 => ?_)
          clear hl_2
          refine lv_goto (tgt := 2) hx hb dX3_worksOut_117 (by decide) ?_
          obtain ⟨k12, hk12, h_2⟩ := h_2
          exact ih2 k12 hk12 (x1_2 + 1) σ_2 _ _ _ h_2 hM_2 (ml_sub hl11 [1, 0] rfl)
        · replace h_2 := h_2.2 hc10
          refine mr_aload_n C dX3_worksOut_33 rfl (ml_at hl_2 0 rfl) ?_
          refine fg_X3_43 (i := 0) C hM_2 (mO_fix hM_2 rfl (by decide) (by decide) (by decide)) dX3_worksOut_34 ?_
          refine lv_iload_n hx hb dX3_worksOut_37 rfl (ml_at hl_2 1 rfl) ?_
          obtain ⟨j13, ej14, ej14b, h_2⟩ := h_2
          refine mr_iald C hM_2 (mB_fix hM_2 rfl (by decide) (by decide) (by decide)) ej14 ej14b (by decide) dX3_worksOut_38 ?_
          refine mr_istore_n (lv' := [(2, .int (mI σ_2 12 j13)), (0, mV ad (some 0)), (1, .int x1_2)]) C hl_2 dX3_worksOut_39 rfl (by decide) rfl (fun ls hl15 => ?_)
          clear hl_2
          refine mr_aload_n C dX3_worksOut_40 rfl (ml_at hl15 1 rfl) ?_
          refine fg_X3_16 (i := 0) C hM_2 (mO_fix hM_2 rfl (by decide) (by decide) (by decide)) dX3_worksOut_41 ?_
          refine lv_iload_n hx hb dX3_worksOut_44 rfl (ml_at hl15 0 rfl) ?_
          refine lv_dup2_11 hx hb dX3_worksOut_45 rfl (mV_cat _ _) ?_
          obtain ⟨j16, ej17, ej17b, h_2⟩ := h_2
          refine mr_iald C hM_2 (mB_fix hM_2 rfl (by decide) (by decide) (by decide)) ej17 ej17b (by decide) dX3_worksOut_46 ?_
          refine lv_iconst (v := 1) hx hb dX3_worksOut_47 (by decide) ?_
          refine lv_iadd hx hb dX3_worksOut_48 ?_
          obtain ⟨j18, ej19, ej19b, h_2⟩ := h_2
          refine mr_iast C hM_2 (mB_fix hM_2 rfl (by decide) (by decide) (by decide)) ej19 ej19b (by decide) dX3_worksOut_49 (fun H locs hM20 => ?_)
          clear hM_2
          obtain ⟨σ21, eσ21⟩ : ∃ y, y = sI σ_2 3 j18 ((mI σ_2 3 j16) + (1 : Int32)) := ⟨_, rfl⟩
          rw [← eσ21] at hM20
          replace h_2 := h_2 σ21 eσ21
          refine mr_aload_n C dX3_worksOut_50 rfl (ml_at hl15 1 rfl) ?_
          refine fg_X3_13 (i := 0) C hM20 (mO_fix hM20 rfl (by decide) (by decide) (by decide)) dX3_worksOut_51 ?_
          refine lv_iload_n hx hb dX3_worksOut_54 rfl (ml_at hl15 0 rfl) ?_
          obtain ⟨j22, ej23, ej23b, h_2⟩ := h_2
          refine mr_iald C hM20 (mB_fix hM20 rfl (by decide) (by decide) (by decide)) ej23 ej23b (by decide) dX3_worksOut_55 ?_
          obtain ⟨J90, hJ90, h_2⟩ := h_2
          have hj90 : ∀  (σ_90 : mS) (H : Heap) (locs : List Loc) (ls : Array Slot), J90  σ_90 → mM G kdM ad s σ_90 H locs → ml_has ls 3 [(0, mV ad (some 0)), (1, .int x1_2), (2, .int (mI σ_2 12 j13))] → W p l e (mRm 2 45) s m ([mV ad (some 0)] : List Value).toArray below meth c H locs 0 0 (MQ below (va_Qv Q (mPost G kdM ad) (mA ad)) ([mV ad (some 0)] : List Value).toArray s 0 0 (mA ad)) (F0 m 90 ls []) := by
            intro  σ_90 H locs ls h_90 hM_90 hl_90
            replace h_90 := hJ90  σ_90 h_90
            refine mr_aload_n C dX3_worksOut_90 rfl (ml_at hl_90 0 rfl) ?_
            refine fg_X3_19 (i := 0) C hM_90 (mO_fix hM_90 rfl (by decide) (by decide) (by decide)) dX3_worksOut_91 ?_
            refine lv_iload_n hx hb dX3_worksOut_94 rfl (ml_at hl_90 2 rfl) ?_
            obtain ⟨j24, ej25, ej25b, h_90⟩ := h_90
            refine mr_iald C hM_90 (mB_fix hM_90 rfl (by decide) (by decide) (by decide)) ej25 ej25b (by decide) dX3_worksOut_95 ?_
            refine lv_if_ne (tgt := 109) hx hb dX3_worksOut_96 (by decide) (fun hc26 => ?_) (fun hc26 => ?_)
            · replace h_90 := h_90.1 hc26
              refine mr_aload_n C dX3_worksOut_109 rfl (ml_at hl_90 0 rfl) ?_
              refine lv_iload_n hx hb dX3_worksOut_110 rfl (ml_at hl_90 1 rfl) ?_
              refine mr_cv hM_90 (mr_runV (As := [.int x1_2]) C hM_90 hl_90.1.1 (c_X3_startsAsking l G ad x1_2 σ_90 _ h_90) cw_X3_131 (mO_fix hM_90 rfl (by decide) (by decide) (by decide)) rfl rfl (n := 1) ⟨rfl, by decide, by decide, by decide +kernel⟩ rfl rfl ⟨Nat.le_of_ble_eq_true rfl, Nat.le_of_ble_eq_true rfl⟩ m_c0 (Nat.le_of_ble_eq_true rfl) dX3_worksOut_111 ⟨Nat.zero_le _, Nat.zero_le _⟩) (fun σ27 H locs h28 hM29 => ?_)
              clear h_90 hM_90
              refine mr_iinc (v := (x1_2 + 1)) (lv' := [(1, .int (x1_2 + 1)), (0, mV ad (some 0)), (2, .int (mI σ_2 12 j13))]) C hl_90 dX3_worksOut_114 (k := 1) rfl rfl (by decide) rfl (fun ls hl30 => ?_)
              clear hl_90
              refine lv_goto (tgt := 2) hx hb dX3_worksOut_117 (by decide) ?_
              obtain ⟨k31, hk31, h28⟩ := h28
              exact ih2 k31 hk31 (x1_2 + 1) σ27 _ _ _ h28 hM29 (ml_sub hl30 [1, 0] rfl)
            · replace h_90 := h_90.2 hc26
              refine mr_aload_n C dX3_worksOut_99 rfl (ml_at hl_90 0 rfl) ?_
              refine lv_iload_n hx hb dX3_worksOut_100 rfl (ml_at hl_90 1 rfl) ?_
              refine lv_iconst (v := 3) hx hb dX3_worksOut_101 (by decide) ?_
              refine mr_ci hM_90 (mr_runV (As := [.int x1_2, .int (3 : Int32)]) C hM_90 hl_90.1.1 (c_X3_ends l G ad x1_2 (3 : Int32) σ_90 _ h_90) cw_X3_114 (mO_fix hM_90 rfl (by decide) (by decide) (by decide)) rfl rfl (n := 2) ⟨rfl, by decide, by decide, by decide +kernel⟩ rfl rfl ⟨Nat.le_of_ble_eq_true rfl, Nat.le_of_ble_eq_true rfl⟩ m_c0 (Nat.le_of_ble_eq_true rfl) dX3_worksOut_102 ⟨Nat.zero_le _, Nat.zero_le _⟩) (fun x35 σ32 H locs h33 hM34 => ?_)
              clear h_90 hM_90
              refine lv_pop hx hb dX3_worksOut_105 rfl ?_
              refine lv_goto (tgt := 114) hx hb dX3_worksOut_106 (by decide) ?_
              refine mr_iinc (v := (x1_2 + 1)) (lv' := [(1, .int (x1_2 + 1)), (0, mV ad (some 0)), (2, .int (mI σ_2 12 j13))]) C hl_90 dX3_worksOut_114 (k := 1) rfl rfl (by decide) rfl (fun ls hl36 => ?_)
              clear hl_90
              refine lv_goto (tgt := 2) hx hb dX3_worksOut_117 (by decide) ?_
              obtain ⟨k37, hk37, h33⟩ := h33
              exact ih2 k37 hk37 (x1_2 + 1) σ32 _ _ _ h33 hM34 (ml_sub hl36 [1, 0] rfl)
          refine lv_if_le (tgt := 90) hx hb dX3_worksOut_56 (by decide) (fun hc38 => ?_) (fun hc38 => ?_)
          · replace h_2 := h_2.1 hc38
            exact hj90  σ21 _ _ _ h_2 hM20 (ml_sub hl15 [1, 2, 0] rfl)
          · replace h_2 := h_2.2 hc38
            refine mr_aload_n C dX3_worksOut_59 rfl (ml_at hl15 1 rfl) ?_
            refine fg_X3_16 (i := 0) C hM20 (mO_fix hM20 rfl (by decide) (by decide) (by decide)) dX3_worksOut_60 ?_
            refine lv_iload_n hx hb dX3_worksOut_63 rfl (ml_at hl15 0 rfl) ?_
            obtain ⟨j39, ej40, ej40b, h_2⟩ := h_2
            refine mr_iald C hM20 (mB_fix hM20 rfl (by decide) (by decide) (by decide)) ej40 ej40b (by decide) dX3_worksOut_64 ?_
            refine mr_aload_n C dX3_worksOut_65 rfl (ml_at hl15 1 rfl) ?_
            refine fg_X3_13 (i := 0) C hM20 (mO_fix hM20 rfl (by decide) (by decide) (by decide)) dX3_worksOut_66 ?_
            refine lv_iload_n hx hb dX3_worksOut_69 rfl (ml_at hl15 0 rfl) ?_
            obtain ⟨j41, ej42, ej42b, h_2⟩ := h_2
            refine mr_iald C hM20 (mB_fix hM20 rfl (by decide) (by decide) (by decide)) ej42 ej42b (by decide) dX3_worksOut_70 ?_
            obtain ⟨hz43, h_2⟩ := h_2
            refine lv_irem hx hb dX3_worksOut_71 hz43 ?_
            refine lv_if_ne (tgt := 90) hx hb dX3_worksOut_72 (by decide) (fun hc44 => ?_) (fun hc44 => ?_)
            · replace h_2 := h_2.1 hc44
              exact hj90  σ21 _ _ _ h_2 hM20 (ml_sub hl15 [1, 2, 0] rfl)
            · replace h_2 := h_2.2 hc44
              refine mr_aload_n C dX3_worksOut_75 rfl (ml_at hl15 1 rfl) ?_
              refine lv_iload_n hx hb dX3_worksOut_76 rfl (ml_at hl15 2 rfl) ?_
              refine lv_iconst (v := 4) hx hb dX3_worksOut_77 (by decide) ?_
              refine mr_ci hM20 (mr_runV (As := [.int x1_2, .int (4 : Int32)]) C hM20 hl15.1.1 (c_X3_ends l G ad x1_2 (4 : Int32) σ21 _ h_2) cw_X3_114 (mO_fix hM20 rfl (by decide) (by decide) (by decide)) rfl rfl (n := 2) ⟨rfl, by decide, by decide, by decide +kernel⟩ rfl rfl ⟨Nat.le_of_ble_eq_true rfl, Nat.le_of_ble_eq_true rfl⟩ m_c0 (Nat.le_of_ble_eq_true rfl) dX3_worksOut_78 ⟨Nat.zero_le _, Nat.zero_le _⟩) (fun x48 σ45 H locs h46 hM47 => ?_)
              clear h_2 hM20
              refine lv_pop hx hb dX3_worksOut_81 rfl ?_
              refine mr_aload_n C dX3_worksOut_82 rfl (ml_at hl15 1 rfl) ?_
              refine lv_iload_n hx hb dX3_worksOut_83 rfl (ml_at hl15 0 rfl) ?_
              refine mr_cv hM47 (mr_runV (As := [.int (mI σ_2 12 j13)]) C hM47 hl15.1.1 (c_X3_counts l G ad (mI σ_2 12 j13) σ45 _ h46) cw_X3_128 (mO_fix hM47 rfl (by decide) (by decide) (by decide)) rfl rfl (n := 1) ⟨rfl, by decide, by decide, by decide +kernel⟩ rfl rfl ⟨Nat.le_of_ble_eq_true rfl, Nat.le_of_ble_eq_true rfl⟩ m_c0 (Nat.le_of_ble_eq_true rfl) dX3_worksOut_84 ⟨Nat.zero_le _, Nat.zero_le _⟩) (fun σ49 H locs h50 hM51 => ?_)
              clear h46 hM47
              refine lv_goto (tgt := 114) hx hb dX3_worksOut_87 (by decide) ?_
              refine mr_iinc (v := (x1_2 + 1)) (lv' := [(1, .int (x1_2 + 1)), (2, .int (mI σ_2 12 j13)), (0, mV ad (some 0))]) C hl15 dX3_worksOut_114 (k := 2) rfl rfl (by decide) rfl (fun ls hl52 => ?_)
              clear hl15
              refine lv_goto (tgt := 2) hx hb dX3_worksOut_117 (by decide) ?_
              obtain ⟨k53, hk53, h50⟩ := h50
              exact ih2 k53 hk53 (x1_2 + 1) σ49 _ _ _ h50 hM51 (ml_sub hl52 [2, 0] rfl)
  exact hL2 nn2 (0 : Int32) σ0 _ _ _ h hM (ml_sub hl1 [1, 0] rfl)
def w_X3_isTry (y1 : Int32) (y2 : Int32) (σ0 : mS) (Q : Int32 → mS → Prop) : Prop := (∃ j1, y1 = nI j1 ∧ (j1 < 200 ∧ ((¬ (mI σ0 14 j1) = y2 → (Q (0 : Int32) σ0)) ∧ ((mI σ0 14 j1) = y2 → (∃ j4, y1 = nI j4 ∧ (j4 < 200 ∧ (∃ j6, y2 = nI j6 ∧ (j6 < 200 ∧ ((¬ (mI σ0 19 j4) = (mI σ0 22 j6) → (Q (0 : Int32) σ0)) ∧ ((mI σ0 19 j4) = (mI σ0 22 j6) → (Q (1 : Int32) σ0)))))))))))
set_option maxRecDepth 100000 in
set_option maxHeartbeats 4000000 in
theorem c_X3_isTry (l : Launch) (G : mG) (ad : Nat → Nat) (y1 : Int32) (y2 : Int32) (σ0 : mS) (Q : Int32 → mS → Prop) (h : w_X3_isTry y1 y2 σ0 Q) : mKz l yX3_isTry cX3_isTry 3 0 0 G kdM ad σ0 [mV ad (some 0), .int y1, .int y2] Q := by
  refine mr_start (lst := [(0, mV ad (some 0)), (1, .int y1), (2, .int y2)]) (by decide) (m_cR (m_cI (m_cI m_c0))) rfl (Nat.le_of_ble_eq_true rfl) (fun p e s m below meth c C hM hr hlk ls hl => ?_)
  have hx := C.1.1
  have hb := C.1.2.1
  unfold w_X3_isTry at h
  refine mr_aload_n C dX3_isTry_0 rfl (ml_at hl 0 rfl) ?_
  refine fg_X3_49 (i := 0) C hM (mO_fix hM rfl (by decide) (by decide) (by decide)) dX3_isTry_1 ?_
  refine lv_iload_n hx hb dX3_isTry_4 rfl (ml_at hl 1 rfl) ?_
  obtain ⟨j1, ej2, ej2b, h⟩ := h
  refine mr_iald C hM (mB_fix hM rfl (by decide) (by decide) (by decide)) ej2 ej2b (by decide) dX3_isTry_5 ?_
  refine lv_iload_n hx hb dX3_isTry_6 rfl (ml_at hl 2 rfl) ?_
  refine lv_icmp_ne (tgt := 29) hx hb dX3_isTry_7 (by decide) (fun hc3 => ?_) (fun hc3 => ?_)
  · replace h := h.1 hc3
    refine lv_iconst (v := 0) hx hb dX3_isTry_29 (by decide) ?_
    exact mr_zret C hM hr hlk rfl h dX3_isTry_30
  · replace h := h.2 hc3
    refine mr_aload_n C dX3_isTry_10 rfl (ml_at hl 0 rfl) ?_
    refine fg_X3_64 (i := 0) C hM (mO_fix hM rfl (by decide) (by decide) (by decide)) dX3_isTry_11 ?_
    refine lv_iload_n hx hb dX3_isTry_14 rfl (ml_at hl 1 rfl) ?_
    obtain ⟨j4, ej5, ej5b, h⟩ := h
    refine mr_iald C hM (mB_fix hM rfl (by decide) (by decide) (by decide)) ej5 ej5b (by decide) dX3_isTry_15 ?_
    refine mr_aload_n C dX3_isTry_16 rfl (ml_at hl 0 rfl) ?_
    refine fg_X3_73 (i := 0) C hM (mO_fix hM rfl (by decide) (by decide) (by decide)) dX3_isTry_17 ?_
    refine lv_iload_n hx hb dX3_isTry_20 rfl (ml_at hl 2 rfl) ?_
    obtain ⟨j6, ej7, ej7b, h⟩ := h
    refine mr_iald C hM (mB_fix hM rfl (by decide) (by decide) (by decide)) ej7 ej7b (by decide) dX3_isTry_21 ?_
    refine lv_icmp_ne (tgt := 29) hx hb dX3_isTry_22 (by decide) (fun hc8 => ?_) (fun hc8 => ?_)
    · replace h := h.1 hc8
      refine lv_iconst (v := 0) hx hb dX3_isTry_29 (by decide) ?_
      exact mr_zret C hM hr hlk rfl h dX3_isTry_30
    · replace h := h.2 hc8
      refine lv_iconst (v := 1) hx hb dX3_isTry_25 (by decide) ?_
      refine lv_goto (tgt := 30) hx hb dX3_isTry_26 (by decide) ?_
      exact mr_zret C hM hr hlk rfl h dX3_isTry_30
def w_X3_goesOn (y1 : Int32) (σ0 : mS) (Q : mS → Prop) : Prop := (∃ I4 : Nat → Int32 → mS → Prop, (∀ (n4 : Nat) (x2_4 : Int32) (σ_4 : mS), I4 n4 x2_4 σ_4 → (((mI σ_4 0 13) ≤ x2_4 → (∃ j3, y1 = nI j3 ∧ (j3 < 200 ∧ (∃ j5, y1 = nI j5 ∧ (j5 < 200 ∧ (∀ σ8, σ8 = sI σ_4 22 j5 ((mI σ_4 22 j3) + (1 : Int32)) → (∃ j9, y1 = nI j9 ∧ (j9 < 200 ∧ (∀ σ12, σ12 = sI σ8 23 j9 (0 : Int32) → (∃ j13, y1 = nI j13 ∧ (j13 < 200 ∧ (∃ j15, y1 = nI j15 ∧ (j15 < 200 ∧ ((¬ (mI σ12 22 j13) = (mI σ12 21 j15) → (∃ j18, y1 = nI j18 ∧ (j18 < 200 ∧ (∀ σ21, σ21 = sI σ12 24 j18 (vp_nar .boolean (1 : Int32)) → (Q σ21))))) ∧ ((mI σ12 22 j13) = (mI σ12 21 j15) → w_X3_ends y1 (3 : Int32) σ12 (fun x25 σ22 => (Q σ22))))))))))))))))) ∧ (¬ (mI σ_4 0 13) ≤ x2_4 → w_X3_isTry x2_4 y1 σ_4 (fun x29 σ26 => ((x29 = 0 → (∃ k32, k32 < n4 ∧ I4 k32 (x2_4 + 1) σ26)) ∧ (¬ x29 = 0 → w_X3_isOver x2_4 σ26 (fun x36 σ33 => ((¬ x36 = 0 → (∃ k39, k39 < n4 ∧ I4 k39 (x2_4 + 1) σ33)) ∧ (x36 = 0 → w_X3_ends x2_4 (7 : Int32) σ33 (fun x43 σ40 => (∃ k45, k45 < n4 ∧ I4 k45 (x2_4 + 1) σ40))))))))))) ∧ ∃ n, I4 n (y1 + (1 : Int32)) σ0)
set_option maxRecDepth 100000 in
set_option maxHeartbeats 4000000 in
theorem c_X3_goesOn (l : Launch) (G : mG) (ad : Nat → Nat) (y1 : Int32) (σ0 : mS) (Q : mS → Prop) (h : w_X3_goesOn y1 σ0 Q) : mKv l yX3_goesOn cX3_goesOn 3 2 45 G kdM ad σ0 [mV ad (some 0), .int y1] Q := by
  refine mr_start (lst := [(0, mV ad (some 0)), (1, .int y1)]) (by decide) (m_cR (m_cI m_c0)) rfl (Nat.le_of_ble_eq_true rfl) (fun p e s m below meth c C hM hr hlk ls hl => ?_)
  have hx := C.1.1
  have hb := C.1.2.1
  unfold w_X3_goesOn at h
  refine lv_iload_n hx hb dX3_goesOn_0 rfl (ml_at hl 1 rfl) ?_
  refine lv_iconst (v := 1) hx hb dX3_goesOn_1 (by decide) ?_
  refine lv_iadd hx hb dX3_goesOn_2 ?_
  refine mr_istore_n (lv' := [(2, .int (y1 + (1 : Int32))), (0, mV ad (some 0)), (1, .int y1)]) C hl dX3_goesOn_3 rfl (by decide) rfl (fun ls hl1 => ?_)
  clear hl
  obtain ⟨I4, hI4, nn4, h⟩ := h
  have hL4 : ∀ (n4 : Nat) (x2_4 : Int32) (σ_4 : mS) (H : Heap) (locs : List Loc) (ls : Array Slot), I4 n4 x2_4 σ_4 → mM G kdM ad s σ_4 H locs → ml_has ls 3 [(0, mV ad (some 0)), (1, .int y1), (2, .int x2_4)] → W p l e (mRm 2 45) s m ([mV ad (some 0), .int y1] : List Value).toArray below meth c H locs 0 0 (MQ below (va_Qv Q (mPost G kdM ad) (mA ad)) ([mV ad (some 0), .int y1] : List Value).toArray s 0 0 (mA ad)) (F0 m 4 ls []) := by
    refine m_loop (fun n4 ih4 => ?_)
    intro x2_4 σ_4 H locs ls h_4 hM_4 hl_4
    replace h_4 := hI4 n4 x2_4 σ_4 h_4
    refine lv_iload_n hx hb dX3_goesOn_4 rfl (ml_at hl_4 2 rfl) ?_
    refine mr_aload_n C dX3_goesOn_5 rfl (ml_at hl_4 0 rfl) ?_
    refine fg_X3_94 C hM_4 (mO_fix hM_4 rfl (by decide) (by decide) (by decide)) dX3_goesOn_6 ?_
    refine lv_icmp_ge (tgt := 43) hx hb dX3_goesOn_9 (by decide) (fun hc2 => ?_) (fun hc2 => ?_)
    · replace h_4 := h_4.1 hc2
      refine mr_aload_n C dX3_goesOn_43 rfl (ml_at hl_4 0 rfl) ?_
      refine fg_X3_73 (i := 0) C hM_4 (mO_fix hM_4 rfl (by decide) (by decide) (by decide)) dX3_goesOn_44 ?_
      refine lv_iload_n hx hb dX3_goesOn_47 rfl (ml_at hl_4 1 rfl) ?_
      refine lv_dup2_11 hx hb dX3_goesOn_48 rfl (mV_cat _ _) ?_
      obtain ⟨j3, ej4, ej4b, h_4⟩ := h_4
      refine mr_iald C hM_4 (mB_fix hM_4 rfl (by decide) (by decide) (by decide)) ej4 ej4b (by decide) dX3_goesOn_49 ?_
      refine lv_iconst (v := 1) hx hb dX3_goesOn_50 (by decide) ?_
      refine lv_iadd hx hb dX3_goesOn_51 ?_
      obtain ⟨j5, ej6, ej6b, h_4⟩ := h_4
      refine mr_iast C hM_4 (mB_fix hM_4 rfl (by decide) (by decide) (by decide)) ej6 ej6b (by decide) dX3_goesOn_52 (fun H locs hM7 => ?_)
      clear hM_4
      obtain ⟨σ8, eσ8⟩ : ∃ y, y = sI σ_4 22 j5 ((mI σ_4 22 j3) + (1 : Int32)) := ⟨_, rfl⟩
      rw [← eσ8] at hM7
      replace h_4 := h_4 σ8 eσ8
      refine mr_aload_n C dX3_goesOn_53 rfl (ml_at hl_4 0 rfl) ?_
      refine fg_X3_76 (i := 0) C hM7 (mO_fix hM7 rfl (by decide) (by decide) (by decide)) dX3_goesOn_54 ?_
      refine lv_iload_n hx hb dX3_goesOn_57 rfl (ml_at hl_4 1 rfl) ?_
      refine lv_iconst (v := 0) hx hb dX3_goesOn_58 (by decide) ?_
      obtain ⟨j9, ej10, ej10b, h_4⟩ := h_4
      refine mr_iast C hM7 (mB_fix hM7 rfl (by decide) (by decide) (by decide)) ej10 ej10b (by decide) dX3_goesOn_59 (fun H locs hM11 => ?_)
      clear hM7
      obtain ⟨σ12, eσ12⟩ : ∃ y, y = sI σ8 23 j9 (0 : Int32) := ⟨_, rfl⟩
      rw [← eσ12] at hM11
      replace h_4 := h_4 σ12 eσ12
      refine mr_aload_n C dX3_goesOn_60 rfl (ml_at hl_4 0 rfl) ?_
      refine fg_X3_73 (i := 0) C hM11 (mO_fix hM11 rfl (by decide) (by decide) (by decide)) dX3_goesOn_61 ?_
      refine lv_iload_n hx hb dX3_goesOn_64 rfl (ml_at hl_4 1 rfl) ?_
      obtain ⟨j13, ej14, ej14b, h_4⟩ := h_4
      refine mr_iald C hM11 (mB_fix hM11 rfl (by decide) (by decide) (by decide)) ej14 ej14b (by decide) dX3_goesOn_65 ?_
      refine mr_aload_n C dX3_goesOn_66 rfl (ml_at hl_4 0 rfl) ?_
      refine fg_X3_70 (i := 0) C hM11 (mO_fix hM11 rfl (by decide) (by decide) (by decide)) dX3_goesOn_67 ?_
      refine lv_iload_n hx hb dX3_goesOn_70 rfl (ml_at hl_4 1 rfl) ?_
      obtain ⟨j15, ej16, ej16b, h_4⟩ := h_4
      refine mr_iald C hM11 (mB_fix hM11 rfl (by decide) (by decide) (by decide)) ej16 ej16b (by decide) dX3_goesOn_71 ?_
      refine lv_icmp_ne (tgt := 85) hx hb dX3_goesOn_72 (by decide) (fun hc17 => ?_) (fun hc17 => ?_)
      · replace h_4 := h_4.1 hc17
        refine mr_aload_n C dX3_goesOn_85 rfl (ml_at hl_4 0 rfl) ?_
        refine fg_X3_79 (i := 0) C hM11 (mO_fix hM11 rfl (by decide) (by decide) (by decide)) dX3_goesOn_86 ?_
        refine lv_iload_n hx hb dX3_goesOn_89 rfl (ml_at hl_4 1 rfl) ?_
        refine lv_iconst (v := 1) hx hb dX3_goesOn_90 (by decide) ?_
        obtain ⟨j18, ej19, ej19b, h_4⟩ := h_4
        refine mr_zast C hM11 (mB_fix hM11 rfl (by decide) (by decide) (by decide)) ej19 ej19b (by decide) dX3_goesOn_91 (fun H locs hM20 => ?_)
        clear hM11
        obtain ⟨σ21, eσ21⟩ : ∃ y, y = sI σ12 24 j18 (vp_nar .boolean (1 : Int32)) := ⟨_, rfl⟩
        rw [← eσ21] at hM20
        replace h_4 := h_4 σ21 eσ21
        exact mr_vret C hM20 hr hlk h_4 dX3_goesOn_92
      · replace h_4 := h_4.2 hc17
        refine mr_aload_n C dX3_goesOn_75 rfl (ml_at hl_4 0 rfl) ?_
        refine lv_iload_n hx hb dX3_goesOn_76 rfl (ml_at hl_4 1 rfl) ?_
        refine lv_iconst (v := 3) hx hb dX3_goesOn_77 (by decide) ?_
        refine mr_ci hM11 (mr_runV (As := [.int y1, .int (3 : Int32)]) C hM11 hl_4.1.1 (c_X3_ends l G ad y1 (3 : Int32) σ12 _ h_4) cw_X3_114 (mO_fix hM11 rfl (by decide) (by decide) (by decide)) rfl rfl (n := 2) ⟨rfl, by decide, by decide, by decide +kernel⟩ rfl rfl ⟨Nat.le_of_ble_eq_true rfl, Nat.le_of_ble_eq_true rfl⟩ m_c0 (Nat.le_of_ble_eq_true rfl) dX3_goesOn_78 ⟨Nat.zero_le _, Nat.zero_le _⟩) (fun x25 σ22 H locs h23 hM24 => ?_)
        clear h_4 hM11
        refine lv_pop hx hb dX3_goesOn_81 rfl ?_
        refine lv_goto (tgt := 92) hx hb dX3_goesOn_82 (by decide) ?_
        exact mr_vret C hM24 hr hlk h23 dX3_goesOn_92
    · replace h_4 := h_4.2 hc2
      refine mr_aload_n C dX3_goesOn_12 rfl (ml_at hl_4 0 rfl) ?_
      refine lv_iload_n hx hb dX3_goesOn_13 rfl (ml_at hl_4 2 rfl) ?_
      refine lv_iload_n hx hb dX3_goesOn_14 rfl (ml_at hl_4 1 rfl) ?_
      refine mr_ci hM_4 (mr_runV (As := [.int x2_4, .int y1]) C hM_4 hl_4.1.1 (c_X3_isTry l G ad x2_4 y1 σ_4 _ h_4) cw_X3_134 (mO_fix hM_4 rfl (by decide) (by decide) (by decide)) rfl rfl (n := 2) ⟨rfl, by decide, by decide, by decide +kernel⟩ rfl rfl ⟨Nat.le_of_ble_eq_true rfl, Nat.le_of_ble_eq_true rfl⟩ m_c0 (Nat.le_of_ble_eq_true rfl) dX3_goesOn_15 ⟨Nat.zero_le _, Nat.zero_le _⟩) (fun x29 σ26 H locs h27 hM28 => ?_)
      clear h_4 hM_4
      obtain ⟨h27, hzx29⟩ := h27
      refine lv_if_eq (tgt := 37) hx hb dX3_goesOn_18 (by decide) (fun hc30 => ?_) (fun hc30 => ?_)
      · replace h27 := h27.1 hc30
        refine mr_iinc (v := (x2_4 + 1)) (lv' := [(2, .int (x2_4 + 1)), (0, mV ad (some 0)), (1, .int y1)]) C hl_4 dX3_goesOn_37 (k := 2) rfl rfl (by decide) rfl (fun ls hl31 => ?_)
        clear hl_4
        refine lv_goto (tgt := 4) hx hb dX3_goesOn_40 (by decide) ?_
        obtain ⟨k32, hk32, h27⟩ := h27
        exact ih4 k32 hk32 (x2_4 + 1) σ26 _ _ _ h27 hM28 (ml_sub hl31 [1, 2, 0] rfl)
      · replace h27 := h27.2 hc30
        refine mr_aload_n C dX3_goesOn_21 rfl (ml_at hl_4 0 rfl) ?_
        refine lv_iload_n hx hb dX3_goesOn_22 rfl (ml_at hl_4 2 rfl) ?_
        refine mr_ci hM28 (mr_runV (As := [.int x2_4]) C hM28 hl_4.1.1 (c_X3_isOver l G ad x2_4 σ26 _ h27) cw_X3_104 (mO_fix hM28 rfl (by decide) (by decide) (by decide)) rfl rfl (n := 1) ⟨rfl, by decide, by decide, by decide +kernel⟩ rfl rfl ⟨Nat.le_of_ble_eq_true rfl, Nat.le_of_ble_eq_true rfl⟩ m_c0 (Nat.le_of_ble_eq_true rfl) dX3_goesOn_23 ⟨Nat.zero_le _, Nat.zero_le _⟩) (fun x36 σ33 H locs h34 hM35 => ?_)
        clear h27 hM28
        obtain ⟨h34, hzx36⟩ := h34
        refine lv_if_ne (tgt := 37) hx hb dX3_goesOn_26 (by decide) (fun hc37 => ?_) (fun hc37 => ?_)
        · replace h34 := h34.1 hc37
          refine mr_iinc (v := (x2_4 + 1)) (lv' := [(2, .int (x2_4 + 1)), (0, mV ad (some 0)), (1, .int y1)]) C hl_4 dX3_goesOn_37 (k := 2) rfl rfl (by decide) rfl (fun ls hl38 => ?_)
          clear hl_4
          refine lv_goto (tgt := 4) hx hb dX3_goesOn_40 (by decide) ?_
          obtain ⟨k39, hk39, h34⟩ := h34
          exact ih4 k39 hk39 (x2_4 + 1) σ33 _ _ _ h34 hM35 (ml_sub hl38 [1, 2, 0] rfl)
        · replace h34 := h34.2 hc37
          refine mr_aload_n C dX3_goesOn_29 rfl (ml_at hl_4 0 rfl) ?_
          refine lv_iload_n hx hb dX3_goesOn_30 rfl (ml_at hl_4 2 rfl) ?_
          refine lv_bipush (v := 7) hx hb dX3_goesOn_31 (by decide) ?_
          refine mr_ci hM35 (mr_runV (As := [.int x2_4, .int (7 : Int32)]) C hM35 hl_4.1.1 (c_X3_ends l G ad x2_4 (7 : Int32) σ33 _ h34) cw_X3_114 (mO_fix hM35 rfl (by decide) (by decide) (by decide)) rfl rfl (n := 2) ⟨rfl, by decide, by decide, by decide +kernel⟩ rfl rfl ⟨Nat.le_of_ble_eq_true rfl, Nat.le_of_ble_eq_true rfl⟩ m_c0 (Nat.le_of_ble_eq_true rfl) dX3_goesOn_33 ⟨Nat.zero_le _, Nat.zero_le _⟩) (fun x43 σ40 H locs h41 hM42 => ?_)
          clear h34 hM35
          refine lv_pop hx hb dX3_goesOn_36 rfl ?_
          refine mr_iinc (v := (x2_4 + 1)) (lv' := [(2, .int (x2_4 + 1)), (0, mV ad (some 0)), (1, .int y1)]) C hl_4 dX3_goesOn_37 (k := 2) rfl rfl (by decide) rfl (fun ls hl44 => ?_)
          clear hl_4
          refine lv_goto (tgt := 4) hx hb dX3_goesOn_40 (by decide) ?_
          obtain ⟨k45, hk45, h41⟩ := h41
          exact ih4 k45 hk45 (x2_4 + 1) σ40 _ _ _ h41 hM42 (ml_sub hl44 [1, 2, 0] rfl)
  exact hL4 nn4 (y1 + (1 : Int32)) σ0 _ _ _ h hM (ml_sub hl1 [1, 2, 0] rfl)
def w_X3_looks (y1 : Int32) (σ0 : mS) (Q : mS → Prop) : Prop := (∃ I15 : Nat → Int32 → Int32 → Int32 → Int32 → Int32 → mS → Prop, (∀ (n15 : Nat) (x2_15 : Int32) (x3_15 : Int32) (x4_15 : Int32) (x5_15 : Int32) (x6_15 : Int32) (σ_15 : mS), I15 n15 x2_15 x3_15 x4_15 x5_15 x6_15 σ_15 → (((mI σ_15 0 13) ≤ x6_15 → (∃ j7, y1 = nI j7 ∧ (j7 < 200 ∧ (∃ j9, (((3 : Int32) * y1) + (mI σ_15 22 j7)) = nI j9 ∧ (j9 < 600 ∧ ((x4_15 = 0 → (∃ J192 : mS → Prop, (∀  (σ_192 : mS), J192  σ_192 → ((x5_15 = 0 → ((¬ x2_15 = (1 : Int32) → (Q σ_192)) ∧ (x2_15 = (1 : Int32) → (∃ j15, (mI σ_15 20 j9) = nI j15 ∧ (j15 < 6 ∧ (((mI σ_192 8 j15) ≤ 0 → (Q σ_192)) ∧ (¬ (mI σ_192 8 j15) ≤ 0 → (∃ j18, (mI σ_15 20 j9) = nI j18 ∧ (j18 < 6 ∧ ((((mI σ_192 0 1) - x3_15) < (mI σ_192 8 j18) → (Q σ_192)) ∧ (¬ ((mI σ_192 0 1) - x3_15) < (mI σ_192 8 j18) → (∃ j21, y1 = nI j21 ∧ (j21 < 200 ∧ (∀ σ24, σ24 = sI σ_192 24 j21 (vp_nar .boolean (1 : Int32)) → (Q σ24))))))))))))))) ∧ (¬ x5_15 = 0 → w_X3_ends y1 (4 : Int32) σ_192 (fun x28 σ25 => (Q σ25))))) ∧ ((x5_15 = 0 → (J192  σ_15)) ∧ (¬ x5_15 = 0 → (∃ j30, y1 = nI j30 ∧ (j30 < 200 ∧ (((2 : Int32) ≤ (mI σ_15 23 j30) → (J192  σ_15)) ∧ (¬ (2 : Int32) ≤ (mI σ_15 23 j30) → (∃ j33, (mI σ_15 20 j9) = nI j33 ∧ (j33 < 6 ∧ (((mI σ_15 9 j33) < (10 : Int32) → (J192  σ_15)) ∧ (¬ (mI σ_15 9 j33) < (10 : Int32) → (∃ j36, (mI σ_15 20 j9) = nI j36 ∧ (j36 < 6 ∧ (∃ j38, (mI σ_15 20 j9) = nI j38 ∧ (j38 < 6 ∧ (∀ σ41, σ41 = sI σ_15 9 j38 ((mI σ_15 9 j36) - (10 : Int32)) → (∃ j42, y1 = nI j42 ∧ (j42 < 200 ∧ (∃ j44, y1 = nI j44 ∧ (j44 < 200 ∧ (∀ σ47, σ47 = sI σ41 23 j44 ((mI σ41 23 j42) + (1 : Int32)) → (∃ j48, y1 = nI j48 ∧ (j48 < 200 ∧ (∀ σ51, σ51 = sI σ47 24 j48 (vp_nar .boolean (1 : Int32)) → (Q σ51)))))))))))))))))))))))))) ∧ (¬ x4_15 = 0 → w_X3_goesOn y1 σ_15 (fun σ52 => (Q σ52))))))))) ∧ (¬ (mI σ_15 0 13) ≤ x6_15 → w_X3_isTry x6_15 y1 σ_15 (fun x58 σ55 => ((x58 = 0 → (∃ k61, k61 < n15 ∧ I15 k61 x2_15 x3_15 x4_15 x5_15 (x6_15 + 1) σ55)) ∧ (¬ x58 = 0 → (∃ J49 : Int32 → mS → Prop, (∀ (xk0_49 : Int32) (σ_49 : mS), J49 xk0_49 σ_49 → (∃ J74 : Int32 → mS → Prop, (∀ (xk0_74 : Int32) (σ_74 : mS), J74 xk0_74 σ_74 → ((x5_15 = 0 → (∃ k68, k68 < n15 ∧ I15 k68 (x2_15 + 1) xk0_49 xk0_74 (0 : Int32) (x6_15 + 1) σ_74)) ∧ (¬ x5_15 = 0 → w_X3_isOver x6_15 σ_74 (fun x72 σ69 => ((x72 = 0 → (∃ k76, k76 < n15 ∧ I15 k76 (x2_15 + 1) xk0_49 xk0_74 (0 : Int32) (x6_15 + 1) σ69)) ∧ (¬ x72 = 0 → (∃ k79, k79 < n15 ∧ I15 k79 (x2_15 + 1) xk0_49 xk0_74 (1 : Int32) (x6_15 + 1) σ69))))))) ∧ (∃ J69 : mS → Prop, (∀  (σ_69 : mS), J69  σ_69 → (J74 (1 : Int32) σ_69)) ∧ ((¬ x4_15 = 0 → (J69  σ_49)) ∧ (x4_15 = 0 → (∃ j81, x6_15 = nI j81 ∧ (j81 < 200 ∧ ((¬ (mI σ_49 15 j81) = (3 : Int32) → (J74 (0 : Int32) σ_49)) ∧ ((mI σ_49 15 j81) = (3 : Int32) → (J69  σ_49)))))))))) ∧ ((¬ x2_15 = 0 → (J49 x3_15 σ55)) ∧ (x2_15 = 0 → (∃ j85, x6_15 = nI j85 ∧ (j85 < 200 ∧ (J49 (mI σ55 18 j85) σ55)))))))))))) ∧ ∃ n, I15 n (0 : Int32) (0 : Int32) (0 : Int32) (1 : Int32) (y1 + (1 : Int32)) σ0)
set_option maxRecDepth 100000 in
set_option maxHeartbeats 4000000 in
theorem c_X3_looks (l : Launch) (G : mG) (ad : Nat → Nat) (y1 : Int32) (σ0 : mS) (Q : mS → Prop) (h : w_X3_looks y1 σ0 Q) : mKv l yX3_looks cX3_looks 7 3 67 G kdM ad σ0 [mV ad (some 0), .int y1] Q := by
  refine mr_start (lst := [(0, mV ad (some 0)), (1, .int y1)]) (by decide) (m_cR (m_cI m_c0)) rfl (Nat.le_of_ble_eq_true rfl) (fun p e s m below meth c C hM hr hlk ls hl => ?_)
  have hx := C.1.1
  have hb := C.1.2.1
  unfold w_X3_looks at h
  refine lv_iconst (v := 0) hx hb dX3_looks_0 (by decide) ?_
  refine mr_istore_n (lv' := [(2, .int (0 : Int32)), (0, mV ad (some 0)), (1, .int y1)]) C hl dX3_looks_1 rfl (by decide) rfl (fun ls hl1 => ?_)
  clear hl
  refine lv_iconst (v := 0) hx hb dX3_looks_2 (by decide) ?_
  refine mr_istore_n (lv' := [(3, .int (0 : Int32)), (2, .int (0 : Int32)), (0, mV ad (some 0)), (1, .int y1)]) C hl1 dX3_looks_3 rfl (by decide) rfl (fun ls hl2 => ?_)
  clear hl1
  refine lv_iconst (v := 0) hx hb dX3_looks_4 (by decide) ?_
  refine mr_istore (lv' := [(4, .int (0 : Int32)), (3, .int (0 : Int32)), (2, .int (0 : Int32)), (0, mV ad (some 0)), (1, .int y1)]) C hl2 dX3_looks_5 (by decide) rfl (fun ls hl3 => ?_)
  clear hl2
  refine lv_iconst (v := 1) hx hb dX3_looks_7 (by decide) ?_
  refine mr_istore (lv' := [(5, .int (1 : Int32)), (4, .int (0 : Int32)), (3, .int (0 : Int32)), (2, .int (0 : Int32)), (0, mV ad (some 0)), (1, .int y1)]) C hl3 dX3_looks_8 (by decide) rfl (fun ls hl4 => ?_)
  clear hl3
  refine lv_iload_n hx hb dX3_looks_10 rfl (ml_at hl4 5 rfl) ?_
  refine lv_iconst (v := 1) hx hb dX3_looks_11 (by decide) ?_
  refine lv_iadd hx hb dX3_looks_12 ?_
  refine mr_istore (lv' := [(6, .int (y1 + (1 : Int32))), (5, .int (1 : Int32)), (4, .int (0 : Int32)), (3, .int (0 : Int32)), (2, .int (0 : Int32)), (0, mV ad (some 0)), (1, .int y1)]) C hl4 dX3_looks_13 (by decide) rfl (fun ls hl5 => ?_)
  clear hl4
  obtain ⟨I15, hI15, nn15, h⟩ := h
  have hL15 : ∀ (n15 : Nat) (x2_15 : Int32) (x3_15 : Int32) (x4_15 : Int32) (x5_15 : Int32) (x6_15 : Int32) (σ_15 : mS) (H : Heap) (locs : List Loc) (ls : Array Slot), I15 n15 x2_15 x3_15 x4_15 x5_15 x6_15 σ_15 → mM G kdM ad s σ_15 H locs → ml_has ls 7 [(0, mV ad (some 0)), (1, .int y1), (2, .int x2_15), (3, .int x3_15), (4, .int x4_15), (5, .int x5_15), (6, .int x6_15)] → W p l e (mRm 3 67) s m ([mV ad (some 0), .int y1] : List Value).toArray below meth c H locs 0 0 (MQ below (va_Qv Q (mPost G kdM ad) (mA ad)) ([mV ad (some 0), .int y1] : List Value).toArray s 0 0 (mA ad)) (F0 m 15 ls []) := by
    refine m_loop (fun n15 ih15 => ?_)
    intro x2_15 x3_15 x4_15 x5_15 x6_15 σ_15 H locs ls h_15 hM_15 hl_15
    replace h_15 := hI15 n15 x2_15 x3_15 x4_15 x5_15 x6_15 σ_15 h_15
    refine lv_iload hx hb dX3_looks_15 (ml_at hl_15 6 rfl) ?_
    refine mr_aload_n C dX3_looks_17 rfl (ml_at hl_15 0 rfl) ?_
    refine fg_X3_94 C hM_15 (mO_fix hM_15 rfl (by decide) (by decide) (by decide)) dX3_looks_18 ?_
    refine lv_icmp_ge (tgt := 103) hx hb dX3_looks_21 (by decide) (fun hc6 => ?_) (fun hc6 => ?_)
    · replace h_15 := h_15.1 hc6
      refine mr_aload_n C dX3_looks_103 rfl (ml_at hl_15 0 rfl) ?_
      refine fg_X3_67 (i := 0) C hM_15 (mO_fix hM_15 rfl (by decide) (by decide) (by decide)) dX3_looks_104 ?_
      refine lv_iconst (v := 3) hx hb dX3_looks_107 (by decide) ?_
      refine lv_iload_n hx hb dX3_looks_108 rfl (ml_at hl_15 1 rfl) ?_
      refine lv_imul hx hb dX3_looks_109 ?_
      refine mr_aload_n C dX3_looks_110 rfl (ml_at hl_15 0 rfl) ?_
      refine fg_X3_73 (i := 0) C hM_15 (mO_fix hM_15 rfl (by decide) (by decide) (by decide)) dX3_looks_111 ?_
      refine lv_iload_n hx hb dX3_looks_114 rfl (ml_at hl_15 1 rfl) ?_
      obtain ⟨j7, ej8, ej8b, h_15⟩ := h_15
      refine mr_iald C hM_15 (mB_fix hM_15 rfl (by decide) (by decide) (by decide)) ej8 ej8b (by decide) dX3_looks_115 ?_
      refine lv_iadd hx hb dX3_looks_116 ?_
      obtain ⟨j9, ej10, ej10b, h_15⟩ := h_15
      refine mr_iald C hM_15 (mB_fix hM_15 rfl (by decide) (by decide) (by decide)) ej10 ej10b (by decide) dX3_looks_117 ?_
      refine mr_istore (lv' := [(6, .int (mI σ_15 20 j9)), (0, mV ad (some 0)), (1, .int y1), (2, .int x2_15), (3, .int x3_15), (4, .int x4_15), (5, .int x5_15)]) C hl_15 dX3_looks_118 (by decide) rfl (fun ls hl11 => ?_)
      clear hl_15
      refine lv_iload hx hb dX3_looks_120 (ml_at hl11 5 rfl) ?_
      refine lv_if_eq (tgt := 133) hx hb dX3_looks_122 (by decide) (fun hc12 => ?_) (fun hc12 => ?_)
      · replace h_15 := h_15.1 hc12
        refine lv_iload hx hb dX3_looks_133 (ml_at hl11 6 rfl) ?_
        obtain ⟨J192, hJ192, h_15⟩ := h_15
        have hj192 : ∀  (σ_192 : mS) (H : Heap) (locs : List Loc) (ls : Array Slot), J192  σ_192 → mM G kdM ad s σ_192 H locs → ml_has ls 7 [(0, mV ad (some 0)), (1, .int y1), (2, .int x2_15), (3, .int x3_15), (5, .int x5_15), (6, .int (mI σ_15 20 j9))] → W p l e (mRm 3 67) s m ([mV ad (some 0), .int y1] : List Value).toArray below meth c H locs 0 0 (MQ below (va_Qv Q (mPost G kdM ad) (mA ad)) ([mV ad (some 0), .int y1] : List Value).toArray s 0 0 (mA ad)) (F0 m 192 ls []) := by
          intro  σ_192 H locs ls h_192 hM_192 hl_192
          replace h_192 := hJ192  σ_192 h_192
          refine lv_iload hx hb dX3_looks_192 (ml_at hl_192 4 rfl) ?_
          refine lv_if_eq (tgt := 207) hx hb dX3_looks_194 (by decide) (fun hc13 => ?_) (fun hc13 => ?_)
          · replace h_192 := h_192.1 hc13
            refine lv_iload_n hx hb dX3_looks_207 rfl (ml_at hl_192 2 rfl) ?_
            refine lv_iconst (v := 1) hx hb dX3_looks_208 (by decide) ?_
            refine lv_icmp_ne (tgt := 245) hx hb dX3_looks_209 (by decide) (fun hc14 => ?_) (fun hc14 => ?_)
            · replace h_192 := h_192.1 hc14
              exact mr_vret C hM_192 hr hlk h_192 dX3_looks_245
            · replace h_192 := h_192.2 hc14
              refine mr_aload_n C dX3_looks_212 rfl (ml_at hl_192 0 rfl) ?_
              refine fg_X3_31 (i := 0) C hM_192 (mO_fix hM_192 rfl (by decide) (by decide) (by decide)) dX3_looks_213 ?_
              refine lv_iload hx hb dX3_looks_216 (ml_at hl_192 5 rfl) ?_
              obtain ⟨j15, ej16, ej16b, h_192⟩ := h_192
              refine mr_iald C hM_192 (mB_fix hM_192 rfl (by decide) (by decide) (by decide)) ej16 ej16b (by decide) dX3_looks_218 ?_
              refine lv_if_le (tgt := 245) hx hb dX3_looks_219 (by decide) (fun hc17 => ?_) (fun hc17 => ?_)
              · replace h_192 := h_192.1 hc17
                exact mr_vret C hM_192 hr hlk h_192 dX3_looks_245
              · replace h_192 := h_192.2 hc17
                refine mr_aload_n C dX3_looks_222 rfl (ml_at hl_192 0 rfl) ?_
                refine fg_X3_101 C hM_192 (mO_fix hM_192 rfl (by decide) (by decide) (by decide)) dX3_looks_223 ?_
                refine lv_iload_n hx hb dX3_looks_226 rfl (ml_at hl_192 3 rfl) ?_
                refine lv_isub hx hb dX3_looks_227 ?_
                refine mr_aload_n C dX3_looks_228 rfl (ml_at hl_192 0 rfl) ?_
                refine fg_X3_31 (i := 0) C hM_192 (mO_fix hM_192 rfl (by decide) (by decide) (by decide)) dX3_looks_229 ?_
                refine lv_iload hx hb dX3_looks_232 (ml_at hl_192 5 rfl) ?_
                obtain ⟨j18, ej19, ej19b, h_192⟩ := h_192
                refine mr_iald C hM_192 (mB_fix hM_192 rfl (by decide) (by decide) (by decide)) ej19 ej19b (by decide) dX3_looks_234 ?_
                refine lv_icmp_lt (tgt := 245) hx hb dX3_looks_235 (by decide) (fun hc20 => ?_) (fun hc20 => ?_)
                · replace h_192 := h_192.1 hc20
                  exact mr_vret C hM_192 hr hlk h_192 dX3_looks_245
                · replace h_192 := h_192.2 hc20
                  refine mr_aload_n C dX3_looks_238 rfl (ml_at hl_192 0 rfl) ?_
                  refine fg_X3_79 (i := 0) C hM_192 (mO_fix hM_192 rfl (by decide) (by decide) (by decide)) dX3_looks_239 ?_
                  refine lv_iload_n hx hb dX3_looks_242 rfl (ml_at hl_192 1 rfl) ?_
                  refine lv_iconst (v := 1) hx hb dX3_looks_243 (by decide) ?_
                  obtain ⟨j21, ej22, ej22b, h_192⟩ := h_192
                  refine mr_zast C hM_192 (mB_fix hM_192 rfl (by decide) (by decide) (by decide)) ej22 ej22b (by decide) dX3_looks_244 (fun H locs hM23 => ?_)
                  clear hM_192
                  obtain ⟨σ24, eσ24⟩ : ∃ y, y = sI σ_192 24 j21 (vp_nar .boolean (1 : Int32)) := ⟨_, rfl⟩
                  rw [← eσ24] at hM23
                  replace h_192 := h_192 σ24 eσ24
                  exact mr_vret C hM23 hr hlk h_192 dX3_looks_245
          · replace h_192 := h_192.2 hc13
            refine mr_aload_n C dX3_looks_197 rfl (ml_at hl_192 0 rfl) ?_
            refine lv_iload_n hx hb dX3_looks_198 rfl (ml_at hl_192 1 rfl) ?_
            refine lv_iconst (v := 4) hx hb dX3_looks_199 (by decide) ?_
            refine mr_ci hM_192 (mr_runV (As := [.int y1, .int (4 : Int32)]) C hM_192 hl_192.1.1 (c_X3_ends l G ad y1 (4 : Int32) σ_192 _ h_192) cw_X3_114 (mO_fix hM_192 rfl (by decide) (by decide) (by decide)) rfl rfl (n := 2) ⟨rfl, by decide, by decide, by decide +kernel⟩ rfl rfl ⟨Nat.le_of_ble_eq_true rfl, Nat.le_of_ble_eq_true rfl⟩ m_c0 (Nat.le_of_ble_eq_true rfl) dX3_looks_200 ⟨Nat.zero_le _, Nat.zero_le _⟩) (fun x28 σ25 H locs h26 hM27 => ?_)
            clear h_192 hM_192
            refine lv_pop hx hb dX3_looks_203 rfl ?_
            refine lv_goto (tgt := 245) hx hb dX3_looks_204 (by decide) ?_
            exact mr_vret C hM27 hr hlk h26 dX3_looks_245
        refine lv_if_eq (tgt := 192) hx hb dX3_looks_135 (by decide) (fun hc29 => ?_) (fun hc29 => ?_)
        · replace h_15 := h_15.1 hc29
          exact hj192  σ_15 _ _ _ h_15 hM_15 (ml_sub hl11 [1, 2, 3, 4, 6, 0] rfl)
        · replace h_15 := h_15.2 hc29
          refine mr_aload_n C dX3_looks_138 rfl (ml_at hl11 1 rfl) ?_
          refine fg_X3_76 (i := 0) C hM_15 (mO_fix hM_15 rfl (by decide) (by decide) (by decide)) dX3_looks_139 ?_
          refine lv_iload_n hx hb dX3_looks_142 rfl (ml_at hl11 2 rfl) ?_
          obtain ⟨j30, ej31, ej31b, h_15⟩ := h_15
          refine mr_iald C hM_15 (mB_fix hM_15 rfl (by decide) (by decide) (by decide)) ej31 ej31b (by decide) dX3_looks_143 ?_
          refine lv_iconst (v := 2) hx hb dX3_looks_144 (by decide) ?_
          refine lv_icmp_ge (tgt := 192) hx hb dX3_looks_145 (by decide) (fun hc32 => ?_) (fun hc32 => ?_)
          · replace h_15 := h_15.1 hc32
            exact hj192  σ_15 _ _ _ h_15 hM_15 (ml_sub hl11 [1, 2, 3, 4, 6, 0] rfl)
          · replace h_15 := h_15.2 hc32
            refine mr_aload_n C dX3_looks_148 rfl (ml_at hl11 1 rfl) ?_
            refine fg_X3_34 (i := 0) C hM_15 (mO_fix hM_15 rfl (by decide) (by decide) (by decide)) dX3_looks_149 ?_
            refine lv_iload hx hb dX3_looks_152 (ml_at hl11 0 rfl) ?_
            obtain ⟨j33, ej34, ej34b, h_15⟩ := h_15
            refine mr_iald C hM_15 (mB_fix hM_15 rfl (by decide) (by decide) (by decide)) ej34 ej34b (by decide) dX3_looks_154 ?_
            refine lv_bipush (v := 10) hx hb dX3_looks_155 (by decide) ?_
            refine lv_icmp_lt (tgt := 192) hx hb dX3_looks_157 (by decide) (fun hc35 => ?_) (fun hc35 => ?_)
            · replace h_15 := h_15.1 hc35
              exact hj192  σ_15 _ _ _ h_15 hM_15 (ml_sub hl11 [1, 2, 3, 4, 6, 0] rfl)
            · replace h_15 := h_15.2 hc35
              refine mr_aload_n C dX3_looks_160 rfl (ml_at hl11 1 rfl) ?_
              refine fg_X3_34 (i := 0) C hM_15 (mO_fix hM_15 rfl (by decide) (by decide) (by decide)) dX3_looks_161 ?_
              refine lv_iload hx hb dX3_looks_164 (ml_at hl11 0 rfl) ?_
              refine lv_dup2_11 hx hb dX3_looks_166 rfl (mV_cat _ _) ?_
              obtain ⟨j36, ej37, ej37b, h_15⟩ := h_15
              refine mr_iald C hM_15 (mB_fix hM_15 rfl (by decide) (by decide) (by decide)) ej37 ej37b (by decide) dX3_looks_167 ?_
              refine lv_bipush (v := 10) hx hb dX3_looks_168 (by decide) ?_
              refine lv_isub hx hb dX3_looks_170 ?_
              obtain ⟨j38, ej39, ej39b, h_15⟩ := h_15
              refine mr_iast C hM_15 (mB_fix hM_15 rfl (by decide) (by decide) (by decide)) ej39 ej39b (by decide) dX3_looks_171 (fun H locs hM40 => ?_)
              clear hM_15
              obtain ⟨σ41, eσ41⟩ : ∃ y, y = sI σ_15 9 j38 ((mI σ_15 9 j36) - (10 : Int32)) := ⟨_, rfl⟩
              rw [← eσ41] at hM40
              replace h_15 := h_15 σ41 eσ41
              refine mr_aload_n C dX3_looks_172 rfl (ml_at hl11 1 rfl) ?_
              refine fg_X3_76 (i := 0) C hM40 (mO_fix hM40 rfl (by decide) (by decide) (by decide)) dX3_looks_173 ?_
              refine lv_iload_n hx hb dX3_looks_176 rfl (ml_at hl11 2 rfl) ?_
              refine lv_dup2_11 hx hb dX3_looks_177 rfl (mV_cat _ _) ?_
              obtain ⟨j42, ej43, ej43b, h_15⟩ := h_15
              refine mr_iald C hM40 (mB_fix hM40 rfl (by decide) (by decide) (by decide)) ej43 ej43b (by decide) dX3_looks_178 ?_
              refine lv_iconst (v := 1) hx hb dX3_looks_179 (by decide) ?_
              refine lv_iadd hx hb dX3_looks_180 ?_
              obtain ⟨j44, ej45, ej45b, h_15⟩ := h_15
              refine mr_iast C hM40 (mB_fix hM40 rfl (by decide) (by decide) (by decide)) ej45 ej45b (by decide) dX3_looks_181 (fun H locs hM46 => ?_)
              clear hM40
              obtain ⟨σ47, eσ47⟩ : ∃ y, y = sI σ41 23 j44 ((mI σ41 23 j42) + (1 : Int32)) := ⟨_, rfl⟩
              rw [← eσ47] at hM46
              replace h_15 := h_15 σ47 eσ47
              refine mr_aload_n C dX3_looks_182 rfl (ml_at hl11 1 rfl) ?_
              refine fg_X3_79 (i := 0) C hM46 (mO_fix hM46 rfl (by decide) (by decide) (by decide)) dX3_looks_183 ?_
              refine lv_iload_n hx hb dX3_looks_186 rfl (ml_at hl11 2 rfl) ?_
              refine lv_iconst (v := 1) hx hb dX3_looks_187 (by decide) ?_
              obtain ⟨j48, ej49, ej49b, h_15⟩ := h_15
              refine mr_zast C hM46 (mB_fix hM46 rfl (by decide) (by decide) (by decide)) ej49 ej49b (by decide) dX3_looks_188 (fun H locs hM50 => ?_)
              clear hM46
              obtain ⟨σ51, eσ51⟩ : ∃ y, y = sI σ47 24 j48 (vp_nar .boolean (1 : Int32)) := ⟨_, rfl⟩
              rw [← eσ51] at hM50
              replace h_15 := h_15 σ51 eσ51
              refine lv_goto (tgt := 245) hx hb dX3_looks_189 (by decide) ?_
              exact mr_vret C hM50 hr hlk h_15 dX3_looks_245
      · replace h_15 := h_15.2 hc12
        refine mr_aload_n C dX3_looks_125 rfl (ml_at hl11 1 rfl) ?_
        refine lv_iload_n hx hb dX3_looks_126 rfl (ml_at hl11 2 rfl) ?_
        refine mr_cv hM_15 (mr_runV (As := [.int y1]) C hM_15 hl11.1.1 (c_X3_goesOn l G ad y1 σ_15 _ h_15) cw_X3_138 (mO_fix hM_15 rfl (by decide) (by decide) (by decide)) rfl rfl (n := 1) ⟨rfl, by decide, by decide, by decide +kernel⟩ rfl rfl ⟨Nat.le_of_ble_eq_true rfl, Nat.le_of_ble_eq_true rfl⟩ m_c0 (Nat.le_of_ble_eq_true rfl) dX3_looks_127 ⟨Nat.zero_le _, Nat.zero_le _⟩) (fun σ52 H locs h53 hM54 => ?_)
        clear h_15 hM_15
        refine lv_goto (tgt := 245) hx hb dX3_looks_130 (by decide) ?_
        exact mr_vret C hM54 hr hlk h53 dX3_looks_245
    · replace h_15 := h_15.2 hc6
      refine mr_aload_n C dX3_looks_24 rfl (ml_at hl_15 0 rfl) ?_
      refine lv_iload hx hb dX3_looks_25 (ml_at hl_15 6 rfl) ?_
      refine lv_iload_n hx hb dX3_looks_27 rfl (ml_at hl_15 1 rfl) ?_
      refine mr_ci hM_15 (mr_runV (As := [.int x6_15, .int y1]) C hM_15 hl_15.1.1 (c_X3_isTry l G ad x6_15 y1 σ_15 _ h_15) cw_X3_134 (mO_fix hM_15 rfl (by decide) (by decide) (by decide)) rfl rfl (n := 2) ⟨rfl, by decide, by decide, by decide +kernel⟩ rfl rfl ⟨Nat.le_of_ble_eq_true rfl, Nat.le_of_ble_eq_true rfl⟩ m_c0 (Nat.le_of_ble_eq_true rfl) dX3_looks_28 ⟨Nat.zero_le _, Nat.zero_le _⟩) (fun x58 σ55 H locs h56 hM57 => ?_)
      clear h_15 hM_15
      obtain ⟨h56, hzx58⟩ := h56
      refine lv_if_eq (tgt := 97) hx hb dX3_looks_31 (by decide) (fun hc59 => ?_) (fun hc59 => ?_)
      · replace h56 := h56.1 hc59
        refine mr_iinc (v := (x6_15 + 1)) (lv' := [(6, .int (x6_15 + 1)), (0, mV ad (some 0)), (1, .int y1), (2, .int x2_15), (3, .int x3_15), (4, .int x4_15), (5, .int x5_15)]) C hl_15 dX3_looks_97 (k := 6) rfl rfl (by decide) rfl (fun ls hl60 => ?_)
        clear hl_15
        refine lv_goto (tgt := 15) hx hb dX3_looks_100 (by decide) ?_
        obtain ⟨k61, hk61, h56⟩ := h56
        exact ih15 k61 hk61 x2_15 x3_15 x4_15 x5_15 (x6_15 + 1) σ55 _ _ _ h56 hM57 (ml_sub hl60 [1, 2, 3, 4, 5, 6, 0] rfl)
      · replace h56 := h56.2 hc59
        refine lv_iload_n hx hb dX3_looks_34 rfl (ml_at hl_15 2 rfl) ?_
        obtain ⟨J49, hJ49, h56⟩ := h56
        have hj49 : ∀ (xk0_49 : Int32) (σ_49 : mS) (H : Heap) (locs : List Loc) (ls : Array Slot), J49 xk0_49 σ_49 → mM G kdM ad s σ_49 H locs → ml_has ls 7 [(0, mV ad (some 0)), (1, .int y1), (2, .int x2_15), (4, .int x4_15), (5, .int x5_15), (6, .int x6_15)] → W p l e (mRm 3 67) s m ([mV ad (some 0), .int y1] : List Value).toArray below meth c H locs 0 0 (MQ below (va_Qv Q (mPost G kdM ad) (mA ad)) ([mV ad (some 0), .int y1] : List Value).toArray s 0 0 (mA ad)) (F0 m 49 ls [.int xk0_49]) := by
          intro xk0_49 σ_49 H locs ls h_49 hM_49 hl_49
          replace h_49 := hJ49 xk0_49 σ_49 h_49
          refine mr_istore_n (lv' := [(3, .int xk0_49), (0, mV ad (some 0)), (1, .int y1), (2, .int x2_15), (4, .int x4_15), (5, .int x5_15), (6, .int x6_15)]) C hl_49 dX3_looks_49 rfl (by decide) rfl (fun ls hl62 => ?_)
          clear hl_49
          refine mr_iinc (v := (x2_15 + 1)) (lv' := [(2, .int (x2_15 + 1)), (3, .int xk0_49), (0, mV ad (some 0)), (1, .int y1), (4, .int x4_15), (5, .int x5_15), (6, .int x6_15)]) C hl62 dX3_looks_50 (k := 3) rfl rfl (by decide) rfl (fun ls hl63 => ?_)
          clear hl62
          refine lv_iload hx hb dX3_looks_53 (ml_at hl63 4 rfl) ?_
          obtain ⟨J74, hJ74, h_49⟩ := h_49
          have hj74 : ∀ (xk0_74 : Int32) (σ_74 : mS) (H : Heap) (locs : List Loc) (ls : Array Slot), J74 xk0_74 σ_74 → mM G kdM ad s σ_74 H locs → ml_has ls 7 [(0, mV ad (some 0)), (1, .int y1), (2, .int (x2_15 + 1)), (3, .int xk0_49), (5, .int x5_15), (6, .int x6_15)] → W p l e (mRm 3 67) s m ([mV ad (some 0), .int y1] : List Value).toArray below meth c H locs 0 0 (MQ below (va_Qv Q (mPost G kdM ad) (mA ad)) ([mV ad (some 0), .int y1] : List Value).toArray s 0 0 (mA ad)) (F0 m 74 ls [.int xk0_74]) := by
            intro xk0_74 σ_74 H locs ls h_74 hM_74 hl_74
            replace h_74 := hJ74 xk0_74 σ_74 h_74
            refine mr_istore (lv' := [(4, .int xk0_74), (0, mV ad (some 0)), (1, .int y1), (2, .int (x2_15 + 1)), (3, .int xk0_49), (5, .int x5_15), (6, .int x6_15)]) C hl_74 dX3_looks_74 (by decide) rfl (fun ls hl64 => ?_)
            clear hl_74
            refine lv_iload hx hb dX3_looks_76 (ml_at hl64 5 rfl) ?_
            refine lv_if_eq (tgt := 94) hx hb dX3_looks_78 (by decide) (fun hc65 => ?_) (fun hc65 => ?_)
            · replace h_74 := h_74.1 hc65
              refine lv_iconst (v := 0) hx hb dX3_looks_94 (by decide) ?_
              refine mr_istore (lv' := [(5, .int (0 : Int32)), (4, .int xk0_74), (0, mV ad (some 0)), (1, .int y1), (2, .int (x2_15 + 1)), (3, .int xk0_49), (6, .int x6_15)]) C hl64 dX3_looks_95 (by decide) rfl (fun ls hl66 => ?_)
              clear hl64
              refine mr_iinc (v := (x6_15 + 1)) (lv' := [(6, .int (x6_15 + 1)), (5, .int (0 : Int32)), (4, .int xk0_74), (0, mV ad (some 0)), (1, .int y1), (2, .int (x2_15 + 1)), (3, .int xk0_49)]) C hl66 dX3_looks_97 (k := 6) rfl rfl (by decide) rfl (fun ls hl67 => ?_)
              clear hl66
              refine lv_goto (tgt := 15) hx hb dX3_looks_100 (by decide) ?_
              obtain ⟨k68, hk68, h_74⟩ := h_74
              exact ih15 k68 hk68 (x2_15 + 1) xk0_49 xk0_74 (0 : Int32) (x6_15 + 1) σ_74 _ _ _ h_74 hM_74 (ml_sub hl67 [3, 4, 5, 6, 2, 1, 0] rfl)
            · replace h_74 := h_74.2 hc65
              refine mr_aload_n C dX3_looks_81 rfl (ml_at hl64 1 rfl) ?_
              refine lv_iload hx hb dX3_looks_82 (ml_at hl64 6 rfl) ?_
              refine mr_ci hM_74 (mr_runV (As := [.int x6_15]) C hM_74 hl64.1.1 (c_X3_isOver l G ad x6_15 σ_74 _ h_74) cw_X3_104 (mO_fix hM_74 rfl (by decide) (by decide) (by decide)) rfl rfl (n := 1) ⟨rfl, by decide, by decide, by decide +kernel⟩ rfl rfl ⟨Nat.le_of_ble_eq_true rfl, Nat.le_of_ble_eq_true rfl⟩ m_c0 (Nat.le_of_ble_eq_true rfl) dX3_looks_84 ⟨Nat.zero_le _, Nat.zero_le _⟩) (fun x72 σ69 H locs h70 hM71 => ?_)
              clear h_74 hM_74
              obtain ⟨h70, hzx72⟩ := h70
              refine lv_if_eq (tgt := 94) hx hb dX3_looks_87 (by decide) (fun hc73 => ?_) (fun hc73 => ?_)
              · replace h70 := h70.1 hc73
                refine lv_iconst (v := 0) hx hb dX3_looks_94 (by decide) ?_
                refine mr_istore (lv' := [(5, .int (0 : Int32)), (4, .int xk0_74), (0, mV ad (some 0)), (1, .int y1), (2, .int (x2_15 + 1)), (3, .int xk0_49), (6, .int x6_15)]) C hl64 dX3_looks_95 (by decide) rfl (fun ls hl74 => ?_)
                clear hl64
                refine mr_iinc (v := (x6_15 + 1)) (lv' := [(6, .int (x6_15 + 1)), (5, .int (0 : Int32)), (4, .int xk0_74), (0, mV ad (some 0)), (1, .int y1), (2, .int (x2_15 + 1)), (3, .int xk0_49)]) C hl74 dX3_looks_97 (k := 6) rfl rfl (by decide) rfl (fun ls hl75 => ?_)
                clear hl74
                refine lv_goto (tgt := 15) hx hb dX3_looks_100 (by decide) ?_
                obtain ⟨k76, hk76, h70⟩ := h70
                exact ih15 k76 hk76 (x2_15 + 1) xk0_49 xk0_74 (0 : Int32) (x6_15 + 1) σ69 _ _ _ h70 hM71 (ml_sub hl75 [3, 4, 5, 6, 2, 1, 0] rfl)
              · replace h70 := h70.2 hc73
                refine lv_iconst (v := 1) hx hb dX3_looks_90 (by decide) ?_
                refine lv_goto (tgt := 95) hx hb dX3_looks_91 (by decide) ?_
                refine mr_istore (lv' := [(5, .int (1 : Int32)), (4, .int xk0_74), (0, mV ad (some 0)), (1, .int y1), (2, .int (x2_15 + 1)), (3, .int xk0_49), (6, .int x6_15)]) C hl64 dX3_looks_95 (by decide) rfl (fun ls hl77 => ?_)
                clear hl64
                refine mr_iinc (v := (x6_15 + 1)) (lv' := [(6, .int (x6_15 + 1)), (5, .int (1 : Int32)), (4, .int xk0_74), (0, mV ad (some 0)), (1, .int y1), (2, .int (x2_15 + 1)), (3, .int xk0_49)]) C hl77 dX3_looks_97 (k := 6) rfl rfl (by decide) rfl (fun ls hl78 => ?_)
                clear hl77
                refine lv_goto (tgt := 15) hx hb dX3_looks_100 (by decide) ?_
                obtain ⟨k79, hk79, h70⟩ := h70
                exact ih15 k79 hk79 (x2_15 + 1) xk0_49 xk0_74 (1 : Int32) (x6_15 + 1) σ69 _ _ _ h70 hM71 (ml_sub hl78 [3, 4, 5, 6, 2, 1, 0] rfl)
          obtain ⟨J69, hJ69, h_49⟩ := h_49
          have hj69 : ∀  (σ_69 : mS) (H : Heap) (locs : List Loc) (ls : Array Slot), J69  σ_69 → mM G kdM ad s σ_69 H locs → ml_has ls 7 [(0, mV ad (some 0)), (1, .int y1), (2, .int (x2_15 + 1)), (3, .int xk0_49), (5, .int x5_15), (6, .int x6_15)] → W p l e (mRm 3 67) s m ([mV ad (some 0), .int y1] : List Value).toArray below meth c H locs 0 0 (MQ below (va_Qv Q (mPost G kdM ad) (mA ad)) ([mV ad (some 0), .int y1] : List Value).toArray s 0 0 (mA ad)) (F0 m 69 ls []) := by
            intro  σ_69 H locs ls h_69 hM_69 hl_69
            replace h_69 := hJ69  σ_69 h_69
            refine lv_iconst (v := 1) hx hb dX3_looks_69 (by decide) ?_
            refine lv_goto (tgt := 74) hx hb dX3_looks_70 (by decide) ?_
            exact hj74 (1 : Int32) σ_69 _ _ _ h_69 hM_69 (ml_sub hl_69 [0, 1, 2, 3, 4, 5] rfl)
          refine lv_if_ne (tgt := 69) hx hb dX3_looks_55 (by decide) (fun hc80 => ?_) (fun hc80 => ?_)
          · replace h_49 := h_49.1 hc80
            exact hj69  σ_49 _ _ _ h_49 hM_49 (ml_sub hl63 [2, 3, 0, 1, 5, 6] rfl)
          · replace h_49 := h_49.2 hc80
            refine mr_aload_n C dX3_looks_58 rfl (ml_at hl63 2 rfl) ?_
            refine fg_X3_52 (i := 0) C hM_49 (mO_fix hM_49 rfl (by decide) (by decide) (by decide)) dX3_looks_59 ?_
            refine lv_iload hx hb dX3_looks_62 (ml_at hl63 6 rfl) ?_
            obtain ⟨j81, ej82, ej82b, h_49⟩ := h_49
            refine mr_iald C hM_49 (mB_fix hM_49 rfl (by decide) (by decide) (by decide)) ej82 ej82b (by decide) dX3_looks_64 ?_
            refine lv_iconst (v := 3) hx hb dX3_looks_65 (by decide) ?_
            refine lv_icmp_ne (tgt := 73) hx hb dX3_looks_66 (by decide) (fun hc83 => ?_) (fun hc83 => ?_)
            · replace h_49 := h_49.1 hc83
              refine lv_iconst (v := 0) hx hb dX3_looks_73 (by decide) ?_
              exact hj74 (0 : Int32) σ_49 _ _ _ h_49 hM_49 (ml_sub hl63 [2, 3, 0, 1, 5, 6] rfl)
            · replace h_49 := h_49.2 hc83
              exact hj69  σ_49 _ _ _ h_49 hM_49 (ml_sub hl63 [2, 3, 0, 1, 5, 6] rfl)
        refine lv_if_ne (tgt := 48) hx hb dX3_looks_35 (by decide) (fun hc84 => ?_) (fun hc84 => ?_)
        · replace h56 := h56.1 hc84
          refine lv_iload_n hx hb dX3_looks_48 rfl (ml_at hl_15 3 rfl) ?_
          exact hj49 x3_15 σ55 _ _ _ h56 hM57 (ml_sub hl_15 [0, 1, 2, 4, 5, 6] rfl)
        · replace h56 := h56.2 hc84
          refine mr_aload_n C dX3_looks_38 rfl (ml_at hl_15 0 rfl) ?_
          refine fg_X3_61 (i := 0) C hM57 (mO_fix hM57 rfl (by decide) (by decide) (by decide)) dX3_looks_39 ?_
          refine lv_iload hx hb dX3_looks_42 (ml_at hl_15 6 rfl) ?_
          obtain ⟨j85, ej86, ej86b, h56⟩ := h56
          refine mr_iald C hM57 (mB_fix hM57 rfl (by decide) (by decide) (by decide)) ej86 ej86b (by decide) dX3_looks_44 ?_
          refine lv_goto (tgt := 49) hx hb dX3_looks_45 (by decide) ?_
          exact hj49 (mI σ55 18 j85) σ55 _ _ _ h56 hM57 (ml_sub hl_15 [0, 1, 2, 4, 5, 6] rfl)
  exact hL15 nn15 (0 : Int32) (0 : Int32) (0 : Int32) (1 : Int32) (y1 + (1 : Int32)) σ0 _ _ _ h hM (ml_sub hl5 [5, 6, 4, 3, 2, 1, 0] rfl)
def w_X3_makesTries  (σ0 : mS) (Q : mS → Prop) : Prop := (∃ I7 : Nat → Int32 → mS → Prop, (∀ (n7 : Nat) (x2_7 : Int32) (σ_7 : mS), I7 n7 x2_7 σ_7 → (((mI σ0 0 13) ≤ x2_7 → (∃ I50 : Nat → Int32 → mS → Prop, (∀ (n50 : Nat) (x2_50 : Int32) (σ_50 : mS), I50 n50 x2_50 σ_50 → (((mI σ0 0 13) ≤ x2_50 → (Q σ_50)) ∧ (¬ (mI σ0 0 13) ≤ x2_50 → (∃ j6, x2_50 = nI j6 ∧ (j6 < 200 ∧ (((mI σ_50 25 j6) = 0 → (∃ k10, k10 < n50 ∧ I50 k10 (x2_50 + 1) σ_50)) ∧ (¬ (mI σ_50 25 j6) = 0 → (∃ j11, x2_50 = nI j11 ∧ (j11 < 200 ∧ ((¬ (mI σ_50 15 j11) = (2 : Int32) → (∃ k15, k15 < n50 ∧ I50 k15 (x2_50 + 1) σ_50)) ∧ ((mI σ_50 15 j11) = (2 : Int32) → (∃ j16, x2_50 = nI j16 ∧ (j16 < 200 ∧ (∀ σ19, σ19 = sI σ_50 24 j16 (vp_nar .boolean (0 : Int32)) → ((¬ (mI σ19 0 13) = (200 : Int32) → (∃ j21, x2_50 = nI j21 ∧ (j21 < 200 ∧ (∃ j23, (((3 : Int32) * x2_50) + (mI σ19 22 j21)) = nI j23 ∧ (j23 < 600 ∧ (∃ j25, x2_50 = nI j25 ∧ (j25 < 200 ∧ w_X3_begins (mI σ19 20 j23) ((mI σ19 13 j25) - (1 : Int32)) x2_50 σ19 (fun σ27 => (∃ k31, k31 < n50 ∧ I50 k31 (x2_50 + 1) σ27))))))))) ∧ ((mI σ19 0 13) = (200 : Int32) → w_X3_ends x2_50 (4 : Int32) σ19 (fun x35 σ32 => (∃ k37, k37 < n50 ∧ I50 k37 (x2_50 + 1) σ32)))))))))))))))))) ∧ ∃ n, I50 n (0 : Int32) σ_7)) ∧ (¬ (mI σ0 0 13) ≤ x2_7 → (∃ j38, x2_7 = nI j38 ∧ (j38 < 200 ∧ ((¬ (mI σ_7 15 j38) = (2 : Int32) → (∃ j41, x2_7 = nI j41 ∧ (j41 < 200 ∧ (∀ σ44, σ44 = sI σ_7 25 j41 (vp_nar .boolean (0 : Int32)) → (∃ k46, k46 < n7 ∧ I7 k46 (x2_7 + 1) σ44))))) ∧ ((mI σ_7 15 j38) = (2 : Int32) → (∃ j47, x2_7 = nI j47 ∧ (j47 < 200 ∧ (((mI σ_7 24 j47) = 0 → (∃ j50, x2_7 = nI j50 ∧ (j50 < 200 ∧ (∀ σ53, σ53 = sI σ_7 25 j50 (vp_nar .boolean (0 : Int32)) → (∃ k55, k55 < n7 ∧ I7 k55 (x2_7 + 1) σ53))))) ∧ (¬ (mI σ_7 24 j47) = 0 → (∃ j56, x2_7 = nI j56 ∧ (j56 < 200 ∧ (∀ σ59, σ59 = sI σ_7 25 j56 (vp_nar .boolean (1 : Int32)) → (∃ k61, k61 < n7 ∧ I7 k61 (x2_7 + 1) σ59))))))))))))))) ∧ ∃ n, I7 n (0 : Int32) σ0)
set_option maxRecDepth 100000 in
set_option maxHeartbeats 4000000 in
theorem c_X3_makesTries (l : Launch) (G : mG) (ad : Nat → Nat)  (σ0 : mS) (Q : mS → Prop) (h : w_X3_makesTries  σ0 Q) : mKv l yX3_makesTries cX3_makesTries 3 3 71 G kdM ad σ0 [mV ad (some 0)] Q := by
  refine mr_start (lst := [(0, mV ad (some 0))]) (by decide) (m_cR m_c0) rfl (Nat.le_of_ble_eq_true rfl) (fun p e s m below meth c C hM hr hlk ls hl => ?_)
  have hx := C.1.1
  have hb := C.1.2.1
  unfold w_X3_makesTries at h
  refine mr_aload_n C dX3_makesTries_0 rfl (ml_at hl 0 rfl) ?_
  refine fg_X3_94 C hM (mO_fix hM rfl (by decide) (by decide) (by decide)) dX3_makesTries_1 ?_
  refine mr_istore_n (lv' := [(1, .int (mI σ0 0 13)), (0, mV ad (some 0))]) C hl dX3_makesTries_4 rfl (by decide) rfl (fun ls hl1 => ?_)
  clear hl
  refine lv_iconst (v := 0) hx hb dX3_makesTries_5 (by decide) ?_
  refine mr_istore_n (lv' := [(2, .int (0 : Int32)), (1, .int (mI σ0 0 13)), (0, mV ad (some 0))]) C hl1 dX3_makesTries_6 rfl (by decide) rfl (fun ls hl2 => ?_)
  clear hl1
  obtain ⟨I7, hI7, nn7, h⟩ := h
  have hL7 : ∀ (n7 : Nat) (x2_7 : Int32) (σ_7 : mS) (H : Heap) (locs : List Loc) (ls : Array Slot), I7 n7 x2_7 σ_7 → mM G kdM ad s σ_7 H locs → ml_has ls 3 [(0, mV ad (some 0)), (1, .int (mI σ0 0 13)), (2, .int x2_7)] → W p l e (mRm 3 71) s m ([mV ad (some 0)] : List Value).toArray below meth c H locs 0 0 (MQ below (va_Qv Q (mPost G kdM ad) (mA ad)) ([mV ad (some 0)] : List Value).toArray s 0 0 (mA ad)) (F0 m 7 ls []) := by
    refine m_loop (fun n7 ih7 => ?_)
    intro x2_7 σ_7 H locs ls h_7 hM_7 hl_7
    replace h_7 := hI7 n7 x2_7 σ_7 h_7
    refine lv_iload_n hx hb dX3_makesTries_7 rfl (ml_at hl_7 2 rfl) ?_
    refine lv_iload_n hx hb dX3_makesTries_8 rfl (ml_at hl_7 1 rfl) ?_
    refine lv_icmp_ge (tgt := 48) hx hb dX3_makesTries_9 (by decide) (fun hc3 => ?_) (fun hc3 => ?_)
    · replace h_7 := h_7.1 hc3
      refine lv_iconst (v := 0) hx hb dX3_makesTries_48 (by decide) ?_
      refine mr_istore_n (lv' := [(2, .int (0 : Int32)), (0, mV ad (some 0)), (1, .int (mI σ0 0 13))]) C hl_7 dX3_makesTries_49 rfl (by decide) rfl (fun ls hl4 => ?_)
      clear hl_7
      obtain ⟨I50, hI50, nn50, h_7⟩ := h_7
      have hL50 : ∀ (n50 : Nat) (x2_50 : Int32) (σ_50 : mS) (H : Heap) (locs : List Loc) (ls : Array Slot), I50 n50 x2_50 σ_50 → mM G kdM ad s σ_50 H locs → ml_has ls 3 [(0, mV ad (some 0)), (1, .int (mI σ0 0 13)), (2, .int x2_50)] → W p l e (mRm 3 71) s m ([mV ad (some 0)] : List Value).toArray below meth c H locs 0 0 (MQ below (va_Qv Q (mPost G kdM ad) (mA ad)) ([mV ad (some 0)] : List Value).toArray s 0 0 (mA ad)) (F0 m 50 ls []) := by
        refine m_loop (fun n50 ih50 => ?_)
        intro x2_50 σ_50 H locs ls h_50 hM_50 hl_50
        replace h_50 := hI50 n50 x2_50 σ_50 h_50
        refine lv_iload_n hx hb dX3_makesTries_50 rfl (ml_at hl_50 2 rfl) ?_
        refine lv_iload_n hx hb dX3_makesTries_51 rfl (ml_at hl_50 1 rfl) ?_
        refine lv_icmp_ge (tgt := 135) hx hb dX3_makesTries_52 (by decide) (fun hc5 => ?_) (fun hc5 => ?_)
        · replace h_50 := h_50.1 hc5
          exact mr_vret C hM_50 hr hlk h_50 dX3_makesTries_135
        · replace h_50 := h_50.2 hc5
          refine mr_aload_n C dX3_makesTries_55 rfl (ml_at hl_50 0 rfl) ?_
          refine fg_X3_83 (i := 0) C hM_50 (mO_fix hM_50 rfl (by decide) (by decide) (by decide)) dX3_makesTries_56 ?_
          refine lv_iload_n hx hb dX3_makesTries_59 rfl (ml_at hl_50 2 rfl) ?_
          obtain ⟨j6, ej7, ej7b, h_50⟩ := h_50
          refine mr_zald C hM_50 (mB_fix hM_50 rfl (by decide) (by decide) (by decide)) ej7 ej7b (by decide) dX3_makesTries_60 ?_
          refine lv_if_eq (tgt := 129) hx hb dX3_makesTries_61 (by decide) (fun hc8 => ?_) (fun hc8 => ?_)
          · replace h_50 := h_50.1 hc8
            refine mr_iinc (v := (x2_50 + 1)) (lv' := [(2, .int (x2_50 + 1)), (0, mV ad (some 0)), (1, .int (mI σ0 0 13))]) C hl_50 dX3_makesTries_129 (k := 2) rfl rfl (by decide) rfl (fun ls hl9 => ?_)
            clear hl_50
            refine lv_goto (tgt := 50) hx hb dX3_makesTries_132 (by decide) ?_
            obtain ⟨k10, hk10, h_50⟩ := h_50
            exact ih50 k10 hk10 (x2_50 + 1) σ_50 _ _ _ h_50 hM_50 (ml_sub hl9 [1, 2, 0] rfl)
          · replace h_50 := h_50.2 hc8
            refine mr_aload_n C dX3_makesTries_64 rfl (ml_at hl_50 0 rfl) ?_
            refine fg_X3_52 (i := 0) C hM_50 (mO_fix hM_50 rfl (by decide) (by decide) (by decide)) dX3_makesTries_65 ?_
            refine lv_iload_n hx hb dX3_makesTries_68 rfl (ml_at hl_50 2 rfl) ?_
            obtain ⟨j11, ej12, ej12b, h_50⟩ := h_50
            refine mr_iald C hM_50 (mB_fix hM_50 rfl (by decide) (by decide) (by decide)) ej12 ej12b (by decide) dX3_makesTries_69 ?_
            refine lv_iconst (v := 2) hx hb dX3_makesTries_70 (by decide) ?_
            refine lv_icmp_ne (tgt := 129) hx hb dX3_makesTries_71 (by decide) (fun hc13 => ?_) (fun hc13 => ?_)
            · replace h_50 := h_50.1 hc13
              refine mr_iinc (v := (x2_50 + 1)) (lv' := [(2, .int (x2_50 + 1)), (0, mV ad (some 0)), (1, .int (mI σ0 0 13))]) C hl_50 dX3_makesTries_129 (k := 2) rfl rfl (by decide) rfl (fun ls hl14 => ?_)
              clear hl_50
              refine lv_goto (tgt := 50) hx hb dX3_makesTries_132 (by decide) ?_
              obtain ⟨k15, hk15, h_50⟩ := h_50
              exact ih50 k15 hk15 (x2_50 + 1) σ_50 _ _ _ h_50 hM_50 (ml_sub hl14 [1, 2, 0] rfl)
            · replace h_50 := h_50.2 hc13
              refine mr_aload_n C dX3_makesTries_74 rfl (ml_at hl_50 0 rfl) ?_
              refine fg_X3_79 (i := 0) C hM_50 (mO_fix hM_50 rfl (by decide) (by decide) (by decide)) dX3_makesTries_75 ?_
              refine lv_iload_n hx hb dX3_makesTries_78 rfl (ml_at hl_50 2 rfl) ?_
              refine lv_iconst (v := 0) hx hb dX3_makesTries_79 (by decide) ?_
              obtain ⟨j16, ej17, ej17b, h_50⟩ := h_50
              refine mr_zast C hM_50 (mB_fix hM_50 rfl (by decide) (by decide) (by decide)) ej17 ej17b (by decide) dX3_makesTries_80 (fun H locs hM18 => ?_)
              clear hM_50
              obtain ⟨σ19, eσ19⟩ : ∃ y, y = sI σ_50 24 j16 (vp_nar .boolean (0 : Int32)) := ⟨_, rfl⟩
              rw [← eσ19] at hM18
              replace h_50 := h_50 σ19 eσ19
              refine mr_aload_n C dX3_makesTries_81 rfl (ml_at hl_50 0 rfl) ?_
              refine fg_X3_94 C hM18 (mO_fix hM18 rfl (by decide) (by decide) (by decide)) dX3_makesTries_82 ?_
              refine lv_sipush (v := 200) hx hb dX3_makesTries_85 (by decide) ?_
              refine lv_icmp_ne (tgt := 101) hx hb dX3_makesTries_88 (by decide) (fun hc20 => ?_) (fun hc20 => ?_)
              · replace h_50 := h_50.1 hc20
                refine mr_aload_n C dX3_makesTries_101 rfl (ml_at hl_50 0 rfl) ?_
                refine mr_aload_n C dX3_makesTries_102 rfl (ml_at hl_50 0 rfl) ?_
                refine fg_X3_67 (i := 0) C hM18 (mO_fix hM18 rfl (by decide) (by decide) (by decide)) dX3_makesTries_103 ?_
                refine lv_iconst (v := 3) hx hb dX3_makesTries_106 (by decide) ?_
                refine lv_iload_n hx hb dX3_makesTries_107 rfl (ml_at hl_50 2 rfl) ?_
                refine lv_imul hx hb dX3_makesTries_108 ?_
                refine mr_aload_n C dX3_makesTries_109 rfl (ml_at hl_50 0 rfl) ?_
                refine fg_X3_73 (i := 0) C hM18 (mO_fix hM18 rfl (by decide) (by decide) (by decide)) dX3_makesTries_110 ?_
                refine lv_iload_n hx hb dX3_makesTries_113 rfl (ml_at hl_50 2 rfl) ?_
                obtain ⟨j21, ej22, ej22b, h_50⟩ := h_50
                refine mr_iald C hM18 (mB_fix hM18 rfl (by decide) (by decide) (by decide)) ej22 ej22b (by decide) dX3_makesTries_114 ?_
                refine lv_iadd hx hb dX3_makesTries_115 ?_
                obtain ⟨j23, ej24, ej24b, h_50⟩ := h_50
                refine mr_iald C hM18 (mB_fix hM18 rfl (by decide) (by decide) (by decide)) ej24 ej24b (by decide) dX3_makesTries_116 ?_
                refine mr_aload_n C dX3_makesTries_117 rfl (ml_at hl_50 0 rfl) ?_
                refine fg_X3_46 (i := 0) C hM18 (mO_fix hM18 rfl (by decide) (by decide) (by decide)) dX3_makesTries_118 ?_
                refine lv_iload_n hx hb dX3_makesTries_121 rfl (ml_at hl_50 2 rfl) ?_
                obtain ⟨j25, ej26, ej26b, h_50⟩ := h_50
                refine mr_iald C hM18 (mB_fix hM18 rfl (by decide) (by decide) (by decide)) ej26 ej26b (by decide) dX3_makesTries_122 ?_
                refine lv_iconst (v := 1) hx hb dX3_makesTries_123 (by decide) ?_
                refine lv_isub hx hb dX3_makesTries_124 ?_
                refine lv_iload_n hx hb dX3_makesTries_125 rfl (ml_at hl_50 2 rfl) ?_
                refine mr_cv hM18 (mr_runV (As := [.int (mI σ19 20 j23), .int ((mI σ19 13 j25) - (1 : Int32)), .int x2_50]) C hM18 hl_50.1.1 (c_X3_begins l G ad (mI σ19 20 j23) ((mI σ19 13 j25) - (1 : Int32)) x2_50 σ19 _ h_50) cw_X3_121 (mO_fix hM18 rfl (by decide) (by decide) (by decide)) rfl rfl (n := 3) ⟨rfl, by decide, by decide, by decide +kernel⟩ rfl rfl ⟨Nat.le_of_ble_eq_true rfl, Nat.le_of_ble_eq_true rfl⟩ m_c0 (Nat.le_of_ble_eq_true rfl) dX3_makesTries_126 ⟨Nat.zero_le _, Nat.zero_le _⟩) (fun σ27 H locs h28 hM29 => ?_)
                clear h_50 hM18
                refine mr_iinc (v := (x2_50 + 1)) (lv' := [(2, .int (x2_50 + 1)), (0, mV ad (some 0)), (1, .int (mI σ0 0 13))]) C hl_50 dX3_makesTries_129 (k := 2) rfl rfl (by decide) rfl (fun ls hl30 => ?_)
                clear hl_50
                refine lv_goto (tgt := 50) hx hb dX3_makesTries_132 (by decide) ?_
                obtain ⟨k31, hk31, h28⟩ := h28
                exact ih50 k31 hk31 (x2_50 + 1) σ27 _ _ _ h28 hM29 (ml_sub hl30 [1, 2, 0] rfl)
              · replace h_50 := h_50.2 hc20
                refine mr_aload_n C dX3_makesTries_91 rfl (ml_at hl_50 0 rfl) ?_
                refine lv_iload_n hx hb dX3_makesTries_92 rfl (ml_at hl_50 2 rfl) ?_
                refine lv_iconst (v := 4) hx hb dX3_makesTries_93 (by decide) ?_
                refine mr_ci hM18 (mr_runV (As := [.int x2_50, .int (4 : Int32)]) C hM18 hl_50.1.1 (c_X3_ends l G ad x2_50 (4 : Int32) σ19 _ h_50) cw_X3_114 (mO_fix hM18 rfl (by decide) (by decide) (by decide)) rfl rfl (n := 2) ⟨rfl, by decide, by decide, by decide +kernel⟩ rfl rfl ⟨Nat.le_of_ble_eq_true rfl, Nat.le_of_ble_eq_true rfl⟩ m_c0 (Nat.le_of_ble_eq_true rfl) dX3_makesTries_94 ⟨Nat.zero_le _, Nat.zero_le _⟩) (fun x35 σ32 H locs h33 hM34 => ?_)
                clear h_50 hM18
                refine lv_pop hx hb dX3_makesTries_97 rfl ?_
                refine lv_goto (tgt := 129) hx hb dX3_makesTries_98 (by decide) ?_
                refine mr_iinc (v := (x2_50 + 1)) (lv' := [(2, .int (x2_50 + 1)), (0, mV ad (some 0)), (1, .int (mI σ0 0 13))]) C hl_50 dX3_makesTries_129 (k := 2) rfl rfl (by decide) rfl (fun ls hl36 => ?_)
                clear hl_50
                refine lv_goto (tgt := 50) hx hb dX3_makesTries_132 (by decide) ?_
                obtain ⟨k37, hk37, h33⟩ := h33
                exact ih50 k37 hk37 (x2_50 + 1) σ32 _ _ _ h33 hM34 (ml_sub hl36 [1, 2, 0] rfl)
      exact hL50 nn50 (0 : Int32) σ_7 _ _ _ h_7 hM_7 (ml_sub hl4 [1, 2, 0] rfl)
    · replace h_7 := h_7.2 hc3
      refine mr_aload_n C dX3_makesTries_12 rfl (ml_at hl_7 0 rfl) ?_
      refine fg_X3_83 (i := 0) C hM_7 (mO_fix hM_7 rfl (by decide) (by decide) (by decide)) dX3_makesTries_13 ?_
      refine lv_iload_n hx hb dX3_makesTries_16 rfl (ml_at hl_7 2 rfl) ?_
      refine mr_aload_n C dX3_makesTries_17 rfl (ml_at hl_7 0 rfl) ?_
      refine fg_X3_52 (i := 0) C hM_7 (mO_fix hM_7 rfl (by decide) (by decide) (by decide)) dX3_makesTries_18 ?_
      refine lv_iload_n hx hb dX3_makesTries_21 rfl (ml_at hl_7 2 rfl) ?_
      obtain ⟨j38, ej39, ej39b, h_7⟩ := h_7
      refine mr_iald C hM_7 (mB_fix hM_7 rfl (by decide) (by decide) (by decide)) ej39 ej39b (by decide) dX3_makesTries_22 ?_
      refine lv_iconst (v := 2) hx hb dX3_makesTries_23 (by decide) ?_
      refine lv_icmp_ne (tgt := 40) hx hb dX3_makesTries_24 (by decide) (fun hc40 => ?_) (fun hc40 => ?_)
      · replace h_7 := h_7.1 hc40
        refine lv_iconst (v := 0) hx hb dX3_makesTries_40 (by decide) ?_
        obtain ⟨j41, ej42, ej42b, h_7⟩ := h_7
        refine mr_zast C hM_7 (mB_fix hM_7 rfl (by decide) (by decide) (by decide)) ej42 ej42b (by decide) dX3_makesTries_41 (fun H locs hM43 => ?_)
        clear hM_7
        obtain ⟨σ44, eσ44⟩ : ∃ y, y = sI σ_7 25 j41 (vp_nar .boolean (0 : Int32)) := ⟨_, rfl⟩
        rw [← eσ44] at hM43
        replace h_7 := h_7 σ44 eσ44
        refine mr_iinc (v := (x2_7 + 1)) (lv' := [(2, .int (x2_7 + 1)), (0, mV ad (some 0)), (1, .int (mI σ0 0 13))]) C hl_7 dX3_makesTries_42 (k := 2) rfl rfl (by decide) rfl (fun ls hl45 => ?_)
        clear hl_7
        refine lv_goto (tgt := 7) hx hb dX3_makesTries_45 (by decide) ?_
        obtain ⟨k46, hk46, h_7⟩ := h_7
        exact ih7 k46 hk46 (x2_7 + 1) σ44 _ _ _ h_7 hM43 (ml_sub hl45 [1, 2, 0] rfl)
      · replace h_7 := h_7.2 hc40
        refine mr_aload_n C dX3_makesTries_27 rfl (ml_at hl_7 0 rfl) ?_
        refine fg_X3_79 (i := 0) C hM_7 (mO_fix hM_7 rfl (by decide) (by decide) (by decide)) dX3_makesTries_28 ?_
        refine lv_iload_n hx hb dX3_makesTries_31 rfl (ml_at hl_7 2 rfl) ?_
        obtain ⟨j47, ej48, ej48b, h_7⟩ := h_7
        refine mr_zald C hM_7 (mB_fix hM_7 rfl (by decide) (by decide) (by decide)) ej48 ej48b (by decide) dX3_makesTries_32 ?_
        refine lv_if_eq (tgt := 40) hx hb dX3_makesTries_33 (by decide) (fun hc49 => ?_) (fun hc49 => ?_)
        · replace h_7 := h_7.1 hc49
          refine lv_iconst (v := 0) hx hb dX3_makesTries_40 (by decide) ?_
          obtain ⟨j50, ej51, ej51b, h_7⟩ := h_7
          refine mr_zast C hM_7 (mB_fix hM_7 rfl (by decide) (by decide) (by decide)) ej51 ej51b (by decide) dX3_makesTries_41 (fun H locs hM52 => ?_)
          clear hM_7
          obtain ⟨σ53, eσ53⟩ : ∃ y, y = sI σ_7 25 j50 (vp_nar .boolean (0 : Int32)) := ⟨_, rfl⟩
          rw [← eσ53] at hM52
          replace h_7 := h_7 σ53 eσ53
          refine mr_iinc (v := (x2_7 + 1)) (lv' := [(2, .int (x2_7 + 1)), (0, mV ad (some 0)), (1, .int (mI σ0 0 13))]) C hl_7 dX3_makesTries_42 (k := 2) rfl rfl (by decide) rfl (fun ls hl54 => ?_)
          clear hl_7
          refine lv_goto (tgt := 7) hx hb dX3_makesTries_45 (by decide) ?_
          obtain ⟨k55, hk55, h_7⟩ := h_7
          exact ih7 k55 hk55 (x2_7 + 1) σ53 _ _ _ h_7 hM52 (ml_sub hl54 [1, 2, 0] rfl)
        · replace h_7 := h_7.2 hc49
          refine lv_iconst (v := 1) hx hb dX3_makesTries_36 (by decide) ?_
          refine lv_goto (tgt := 41) hx hb dX3_makesTries_37 (by decide) ?_
          obtain ⟨j56, ej57, ej57b, h_7⟩ := h_7
          refine mr_zast C hM_7 (mB_fix hM_7 rfl (by decide) (by decide) (by decide)) ej57 ej57b (by decide) dX3_makesTries_41 (fun H locs hM58 => ?_)
          clear hM_7
          obtain ⟨σ59, eσ59⟩ : ∃ y, y = sI σ_7 25 j56 (vp_nar .boolean (1 : Int32)) := ⟨_, rfl⟩
          rw [← eσ59] at hM58
          replace h_7 := h_7 σ59 eσ59
          refine mr_iinc (v := (x2_7 + 1)) (lv' := [(2, .int (x2_7 + 1)), (0, mV ad (some 0)), (1, .int (mI σ0 0 13))]) C hl_7 dX3_makesTries_42 (k := 2) rfl rfl (by decide) rfl (fun ls hl60 => ?_)
          clear hl_7
          refine lv_goto (tgt := 7) hx hb dX3_makesTries_45 (by decide) ?_
          obtain ⟨k61, hk61, h_7⟩ := h_7
          exact ih7 k61 hk61 (x2_7 + 1) σ59 _ _ _ h_7 hM58 (ml_sub hl60 [1, 2, 0] rfl)
  exact hL7 nn7 (0 : Int32) σ0 _ _ _ h hM (ml_sub hl2 [2, 1, 0] rfl)
def w_X3_firstQueued (y1 : Int32) (σ0 : mS) (Q : Int32 → mS → Prop) : Prop := (∃ I9 : Nat → Int32 → Int32 → mS → Prop, (∀ (n9 : Nat) (x2_9 : Int32) (x3_9 : Int32) (σ_9 : mS), I9 n9 x2_9 x3_9 σ_9 → ((x3_9 < 0 → (Q x2_9 σ_9)) ∧ (¬ x3_9 < 0 → (∃ j4, x3_9 = nI j4 ∧ (j4 < 200 ∧ ((¬ (mI σ_9 12 j4) = y1 → (∃ k9, k9 < n9 ∧ I9 k9 x2_9 (x3_9 + (-1)) σ_9)) ∧ ((mI σ_9 12 j4) = y1 → (∃ j10, x3_9 = nI j10 ∧ (j10 < 200 ∧ ((¬ (mI σ_9 15 j10) = 0 → (∃ k15, k15 < n9 ∧ I9 k15 x2_9 (x3_9 + (-1)) σ_9)) ∧ ((mI σ_9 15 j10) = 0 → (∃ k18, k18 < n9 ∧ I9 k18 x3_9 (x3_9 + (-1)) σ_9)))))))))))) ∧ ∃ n, I9 n (-1 : Int32) ((mI σ0 0 13) - (1 : Int32)) σ0)
set_option maxRecDepth 100000 in
set_option maxHeartbeats 4000000 in
theorem c_X3_firstQueued (l : Launch) (G : mG) (ad : Nat → Nat) (y1 : Int32) (σ0 : mS) (Q : Int32 → mS → Prop) (h : w_X3_firstQueued y1 σ0 Q) : mKi l yX3_firstQueued cX3_firstQueued 4 0 0 G kdM ad σ0 [mV ad (some 0), .int y1] Q := by
  refine mr_start (lst := [(0, mV ad (some 0)), (1, .int y1)]) (by decide) (m_cR (m_cI m_c0)) rfl (Nat.le_of_ble_eq_true rfl) (fun p e s m below meth c C hM hr hlk ls hl => ?_)
  have hx := C.1.1
  have hb := C.1.2.1
  unfold w_X3_firstQueued at h
  refine lv_iconst (v := -1) hx hb dX3_firstQueued_0 (by decide) ?_
  refine mr_istore_n (lv' := [(2, .int (-1 : Int32)), (0, mV ad (some 0)), (1, .int y1)]) C hl dX3_firstQueued_1 rfl (by decide) rfl (fun ls hl1 => ?_)
  clear hl
  refine mr_aload_n C dX3_firstQueued_2 rfl (ml_at hl1 1 rfl) ?_
  refine fg_X3_94 C hM (mO_fix hM rfl (by decide) (by decide) (by decide)) dX3_firstQueued_3 ?_
  refine lv_iconst (v := 1) hx hb dX3_firstQueued_6 (by decide) ?_
  refine lv_isub hx hb dX3_firstQueued_7 ?_
  refine mr_istore_n (lv' := [(3, .int ((mI σ0 0 13) - (1 : Int32))), (2, .int (-1 : Int32)), (0, mV ad (some 0)), (1, .int y1)]) C hl1 dX3_firstQueued_8 rfl (by decide) rfl (fun ls hl2 => ?_)
  clear hl1
  obtain ⟨I9, hI9, nn9, h⟩ := h
  have hL9 : ∀ (n9 : Nat) (x2_9 : Int32) (x3_9 : Int32) (σ_9 : mS) (H : Heap) (locs : List Loc) (ls : Array Slot), I9 n9 x2_9 x3_9 σ_9 → mM G kdM ad s σ_9 H locs → ml_has ls 4 [(0, mV ad (some 0)), (1, .int y1), (2, .int x2_9), (3, .int x3_9)] → W p l e (mRm 0 0) s m ([mV ad (some 0), .int y1] : List Value).toArray below meth c H locs 0 0 (MQ below (va_Qi Q (mPost G kdM ad) (mA ad)) ([mV ad (some 0), .int y1] : List Value).toArray s 0 0 (mA ad)) (F0 m 9 ls []) := by
    refine m_loop (fun n9 ih9 => ?_)
    intro x2_9 x3_9 σ_9 H locs ls h_9 hM_9 hl_9
    replace h_9 := hI9 n9 x2_9 x3_9 σ_9 h_9
    refine lv_iload_n hx hb dX3_firstQueued_9 rfl (ml_at hl_9 3 rfl) ?_
    refine lv_if_lt (tgt := 44) hx hb dX3_firstQueued_10 (by decide) (fun hc3 => ?_) (fun hc3 => ?_)
    · replace h_9 := h_9.1 hc3
      refine lv_iload_n hx hb dX3_firstQueued_44 rfl (ml_at hl_9 2 rfl) ?_
      exact mr_iret C hM_9 hr hlk h_9 dX3_firstQueued_45
    · replace h_9 := h_9.2 hc3
      refine mr_aload_n C dX3_firstQueued_13 rfl (ml_at hl_9 0 rfl) ?_
      refine fg_X3_43 (i := 0) C hM_9 (mO_fix hM_9 rfl (by decide) (by decide) (by decide)) dX3_firstQueued_14 ?_
      refine lv_iload_n hx hb dX3_firstQueued_17 rfl (ml_at hl_9 3 rfl) ?_
      obtain ⟨j4, ej5, ej5b, h_9⟩ := h_9
      refine mr_iald C hM_9 (mB_fix hM_9 rfl (by decide) (by decide) (by decide)) ej5 ej5b (by decide) dX3_firstQueued_18 ?_
      refine lv_iload_n hx hb dX3_firstQueued_19 rfl (ml_at hl_9 1 rfl) ?_
      refine lv_icmp_ne (tgt := 36) hx hb dX3_firstQueued_20 (by decide) (fun hc6 => ?_) (fun hc6 => ?_)
      · replace h_9 := h_9.1 hc6
        refine lv_iload_n hx hb dX3_firstQueued_36 rfl (ml_at hl_9 2 rfl) ?_
        refine mr_istore_n (lv' := [(2, .int x2_9), (0, mV ad (some 0)), (1, .int y1), (3, .int x3_9)]) C hl_9 dX3_firstQueued_37 rfl (by decide) rfl (fun ls hl7 => ?_)
        clear hl_9
        refine mr_iinc (v := (x3_9 + (-1))) (lv' := [(3, .int (x3_9 + (-1))), (2, .int x2_9), (0, mV ad (some 0)), (1, .int y1)]) C hl7 dX3_firstQueued_38 (k := 3) rfl rfl (by decide) rfl (fun ls hl8 => ?_)
        clear hl7
        refine lv_goto (tgt := 9) hx hb dX3_firstQueued_41 (by decide) ?_
        obtain ⟨k9, hk9, h_9⟩ := h_9
        exact ih9 k9 hk9 x2_9 (x3_9 + (-1)) σ_9 _ _ _ h_9 hM_9 (ml_sub hl8 [2, 3, 1, 0] rfl)
      · replace h_9 := h_9.2 hc6
        refine mr_aload_n C dX3_firstQueued_23 rfl (ml_at hl_9 0 rfl) ?_
        refine fg_X3_52 (i := 0) C hM_9 (mO_fix hM_9 rfl (by decide) (by decide) (by decide)) dX3_firstQueued_24 ?_
        refine lv_iload_n hx hb dX3_firstQueued_27 rfl (ml_at hl_9 3 rfl) ?_
        obtain ⟨j10, ej11, ej11b, h_9⟩ := h_9
        refine mr_iald C hM_9 (mB_fix hM_9 rfl (by decide) (by decide) (by decide)) ej11 ej11b (by decide) dX3_firstQueued_28 ?_
        refine lv_if_ne (tgt := 36) hx hb dX3_firstQueued_29 (by decide) (fun hc12 => ?_) (fun hc12 => ?_)
        · replace h_9 := h_9.1 hc12
          refine lv_iload_n hx hb dX3_firstQueued_36 rfl (ml_at hl_9 2 rfl) ?_
          refine mr_istore_n (lv' := [(2, .int x2_9), (0, mV ad (some 0)), (1, .int y1), (3, .int x3_9)]) C hl_9 dX3_firstQueued_37 rfl (by decide) rfl (fun ls hl13 => ?_)
          clear hl_9
          refine mr_iinc (v := (x3_9 + (-1))) (lv' := [(3, .int (x3_9 + (-1))), (2, .int x2_9), (0, mV ad (some 0)), (1, .int y1)]) C hl13 dX3_firstQueued_38 (k := 3) rfl rfl (by decide) rfl (fun ls hl14 => ?_)
          clear hl13
          refine lv_goto (tgt := 9) hx hb dX3_firstQueued_41 (by decide) ?_
          obtain ⟨k15, hk15, h_9⟩ := h_9
          exact ih9 k15 hk15 x2_9 (x3_9 + (-1)) σ_9 _ _ _ h_9 hM_9 (ml_sub hl14 [2, 3, 1, 0] rfl)
        · replace h_9 := h_9.2 hc12
          refine lv_iload_n hx hb dX3_firstQueued_32 rfl (ml_at hl_9 3 rfl) ?_
          refine lv_goto (tgt := 37) hx hb dX3_firstQueued_33 (by decide) ?_
          refine mr_istore_n (lv' := [(2, .int x3_9), (0, mV ad (some 0)), (1, .int y1), (3, .int x3_9)]) C hl_9 dX3_firstQueued_37 rfl (by decide) rfl (fun ls hl16 => ?_)
          clear hl_9
          refine mr_iinc (v := (x3_9 + (-1))) (lv' := [(3, .int (x3_9 + (-1))), (2, .int x3_9), (0, mV ad (some 0)), (1, .int y1)]) C hl16 dX3_firstQueued_38 (k := 3) rfl rfl (by decide) rfl (fun ls hl17 => ?_)
          clear hl16
          refine lv_goto (tgt := 9) hx hb dX3_firstQueued_41 (by decide) ?_
          obtain ⟨k18, hk18, h_9⟩ := h_9
          exact ih9 k18 hk18 x3_9 (x3_9 + (-1)) σ_9 _ _ _ h_9 hM_9 (ml_sub hl17 [2, 3, 1, 0] rfl)
  exact hL9 nn9 (-1 : Int32) ((mI σ0 0 13) - (1 : Int32)) σ0 _ _ _ h hM (ml_sub hl2 [2, 3, 1, 0] rfl)
def w_X3_takesQueued (y1 : Int32) (σ0 : mS) (Q : mS → Prop) : Prop := w_X3_firstQueued y1 σ0 (fun x4 σ1 => (∃ I6 : Nat → Int32 → mS → Prop, (∀ (n6 : Nat) (x2_6 : Int32) (σ_6 : mS), I6 n6 x2_6 σ_6 → ((x2_6 = (-1 : Int32) → (Q σ_6)) ∧ (¬ x2_6 = (-1 : Int32) → w_X3_manyOf y1 (1 : Int32) σ_6 (fun x10 σ7 => (∃ j11, y1 = nI j11 ∧ (j11 < 6 ∧ (((mI σ7 6 j11) ≤ x10 → (Q σ7)) ∧ (¬ (mI σ7 6 j11) ≤ x10 → (∃ j14, x2_6 = nI j14 ∧ (j14 < 200 ∧ (∃ j16, y1 = nI j16 ∧ (j16 < 6 ∧ (((mI σ7 1 j16) ≤ ((mI σ7 13 j14) - (mI σ7 0 1)) → w_X3_works x2_6 σ7 (fun σ19 => w_X3_firstQueued y1 σ19 (fun x25 σ22 => (∃ k27, k27 < n6 ∧ I6 k27 x25 σ22)))) ∧ (¬ (mI σ7 1 j16) ≤ ((mI σ7 13 j14) - (mI σ7 0 1)) → w_X3_ends x2_6 (6 : Int32) σ7 (fun x31 σ28 => w_X3_firstQueued y1 σ28 (fun x35 σ32 => (∃ k37, k37 < n6 ∧ I6 k37 x35 σ32))))))))))))))))) ∧ ∃ n, I6 n x4 σ1))
set_option maxRecDepth 100000 in
set_option maxHeartbeats 4000000 in
theorem c_X3_takesQueued (l : Launch) (G : mG) (ad : Nat → Nat) (y1 : Int32) (σ0 : mS) (Q : mS → Prop) (h : w_X3_takesQueued y1 σ0 Q) : mKv l yX3_takesQueued cX3_takesQueued 3 2 45 G kdM ad σ0 [mV ad (some 0), .int y1] Q := by
  refine mr_start (lst := [(0, mV ad (some 0)), (1, .int y1)]) (by decide) (m_cR (m_cI m_c0)) rfl (Nat.le_of_ble_eq_true rfl) (fun p e s m below meth c C hM hr hlk ls hl => ?_)
  have hx := C.1.1
  have hb := C.1.2.1
  unfold w_X3_takesQueued at h
  refine mr_aload_n C dX3_takesQueued_0 rfl (ml_at hl 0 rfl) ?_
  refine lv_iload_n hx hb dX3_takesQueued_1 rfl (ml_at hl 1 rfl) ?_
  refine mr_ci hM (mr_runV (As := [.int y1]) C hM hl.1.1 (c_X3_firstQueued l G ad y1 σ0 _ h) cw_X3_141 (mO_fix hM rfl (by decide) (by decide) (by decide)) rfl rfl (n := 1) ⟨rfl, by decide, by decide, by decide +kernel⟩ rfl rfl ⟨Nat.le_of_ble_eq_true rfl, Nat.le_of_ble_eq_true rfl⟩ m_c0 (Nat.le_of_ble_eq_true rfl) dX3_takesQueued_2 ⟨Nat.zero_le _, Nat.zero_le _⟩) (fun x4 σ1 H locs h2 hM3 => ?_)
  clear h hM
  refine mr_istore_n (lv' := [(2, .int x4), (0, mV ad (some 0)), (1, .int y1)]) C hl dX3_takesQueued_5 rfl (by decide) rfl (fun ls hl5 => ?_)
  clear hl
  obtain ⟨I6, hI6, nn6, h2⟩ := h2
  have hL6 : ∀ (n6 : Nat) (x2_6 : Int32) (σ_6 : mS) (H : Heap) (locs : List Loc) (ls : Array Slot), I6 n6 x2_6 σ_6 → mM G kdM ad s σ_6 H locs → ml_has ls 3 [(0, mV ad (some 0)), (1, .int y1), (2, .int x2_6)] → W p l e (mRm 2 45) s m ([mV ad (some 0), .int y1] : List Value).toArray below meth c H locs 0 0 (MQ below (va_Qv Q (mPost G kdM ad) (mA ad)) ([mV ad (some 0), .int y1] : List Value).toArray s 0 0 (mA ad)) (F0 m 6 ls []) := by
    refine m_loop (fun n6 ih6 => ?_)
    intro x2_6 σ_6 H locs ls h_6 hM_6 hl_6
    replace h_6 := hI6 n6 x2_6 σ_6 h_6
    refine lv_iload_n hx hb dX3_takesQueued_6 rfl (ml_at hl_6 2 rfl) ?_
    refine lv_iconst (v := -1) hx hb dX3_takesQueued_7 (by decide) ?_
    refine lv_icmp_eq (tgt := 71) hx hb dX3_takesQueued_8 (by decide) (fun hc6 => ?_) (fun hc6 => ?_)
    · replace h_6 := h_6.1 hc6
      exact mr_vret C hM_6 hr hlk h_6 dX3_takesQueued_71
    · replace h_6 := h_6.2 hc6
      refine mr_aload_n C dX3_takesQueued_11 rfl (ml_at hl_6 0 rfl) ?_
      refine lv_iload_n hx hb dX3_takesQueued_12 rfl (ml_at hl_6 1 rfl) ?_
      refine lv_iconst (v := 1) hx hb dX3_takesQueued_13 (by decide) ?_
      refine mr_ci hM_6 (mr_runV (As := [.int y1, .int (1 : Int32)]) C hM_6 hl_6.1.1 (c_X3_manyOf l G ad y1 (1 : Int32) σ_6 _ h_6) cw_X3_107 (mO_fix hM_6 rfl (by decide) (by decide) (by decide)) rfl rfl (n := 2) ⟨rfl, by decide, by decide, by decide +kernel⟩ rfl rfl ⟨Nat.le_of_ble_eq_true rfl, Nat.le_of_ble_eq_true rfl⟩ m_c0 (Nat.le_of_ble_eq_true rfl) dX3_takesQueued_14 ⟨Nat.zero_le _, Nat.zero_le _⟩) (fun x10 σ7 H locs h8 hM9 => ?_)
      clear h_6 hM_6
      refine mr_aload_n C dX3_takesQueued_17 rfl (ml_at hl_6 0 rfl) ?_
      refine fg_X3_25 (i := 0) C hM9 (mO_fix hM9 rfl (by decide) (by decide) (by decide)) dX3_takesQueued_18 ?_
      refine lv_iload_n hx hb dX3_takesQueued_21 rfl (ml_at hl_6 1 rfl) ?_
      obtain ⟨j11, ej12, ej12b, h8⟩ := h8
      refine mr_iald C hM9 (mB_fix hM9 rfl (by decide) (by decide) (by decide)) ej12 ej12b (by decide) dX3_takesQueued_22 ?_
      refine lv_icmp_ge (tgt := 71) hx hb dX3_takesQueued_23 (by decide) (fun hc13 => ?_) (fun hc13 => ?_)
      · replace h8 := h8.1 hc13
        exact mr_vret C hM9 hr hlk h8 dX3_takesQueued_71
      · replace h8 := h8.2 hc13
        refine mr_aload_n C dX3_takesQueued_26 rfl (ml_at hl_6 0 rfl) ?_
        refine fg_X3_46 (i := 0) C hM9 (mO_fix hM9 rfl (by decide) (by decide) (by decide)) dX3_takesQueued_27 ?_
        refine lv_iload_n hx hb dX3_takesQueued_30 rfl (ml_at hl_6 2 rfl) ?_
        obtain ⟨j14, ej15, ej15b, h8⟩ := h8
        refine mr_iald C hM9 (mB_fix hM9 rfl (by decide) (by decide) (by decide)) ej15 ej15b (by decide) dX3_takesQueued_31 ?_
        refine mr_aload_n C dX3_takesQueued_32 rfl (ml_at hl_6 0 rfl) ?_
        refine fg_X3_101 C hM9 (mO_fix hM9 rfl (by decide) (by decide) (by decide)) dX3_takesQueued_33 ?_
        refine lv_isub hx hb dX3_takesQueued_36 ?_
        refine mr_aload_n C dX3_takesQueued_37 rfl (ml_at hl_6 0 rfl) ?_
        refine fg_X3_7 (i := 0) C hM9 (mO_fix hM9 rfl (by decide) (by decide) (by decide)) dX3_takesQueued_38 ?_
        refine lv_iload_n hx hb dX3_takesQueued_41 rfl (ml_at hl_6 1 rfl) ?_
        obtain ⟨j16, ej17, ej17b, h8⟩ := h8
        refine mr_iald C hM9 (mB_fix hM9 rfl (by decide) (by decide) (by decide)) ej17 ej17b (by decide) dX3_takesQueued_42 ?_
        refine lv_icmp_ge (tgt := 57) hx hb dX3_takesQueued_43 (by decide) (fun hc18 => ?_) (fun hc18 => ?_)
        · replace h8 := h8.1 hc18
          refine mr_aload_n C dX3_takesQueued_57 rfl (ml_at hl_6 0 rfl) ?_
          refine lv_iload_n hx hb dX3_takesQueued_58 rfl (ml_at hl_6 2 rfl) ?_
          refine mr_cv hM9 (mr_runV (As := [.int x2_6]) C hM9 hl_6.1.1 (c_X3_works l G ad x2_6 σ7 _ h8) cw_X3_117 (mO_fix hM9 rfl (by decide) (by decide) (by decide)) rfl rfl (n := 1) ⟨rfl, by decide, by decide, by decide +kernel⟩ rfl rfl ⟨Nat.le_of_ble_eq_true rfl, Nat.le_of_ble_eq_true rfl⟩ m_c0 (Nat.le_of_ble_eq_true rfl) dX3_takesQueued_59 ⟨Nat.zero_le _, Nat.zero_le _⟩) (fun σ19 H locs h20 hM21 => ?_)
          clear h8 hM9
          refine mr_aload_n C dX3_takesQueued_62 rfl (ml_at hl_6 0 rfl) ?_
          refine lv_iload_n hx hb dX3_takesQueued_63 rfl (ml_at hl_6 1 rfl) ?_
          refine mr_ci hM21 (mr_runV (As := [.int y1]) C hM21 hl_6.1.1 (c_X3_firstQueued l G ad y1 σ19 _ h20) cw_X3_141 (mO_fix hM21 rfl (by decide) (by decide) (by decide)) rfl rfl (n := 1) ⟨rfl, by decide, by decide, by decide +kernel⟩ rfl rfl ⟨Nat.le_of_ble_eq_true rfl, Nat.le_of_ble_eq_true rfl⟩ m_c0 (Nat.le_of_ble_eq_true rfl) dX3_takesQueued_64 ⟨Nat.zero_le _, Nat.zero_le _⟩) (fun x25 σ22 H locs h23 hM24 => ?_)
          clear h20 hM21
          refine mr_istore_n (lv' := [(2, .int x25), (0, mV ad (some 0)), (1, .int y1)]) C hl_6 dX3_takesQueued_67 rfl (by decide) rfl (fun ls hl26 => ?_)
          clear hl_6
          refine lv_goto (tgt := 6) hx hb dX3_takesQueued_68 (by decide) ?_
          obtain ⟨k27, hk27, h23⟩ := h23
          exact ih6 k27 hk27 x25 σ22 _ _ _ h23 hM24 (ml_sub hl26 [1, 2, 0] rfl)
        · replace h8 := h8.2 hc18
          refine mr_aload_n C dX3_takesQueued_46 rfl (ml_at hl_6 0 rfl) ?_
          refine lv_iload_n hx hb dX3_takesQueued_47 rfl (ml_at hl_6 2 rfl) ?_
          refine lv_bipush (v := 6) hx hb dX3_takesQueued_48 (by decide) ?_
          refine mr_ci hM9 (mr_runV (As := [.int x2_6, .int (6 : Int32)]) C hM9 hl_6.1.1 (c_X3_ends l G ad x2_6 (6 : Int32) σ7 _ h8) cw_X3_114 (mO_fix hM9 rfl (by decide) (by decide) (by decide)) rfl rfl (n := 2) ⟨rfl, by decide, by decide, by decide +kernel⟩ rfl rfl ⟨Nat.le_of_ble_eq_true rfl, Nat.le_of_ble_eq_true rfl⟩ m_c0 (Nat.le_of_ble_eq_true rfl) dX3_takesQueued_50 ⟨Nat.zero_le _, Nat.zero_le _⟩) (fun x31 σ28 H locs h29 hM30 => ?_)
          clear h8 hM9
          refine lv_pop hx hb dX3_takesQueued_53 rfl ?_
          refine lv_goto (tgt := 62) hx hb dX3_takesQueued_54 (by decide) ?_
          refine mr_aload_n C dX3_takesQueued_62 rfl (ml_at hl_6 0 rfl) ?_
          refine lv_iload_n hx hb dX3_takesQueued_63 rfl (ml_at hl_6 1 rfl) ?_
          refine mr_ci hM30 (mr_runV (As := [.int y1]) C hM30 hl_6.1.1 (c_X3_firstQueued l G ad y1 σ28 _ h29) cw_X3_141 (mO_fix hM30 rfl (by decide) (by decide) (by decide)) rfl rfl (n := 1) ⟨rfl, by decide, by decide, by decide +kernel⟩ rfl rfl ⟨Nat.le_of_ble_eq_true rfl, Nat.le_of_ble_eq_true rfl⟩ m_c0 (Nat.le_of_ble_eq_true rfl) dX3_takesQueued_64 ⟨Nat.zero_le _, Nat.zero_le _⟩) (fun x35 σ32 H locs h33 hM34 => ?_)
          clear h29 hM30
          refine mr_istore_n (lv' := [(2, .int x35), (0, mV ad (some 0)), (1, .int y1)]) C hl_6 dX3_takesQueued_67 rfl (by decide) rfl (fun ls hl36 => ?_)
          clear hl_6
          refine lv_goto (tgt := 6) hx hb dX3_takesQueued_68 (by decide) ?_
          obtain ⟨k37, hk37, h33⟩ := h33
          exact ih6 k37 hk37 x35 σ32 _ _ _ h33 hM34 (ml_sub hl36 [1, 2, 0] rfl)
  exact hL6 nn6 x4 σ1 _ _ _ h2 hM3 (ml_sub hl5 [1, 2, 0] rfl)
def w_X3_ticks  (σ0 : mS) (Q : mS → Prop) : Prop := (∀ σ2, σ2 = sI σ0 0 1 ((mI σ0 0 1) + (1 : Int32)) → w_X3_late  σ2 (fun σ3 => w_X3_worksOut  σ3 (fun σ6 => (∃ I25 : Nat → Int32 → mS → Prop, (∀ (n25 : Nat) (x1_25 : Int32) (σ_25 : mS), I25 n25 x1_25 σ_25 → ((x1_25 < 0 → w_X3_makesTries  σ_25 (fun σ11 => (∃ I65 : Nat → Int32 → mS → Prop, (∀ (n65 : Nat) (x1_65 : Int32) (σ_65 : mS), I65 n65 x1_65 σ_65 → (((6 : Int32) ≤ x1_65 → (Q σ_65)) ∧ (¬ (6 : Int32) ≤ x1_65 → w_X3_takesQueued x1_65 σ_65 (fun σ16 => (∃ k20, k20 < n65 ∧ I65 k20 (x1_65 + 1) σ16))))) ∧ ∃ n, I65 n (0 : Int32) σ11))) ∧ (¬ x1_25 < 0 → (∃ j21, x1_25 = nI j21 ∧ (j21 < 200 ∧ ((¬ (mI σ_25 15 j21) = (2 : Int32) → (∃ k25, k25 < n25 ∧ I25 k25 (x1_25 + (-1)) σ_25)) ∧ ((mI σ_25 15 j21) = (2 : Int32) → (∃ j26, x1_25 = nI j26 ∧ (j26 < 200 ∧ ((¬ (mI σ_25 24 j26) = 0 → (∃ k30, k30 < n25 ∧ I25 k30 (x1_25 + (-1)) σ_25)) ∧ ((mI σ_25 24 j26) = 0 → w_X3_looks x1_25 σ_25 (fun σ31 => (∃ k35, k35 < n25 ∧ I25 k35 (x1_25 + (-1)) σ31))))))))))))) ∧ ∃ n, I25 n ((mI σ6 0 13) - (1 : Int32)) σ6))))
set_option maxRecDepth 100000 in
set_option maxHeartbeats 4000000 in
theorem c_X3_ticks (l : Launch) (G : mG) (ad : Nat → Nat)  (σ0 : mS) (Q : mS → Prop) (h : w_X3_ticks  σ0 Q) : mKv l yX3_ticks cX3_ticks 2 4 93 G kdM ad σ0 [mV ad (some 0)] Q := by
  refine mr_start (lst := [(0, mV ad (some 0))]) (by decide) (m_cR m_c0) rfl (Nat.le_of_ble_eq_true rfl) (fun p e s m below meth c C hM hr hlk ls hl => ?_)
  have hx := C.1.1
  have hb := C.1.2.1
  unfold w_X3_ticks at h
  refine mr_aload_n C dX3_ticks_0 rfl (ml_at hl 0 rfl) ?_
  refine lv_dup hx hb dX3_ticks_1 (mV_cat _ _) ?_
  refine fg_X3_101 C hM (mO_fix hM rfl (by decide) (by decide) (by decide)) dX3_ticks_2 ?_
  refine lv_iconst (v := 1) hx hb dX3_ticks_5 (by decide) ?_
  refine lv_iadd hx hb dX3_ticks_6 ?_
  refine fp_X3_101 C hM (mO_fix hM rfl (by decide) (by decide) (by decide)) dX3_ticks_7 ((mI σ0 0 1) + (1 : Int32)) (fun H locs hM1 => ?_)
  clear hM
  obtain ⟨σ2, eσ2⟩ : ∃ y, y = sI σ0 0 1 ((mI σ0 0 1) + (1 : Int32)) := ⟨_, rfl⟩
  rw [← eσ2] at hM1
  replace h := h σ2 eσ2
  refine mr_aload_n C dX3_ticks_10 rfl (ml_at hl 0 rfl) ?_
  refine mr_cv hM1 (mr_runV (As := []) C hM1 hl.1.1 (c_X3_late l G ad  σ2 _ h) cw_X3_145 (mO_fix hM1 rfl (by decide) (by decide) (by decide)) rfl rfl (n := 0) ⟨rfl, by decide, by decide, by decide +kernel⟩ rfl rfl ⟨Nat.le_of_ble_eq_true rfl, Nat.le_of_ble_eq_true rfl⟩ m_c0 (Nat.le_of_ble_eq_true rfl) dX3_ticks_11 ⟨Nat.zero_le _, Nat.zero_le _⟩) (fun σ3 H locs h4 hM5 => ?_)
  clear h hM1
  refine mr_aload_n C dX3_ticks_14 rfl (ml_at hl 0 rfl) ?_
  refine mr_cv hM5 (mr_runV (As := []) C hM5 hl.1.1 (c_X3_worksOut l G ad  σ3 _ h4) cw_X3_148 (mO_fix hM5 rfl (by decide) (by decide) (by decide)) rfl rfl (n := 0) ⟨rfl, by decide, by decide, by decide +kernel⟩ rfl rfl ⟨Nat.le_of_ble_eq_true rfl, Nat.le_of_ble_eq_true rfl⟩ m_c0 (Nat.le_of_ble_eq_true rfl) dX3_ticks_15 ⟨Nat.zero_le _, Nat.zero_le _⟩) (fun σ6 H locs h7 hM8 => ?_)
  clear h4 hM5
  refine mr_aload_n C dX3_ticks_18 rfl (ml_at hl 0 rfl) ?_
  refine fg_X3_94 C hM8 (mO_fix hM8 rfl (by decide) (by decide) (by decide)) dX3_ticks_19 ?_
  refine lv_iconst (v := 1) hx hb dX3_ticks_22 (by decide) ?_
  refine lv_isub hx hb dX3_ticks_23 ?_
  refine mr_istore_n (lv' := [(1, .int ((mI σ6 0 13) - (1 : Int32))), (0, mV ad (some 0))]) C hl dX3_ticks_24 rfl (by decide) rfl (fun ls hl9 => ?_)
  clear hl
  obtain ⟨I25, hI25, nn25, h7⟩ := h7
  have hL25 : ∀ (n25 : Nat) (x1_25 : Int32) (σ_25 : mS) (H : Heap) (locs : List Loc) (ls : Array Slot), I25 n25 x1_25 σ_25 → mM G kdM ad s σ_25 H locs → ml_has ls 2 [(0, mV ad (some 0)), (1, .int x1_25)] → W p l e (mRm 4 93) s m ([mV ad (some 0)] : List Value).toArray below meth c H locs 0 0 (MQ below (va_Qv Q (mPost G kdM ad) (mA ad)) ([mV ad (some 0)] : List Value).toArray s 0 0 (mA ad)) (F0 m 25 ls []) := by
    refine m_loop (fun n25 ih25 => ?_)
    intro x1_25 σ_25 H locs ls h_25 hM_25 hl_25
    replace h_25 := hI25 n25 x1_25 σ_25 h_25
    refine lv_iload_n hx hb dX3_ticks_25 rfl (ml_at hl_25 1 rfl) ?_
    refine lv_if_lt (tgt := 59) hx hb dX3_ticks_26 (by decide) (fun hc10 => ?_) (fun hc10 => ?_)
    · replace h_25 := h_25.1 hc10
      refine mr_aload_n C dX3_ticks_59 rfl (ml_at hl_25 0 rfl) ?_
      refine mr_cv hM_25 (mr_runV (As := []) C hM_25 hl_25.1.1 (c_X3_makesTries l G ad  σ_25 _ h_25) cw_X3_154 (mO_fix hM_25 rfl (by decide) (by decide) (by decide)) rfl rfl (n := 0) ⟨rfl, by decide, by decide, by decide +kernel⟩ rfl rfl ⟨Nat.le_of_ble_eq_true rfl, Nat.le_of_ble_eq_true rfl⟩ m_c0 (Nat.le_of_ble_eq_true rfl) dX3_ticks_60 ⟨Nat.zero_le _, Nat.zero_le _⟩) (fun σ11 H locs h12 hM13 => ?_)
      clear h_25 hM_25
      refine lv_iconst (v := 0) hx hb dX3_ticks_63 (by decide) ?_
      refine mr_istore_n (lv' := [(1, .int (0 : Int32)), (0, mV ad (some 0))]) C hl_25 dX3_ticks_64 rfl (by decide) rfl (fun ls hl14 => ?_)
      clear hl_25
      obtain ⟨I65, hI65, nn65, h12⟩ := h12
      have hL65 : ∀ (n65 : Nat) (x1_65 : Int32) (σ_65 : mS) (H : Heap) (locs : List Loc) (ls : Array Slot), I65 n65 x1_65 σ_65 → mM G kdM ad s σ_65 H locs → ml_has ls 2 [(0, mV ad (some 0)), (1, .int x1_65)] → W p l e (mRm 4 93) s m ([mV ad (some 0)] : List Value).toArray below meth c H locs 0 0 (MQ below (va_Qv Q (mPost G kdM ad) (mA ad)) ([mV ad (some 0)] : List Value).toArray s 0 0 (mA ad)) (F0 m 65 ls []) := by
        refine m_loop (fun n65 ih65 => ?_)
        intro x1_65 σ_65 H locs ls h_65 hM_65 hl_65
        replace h_65 := hI65 n65 x1_65 σ_65 h_65
        refine lv_iload_n hx hb dX3_ticks_65 rfl (ml_at hl_65 1 rfl) ?_
        refine lv_bipush (v := 6) hx hb dX3_ticks_66 (by decide) ?_
        refine lv_icmp_ge (tgt := 82) hx hb dX3_ticks_68 (by decide) (fun hc15 => ?_) (fun hc15 => ?_)
        · replace h_65 := h_65.1 hc15
          exact mr_vret C hM_65 hr hlk h_65 dX3_ticks_82
        · replace h_65 := h_65.2 hc15
          refine mr_aload_n C dX3_ticks_71 rfl (ml_at hl_65 0 rfl) ?_
          refine lv_iload_n hx hb dX3_ticks_72 rfl (ml_at hl_65 1 rfl) ?_
          refine mr_cv hM_65 (mr_runV (As := [.int x1_65]) C hM_65 hl_65.1.1 (c_X3_takesQueued l G ad x1_65 σ_65 _ h_65) cw_X3_157 (mO_fix hM_65 rfl (by decide) (by decide) (by decide)) rfl rfl (n := 1) ⟨rfl, by decide, by decide, by decide +kernel⟩ rfl rfl ⟨Nat.le_of_ble_eq_true rfl, Nat.le_of_ble_eq_true rfl⟩ m_c0 (Nat.le_of_ble_eq_true rfl) dX3_ticks_73 ⟨Nat.zero_le _, Nat.zero_le _⟩) (fun σ16 H locs h17 hM18 => ?_)
          clear h_65 hM_65
          refine mr_iinc (v := (x1_65 + 1)) (lv' := [(1, .int (x1_65 + 1)), (0, mV ad (some 0))]) C hl_65 dX3_ticks_76 (k := 1) rfl rfl (by decide) rfl (fun ls hl19 => ?_)
          clear hl_65
          refine lv_goto (tgt := 65) hx hb dX3_ticks_79 (by decide) ?_
          obtain ⟨k20, hk20, h17⟩ := h17
          exact ih65 k20 hk20 (x1_65 + 1) σ16 _ _ _ h17 hM18 (ml_sub hl19 [1, 0] rfl)
      exact hL65 nn65 (0 : Int32) σ11 _ _ _ h12 hM13 (ml_sub hl14 [1, 0] rfl)
    · replace h_25 := h_25.2 hc10
      refine mr_aload_n C dX3_ticks_29 rfl (ml_at hl_25 0 rfl) ?_
      refine fg_X3_52 (i := 0) C hM_25 (mO_fix hM_25 rfl (by decide) (by decide) (by decide)) dX3_ticks_30 ?_
      refine lv_iload_n hx hb dX3_ticks_33 rfl (ml_at hl_25 1 rfl) ?_
      obtain ⟨j21, ej22, ej22b, h_25⟩ := h_25
      refine mr_iald C hM_25 (mB_fix hM_25 rfl (by decide) (by decide) (by decide)) ej22 ej22b (by decide) dX3_ticks_34 ?_
      refine lv_iconst (v := 2) hx hb dX3_ticks_35 (by decide) ?_
      refine lv_icmp_ne (tgt := 53) hx hb dX3_ticks_36 (by decide) (fun hc23 => ?_) (fun hc23 => ?_)
      · replace h_25 := h_25.1 hc23
        refine mr_iinc (v := (x1_25 + (-1))) (lv' := [(1, .int (x1_25 + (-1))), (0, mV ad (some 0))]) C hl_25 dX3_ticks_53 (k := 1) rfl rfl (by decide) rfl (fun ls hl24 => ?_)
        clear hl_25
        refine lv_goto (tgt := 25) hx hb dX3_ticks_56 (by decide) ?_
        obtain ⟨k25, hk25, h_25⟩ := h_25
        exact ih25 k25 hk25 (x1_25 + (-1)) σ_25 _ _ _ h_25 hM_25 (ml_sub hl24 [1, 0] rfl)
      · replace h_25 := h_25.2 hc23
        refine mr_aload_n C dX3_ticks_39 rfl (ml_at hl_25 0 rfl) ?_
        refine fg_X3_79 (i := 0) C hM_25 (mO_fix hM_25 rfl (by decide) (by decide) (by decide)) dX3_ticks_40 ?_
        refine lv_iload_n hx hb dX3_ticks_43 rfl (ml_at hl_25 1 rfl) ?_
        obtain ⟨j26, ej27, ej27b, h_25⟩ := h_25
        refine mr_zald C hM_25 (mB_fix hM_25 rfl (by decide) (by decide) (by decide)) ej27 ej27b (by decide) dX3_ticks_44 ?_
        refine lv_if_ne (tgt := 53) hx hb dX3_ticks_45 (by decide) (fun hc28 => ?_) (fun hc28 => ?_)
        · replace h_25 := h_25.1 hc28
          refine mr_iinc (v := (x1_25 + (-1))) (lv' := [(1, .int (x1_25 + (-1))), (0, mV ad (some 0))]) C hl_25 dX3_ticks_53 (k := 1) rfl rfl (by decide) rfl (fun ls hl29 => ?_)
          clear hl_25
          refine lv_goto (tgt := 25) hx hb dX3_ticks_56 (by decide) ?_
          obtain ⟨k30, hk30, h_25⟩ := h_25
          exact ih25 k30 hk30 (x1_25 + (-1)) σ_25 _ _ _ h_25 hM_25 (ml_sub hl29 [1, 0] rfl)
        · replace h_25 := h_25.2 hc28
          refine mr_aload_n C dX3_ticks_48 rfl (ml_at hl_25 0 rfl) ?_
          refine lv_iload_n hx hb dX3_ticks_49 rfl (ml_at hl_25 1 rfl) ?_
          refine mr_cv hM_25 (mr_runV (As := [.int x1_25]) C hM_25 hl_25.1.1 (c_X3_looks l G ad x1_25 σ_25 _ h_25) cw_X3_151 (mO_fix hM_25 rfl (by decide) (by decide) (by decide)) rfl rfl (n := 1) ⟨rfl, by decide, by decide, by decide +kernel⟩ rfl rfl ⟨Nat.le_of_ble_eq_true rfl, Nat.le_of_ble_eq_true rfl⟩ m_c0 (Nat.le_of_ble_eq_true rfl) dX3_ticks_50 ⟨Nat.zero_le _, Nat.zero_le _⟩) (fun σ31 H locs h32 hM33 => ?_)
          clear h_25 hM_25
          refine mr_iinc (v := (x1_25 + (-1))) (lv' := [(1, .int (x1_25 + (-1))), (0, mV ad (some 0))]) C hl_25 dX3_ticks_53 (k := 1) rfl rfl (by decide) rfl (fun ls hl34 => ?_)
          clear hl_25
          refine lv_goto (tgt := 25) hx hb dX3_ticks_56 (by decide) ?_
          obtain ⟨k35, hk35, h32⟩ := h32
          exact ih25 k35 hk35 (x1_25 + (-1)) σ31 _ _ _ h32 hM33 (ml_sub hl34 [1, 0] rfl)
  exact hL25 nn25 ((mI σ6 0 13) - (1 : Int32)) σ6 _ _ _ h7 hM8 (ml_sub hl9 [1, 0] rfl)
def w_X3_rootsOver  (σ0 : mS) (Q : Int32 → mS → Prop) : Prop := (∃ I4 : Nat → Int32 → Int32 → mS → Prop, (∀ (n4 : Nat) (x1_4 : Int32) (x2_4 : Int32) (σ_4 : mS), I4 n4 x1_4 x2_4 σ_4 → (((mI σ_4 0 13) ≤ x2_4 → (Q x1_4 σ_4)) ∧ (¬ (mI σ_4 0 13) ≤ x2_4 → (∃ j4, x2_4 = nI j4 ∧ (j4 < 200 ∧ ((¬ (mI σ_4 14 j4) = (-1 : Int32) → (∃ k9, k9 < n4 ∧ I4 k9 (x1_4 + (0 : Int32)) (x2_4 + 1) σ_4)) ∧ ((mI σ_4 14 j4) = (-1 : Int32) → w_X3_isOver x2_4 σ_4 (fun x13 σ10 => ((x13 = 0 → (∃ k17, k17 < n4 ∧ I4 k17 (x1_4 + (0 : Int32)) (x2_4 + 1) σ10)) ∧ (¬ x13 = 0 → (∃ k20, k20 < n4 ∧ I4 k20 (x1_4 + (1 : Int32)) (x2_4 + 1) σ10))))))))))) ∧ ∃ n, I4 n (0 : Int32) (0 : Int32) σ0)
set_option maxRecDepth 100000 in
set_option maxHeartbeats 4000000 in
theorem c_X3_rootsOver (l : Launch) (G : mG) (ad : Nat → Nat)  (σ0 : mS) (Q : Int32 → mS → Prop) (h : w_X3_rootsOver  σ0 Q) : mKi l yX3_rootsOver cX3_rootsOver 3 1 21 G kdM ad σ0 [mV ad (some 0)] Q := by
  refine mr_start (lst := [(0, mV ad (some 0))]) (by decide) (m_cR m_c0) rfl (Nat.le_of_ble_eq_true rfl) (fun p e s m below meth c C hM hr hlk ls hl => ?_)
  have hx := C.1.1
  have hb := C.1.2.1
  unfold w_X3_rootsOver at h
  refine lv_iconst (v := 0) hx hb dX3_rootsOver_0 (by decide) ?_
  refine mr_istore_n (lv' := [(1, .int (0 : Int32)), (0, mV ad (some 0))]) C hl dX3_rootsOver_1 rfl (by decide) rfl (fun ls hl1 => ?_)
  clear hl
  refine lv_iconst (v := 0) hx hb dX3_rootsOver_2 (by decide) ?_
  refine mr_istore_n (lv' := [(2, .int (0 : Int32)), (1, .int (0 : Int32)), (0, mV ad (some 0))]) C hl1 dX3_rootsOver_3 rfl (by decide) rfl (fun ls hl2 => ?_)
  clear hl1
  obtain ⟨I4, hI4, nn4, h⟩ := h
  have hL4 : ∀ (n4 : Nat) (x1_4 : Int32) (x2_4 : Int32) (σ_4 : mS) (H : Heap) (locs : List Loc) (ls : Array Slot), I4 n4 x1_4 x2_4 σ_4 → mM G kdM ad s σ_4 H locs → ml_has ls 3 [(0, mV ad (some 0)), (1, .int x1_4), (2, .int x2_4)] → W p l e (mRm 1 21) s m ([mV ad (some 0)] : List Value).toArray below meth c H locs 0 0 (MQ below (va_Qi Q (mPost G kdM ad) (mA ad)) ([mV ad (some 0)] : List Value).toArray s 0 0 (mA ad)) (F0 m 4 ls []) := by
    refine m_loop (fun n4 ih4 => ?_)
    intro x1_4 x2_4 σ_4 H locs ls h_4 hM_4 hl_4
    replace h_4 := hI4 n4 x1_4 x2_4 σ_4 h_4
    refine lv_iload_n hx hb dX3_rootsOver_4 rfl (ml_at hl_4 2 rfl) ?_
    refine mr_aload_n C dX3_rootsOver_5 rfl (ml_at hl_4 0 rfl) ?_
    refine fg_X3_94 C hM_4 (mO_fix hM_4 rfl (by decide) (by decide) (by decide)) dX3_rootsOver_6 ?_
    refine lv_icmp_ge (tgt := 44) hx hb dX3_rootsOver_9 (by decide) (fun hc3 => ?_) (fun hc3 => ?_)
    · replace h_4 := h_4.1 hc3
      refine lv_iload_n hx hb dX3_rootsOver_44 rfl (ml_at hl_4 1 rfl) ?_
      exact mr_iret C hM_4 hr hlk h_4 dX3_rootsOver_45
    · replace h_4 := h_4.2 hc3
      refine lv_iload_n hx hb dX3_rootsOver_12 rfl (ml_at hl_4 1 rfl) ?_
      refine mr_aload_n C dX3_rootsOver_13 rfl (ml_at hl_4 0 rfl) ?_
      refine fg_X3_49 (i := 0) C hM_4 (mO_fix hM_4 rfl (by decide) (by decide) (by decide)) dX3_rootsOver_14 ?_
      refine lv_iload_n hx hb dX3_rootsOver_17 rfl (ml_at hl_4 2 rfl) ?_
      obtain ⟨j4, ej5, ej5b, h_4⟩ := h_4
      refine mr_iald C hM_4 (mB_fix hM_4 rfl (by decide) (by decide) (by decide)) ej5 ej5b (by decide) dX3_rootsOver_18 ?_
      refine lv_iconst (v := -1) hx hb dX3_rootsOver_19 (by decide) ?_
      refine lv_icmp_ne (tgt := 35) hx hb dX3_rootsOver_20 (by decide) (fun hc6 => ?_) (fun hc6 => ?_)
      · replace h_4 := h_4.1 hc6
        refine lv_iconst (v := 0) hx hb dX3_rootsOver_35 (by decide) ?_
        refine lv_iadd hx hb dX3_rootsOver_36 ?_
        refine mr_istore_n (lv' := [(1, .int (x1_4 + (0 : Int32))), (0, mV ad (some 0)), (2, .int x2_4)]) C hl_4 dX3_rootsOver_37 rfl (by decide) rfl (fun ls hl7 => ?_)
        clear hl_4
        refine mr_iinc (v := (x2_4 + 1)) (lv' := [(2, .int (x2_4 + 1)), (1, .int (x1_4 + (0 : Int32))), (0, mV ad (some 0))]) C hl7 dX3_rootsOver_38 (k := 2) rfl rfl (by decide) rfl (fun ls hl8 => ?_)
        clear hl7
        refine lv_goto (tgt := 4) hx hb dX3_rootsOver_41 (by decide) ?_
        obtain ⟨k9, hk9, h_4⟩ := h_4
        exact ih4 k9 hk9 (x1_4 + (0 : Int32)) (x2_4 + 1) σ_4 _ _ _ h_4 hM_4 (ml_sub hl8 [2, 1, 0] rfl)
      · replace h_4 := h_4.2 hc6
        refine mr_aload_n C dX3_rootsOver_23 rfl (ml_at hl_4 0 rfl) ?_
        refine lv_iload_n hx hb dX3_rootsOver_24 rfl (ml_at hl_4 2 rfl) ?_
        refine mr_ci hM_4 (mr_runV (As := [.int x2_4]) C hM_4 hl_4.1.1 (c_X3_isOver l G ad x2_4 σ_4 _ h_4) cw_X3_104 (mO_fix hM_4 rfl (by decide) (by decide) (by decide)) rfl rfl (n := 1) ⟨rfl, by decide, by decide, by decide +kernel⟩ rfl rfl ⟨Nat.le_of_ble_eq_true rfl, Nat.le_of_ble_eq_true rfl⟩ (m_cI m_c0) (Nat.le_of_ble_eq_true rfl) dX3_rootsOver_25 ⟨Nat.zero_le _, Nat.zero_le _⟩) (fun x13 σ10 H locs h11 hM12 => ?_)
        clear h_4 hM_4
        obtain ⟨h11, hzx13⟩ := h11
        refine lv_if_eq (tgt := 35) hx hb dX3_rootsOver_28 (by decide) (fun hc14 => ?_) (fun hc14 => ?_)
        · replace h11 := h11.1 hc14
          refine lv_iconst (v := 0) hx hb dX3_rootsOver_35 (by decide) ?_
          refine lv_iadd hx hb dX3_rootsOver_36 ?_
          refine mr_istore_n (lv' := [(1, .int (x1_4 + (0 : Int32))), (0, mV ad (some 0)), (2, .int x2_4)]) C hl_4 dX3_rootsOver_37 rfl (by decide) rfl (fun ls hl15 => ?_)
          clear hl_4
          refine mr_iinc (v := (x2_4 + 1)) (lv' := [(2, .int (x2_4 + 1)), (1, .int (x1_4 + (0 : Int32))), (0, mV ad (some 0))]) C hl15 dX3_rootsOver_38 (k := 2) rfl rfl (by decide) rfl (fun ls hl16 => ?_)
          clear hl15
          refine lv_goto (tgt := 4) hx hb dX3_rootsOver_41 (by decide) ?_
          obtain ⟨k17, hk17, h11⟩ := h11
          exact ih4 k17 hk17 (x1_4 + (0 : Int32)) (x2_4 + 1) σ10 _ _ _ h11 hM12 (ml_sub hl16 [2, 1, 0] rfl)
        · replace h11 := h11.2 hc14
          refine lv_iconst (v := 1) hx hb dX3_rootsOver_31 (by decide) ?_
          refine lv_goto (tgt := 36) hx hb dX3_rootsOver_32 (by decide) ?_
          refine lv_iadd hx hb dX3_rootsOver_36 ?_
          refine mr_istore_n (lv' := [(1, .int (x1_4 + (1 : Int32))), (0, mV ad (some 0)), (2, .int x2_4)]) C hl_4 dX3_rootsOver_37 rfl (by decide) rfl (fun ls hl18 => ?_)
          clear hl_4
          refine mr_iinc (v := (x2_4 + 1)) (lv' := [(2, .int (x2_4 + 1)), (1, .int (x1_4 + (1 : Int32))), (0, mV ad (some 0))]) C hl18 dX3_rootsOver_38 (k := 2) rfl rfl (by decide) rfl (fun ls hl19 => ?_)
          clear hl18
          refine lv_goto (tgt := 4) hx hb dX3_rootsOver_41 (by decide) ?_
          obtain ⟨k20, hk20, h11⟩ := h11
          exact ih4 k20 hk20 (x1_4 + (1 : Int32)) (x2_4 + 1) σ10 _ _ _ h11 hM12 (ml_sub hl19 [2, 1, 0] rfl)
  exact hL4 nn4 (0 : Int32) (0 : Int32) σ0 _ _ _ h hM (ml_sub hl2 [2, 1, 0] rfl)
def w_X3_pass (y1 : Int32) (σ0 : mS) (Q : Int32 → mS → Prop) : Prop := w_X3_in y1 (1 : Int32) (100 : Int32) σ0 (fun x4 σ1 => (∃ J16 : Int32 → mS → Prop, (∀ (xk0_16 : Int32) (σ_16 : mS), J16 xk0_16 σ_16 → (∀ σ6, σ6 = sI σ_16 0 0 xk0_16 → (((mI σ6 0 0) ≤ 0 → w_X3_rootsOver  σ6 (fun x11 σ8 => (∃ I35 : Nat → Int32 → mS → Prop, (∀ (n35 : Nat) (x3_35 : Int32) (σ_35 : mS), I35 n35 x3_35 σ_35 → ((y1 ≤ x3_35 → w_X3_rootsOver  σ_35 (fun x18 σ15 => (Q (x18 - x11) σ15))) ∧ (¬ y1 ≤ x3_35 → w_X3_ticks  σ_35 (fun σ19 => (∃ k23, k23 < n35 ∧ I35 k23 (x3_35 + 1) σ19))))) ∧ ∃ n, I35 n (0 : Int32) σ8))) ∧ (¬ (mI σ6 0 0) ≤ 0 → (Q (0 : Int32) σ6))))) ∧ ((x4 = 0 → (J16 (1 : Int32) σ1)) ∧ (¬ x4 = 0 → (J16 (0 : Int32) σ1)))))
set_option maxRecDepth 100000 in
set_option maxHeartbeats 4000000 in
theorem c_X3_pass (l : Launch) (G : mG) (ad : Nat → Nat) (y1 : Int32) (σ0 : mS) (Q : Int32 → mS → Prop) (h : w_X3_pass y1 σ0 Q) : mKi l yX3_pass cX3_pass 4 5 114 G kdM ad σ0 [mV ad (some 0), .int y1] Q := by
  refine mr_start (lst := [(0, mV ad (some 0)), (1, .int y1)]) (by decide) (m_cR (m_cI m_c0)) rfl (Nat.le_of_ble_eq_true rfl) (fun p e s m below meth c C hM hr hlk ls hl => ?_)
  have hx := C.1.1
  have hb := C.1.2.1
  unfold w_X3_pass at h
  refine mr_aload_n C dX3_pass_0 rfl (ml_at hl 0 rfl) ?_
  refine lv_iload_n hx hb dX3_pass_1 rfl (ml_at hl 1 rfl) ?_
  refine lv_iconst (v := 1) hx hb dX3_pass_2 (by decide) ?_
  refine lv_bipush (v := 100) hx hb dX3_pass_3 (by decide) ?_
  refine mr_ci hM (mr_runS (As := [.int y1, .int (1 : Int32), .int (100 : Int32)]) C hM hl.1.1 (c_X3_in l G ad y1 (1 : Int32) (100 : Int32) σ0 _ h) cw_X3_90 (n := 3) ⟨rfl, by decide, by decide, by decide +kernel⟩ rfl rfl ⟨Nat.le_of_ble_eq_true rfl, Nat.le_of_ble_eq_true rfl⟩ (m_cR m_c0) (Nat.le_of_ble_eq_true rfl) dX3_pass_5 ⟨Nat.zero_le _, Nat.zero_le _⟩) (fun x4 σ1 H locs h2 hM3 => ?_)
  clear h hM
  obtain ⟨h2, hzx4⟩ := h2
  obtain ⟨J16, hJ16, h2⟩ := h2
  have hj16 : ∀ (xk0_16 : Int32) (σ_16 : mS) (H : Heap) (locs : List Loc) (ls : Array Slot), J16 xk0_16 σ_16 → mM G kdM ad s σ_16 H locs → ml_has ls 4 [(0, mV ad (some 0)), (1, .int y1)] → W p l e (mRm 5 114) s m ([mV ad (some 0), .int y1] : List Value).toArray below meth c H locs 0 0 (MQ below (va_Qi Q (mPost G kdM ad) (mA ad)) ([mV ad (some 0), .int y1] : List Value).toArray s 0 0 (mA ad)) (F0 m 16 ls [.int xk0_16, mV ad (some 0)]) := by
    intro xk0_16 σ_16 H locs ls h_16 hM_16 hl_16
    replace h_16 := hJ16 xk0_16 σ_16 h_16
    refine fp_X3_86 C hM_16 (mO_fix hM_16 rfl (by decide) (by decide) (by decide)) dX3_pass_16 xk0_16 (fun H locs hM5 => ?_)
    clear hM_16
    obtain ⟨σ6, eσ6⟩ : ∃ y, y = sI σ_16 0 0 xk0_16 := ⟨_, rfl⟩
    rw [← eσ6] at hM5
    replace h_16 := h_16 σ6 eσ6
    refine mr_aload_n C dX3_pass_19 rfl (ml_at hl_16 0 rfl) ?_
    refine fg_X3_86 C hM5 (mO_fix hM5 rfl (by decide) (by decide) (by decide)) dX3_pass_20 ?_
    refine lv_if_le (tgt := 28) hx hb dX3_pass_23 (by decide) (fun hc7 => ?_) (fun hc7 => ?_)
    · replace h_16 := h_16.1 hc7
      refine mr_aload_n C dX3_pass_28 rfl (ml_at hl_16 0 rfl) ?_
      refine mr_ci hM5 (mr_runV (As := []) C hM5 hl_16.1.1 (c_X3_rootsOver l G ad  σ6 _ h_16) cw_X3_160 (mO_fix hM5 rfl (by decide) (by decide) (by decide)) rfl rfl (n := 0) ⟨rfl, by decide, by decide, by decide +kernel⟩ rfl rfl ⟨Nat.le_of_ble_eq_true rfl, Nat.le_of_ble_eq_true rfl⟩ m_c0 (Nat.le_of_ble_eq_true rfl) dX3_pass_29 ⟨Nat.zero_le _, Nat.zero_le _⟩) (fun x11 σ8 H locs h9 hM10 => ?_)
      clear h_16 hM5
      refine mr_istore_n (lv' := [(2, .int x11), (0, mV ad (some 0)), (1, .int y1)]) C hl_16 dX3_pass_32 rfl (by decide) rfl (fun ls hl12 => ?_)
      clear hl_16
      refine lv_iconst (v := 0) hx hb dX3_pass_33 (by decide) ?_
      refine mr_istore_n (lv' := [(3, .int (0 : Int32)), (2, .int x11), (0, mV ad (some 0)), (1, .int y1)]) C hl12 dX3_pass_34 rfl (by decide) rfl (fun ls hl13 => ?_)
      clear hl12
      obtain ⟨I35, hI35, nn35, h9⟩ := h9
      have hL35 : ∀ (n35 : Nat) (x3_35 : Int32) (σ_35 : mS) (H : Heap) (locs : List Loc) (ls : Array Slot), I35 n35 x3_35 σ_35 → mM G kdM ad s σ_35 H locs → ml_has ls 4 [(0, mV ad (some 0)), (1, .int y1), (2, .int x11), (3, .int x3_35)] → W p l e (mRm 5 114) s m ([mV ad (some 0), .int y1] : List Value).toArray below meth c H locs 0 0 (MQ below (va_Qi Q (mPost G kdM ad) (mA ad)) ([mV ad (some 0), .int y1] : List Value).toArray s 0 0 (mA ad)) (F0 m 35 ls []) := by
        refine m_loop (fun n35 ih35 => ?_)
        intro x3_35 σ_35 H locs ls h_35 hM_35 hl_35
        replace h_35 := hI35 n35 x3_35 σ_35 h_35
        refine lv_iload_n hx hb dX3_pass_35 rfl (ml_at hl_35 3 rfl) ?_
        refine lv_iload_n hx hb dX3_pass_36 rfl (ml_at hl_35 1 rfl) ?_
        refine lv_icmp_ge (tgt := 50) hx hb dX3_pass_37 (by decide) (fun hc14 => ?_) (fun hc14 => ?_)
        · replace h_35 := h_35.1 hc14
          refine mr_aload_n C dX3_pass_50 rfl (ml_at hl_35 0 rfl) ?_
          refine mr_ci hM_35 (mr_runV (As := []) C hM_35 hl_35.1.1 (c_X3_rootsOver l G ad  σ_35 _ h_35) cw_X3_160 (mO_fix hM_35 rfl (by decide) (by decide) (by decide)) rfl rfl (n := 0) ⟨rfl, by decide, by decide, by decide +kernel⟩ rfl rfl ⟨Nat.le_of_ble_eq_true rfl, Nat.le_of_ble_eq_true rfl⟩ m_c0 (Nat.le_of_ble_eq_true rfl) dX3_pass_51 ⟨Nat.zero_le _, Nat.zero_le _⟩) (fun x18 σ15 H locs h16 hM17 => ?_)
          clear h_35 hM_35
          refine lv_iload_n hx hb dX3_pass_54 rfl (ml_at hl_35 2 rfl) ?_
          refine lv_isub hx hb dX3_pass_55 ?_
          exact mr_iret C hM17 hr hlk h16 dX3_pass_56
        · replace h_35 := h_35.2 hc14
          refine mr_aload_n C dX3_pass_40 rfl (ml_at hl_35 0 rfl) ?_
          refine mr_cv hM_35 (mr_runV (As := []) C hM_35 hl_35.1.1 (c_X3_ticks l G ad  σ_35 _ h_35) cw_X3_164 (mO_fix hM_35 rfl (by decide) (by decide) (by decide)) rfl rfl (n := 0) ⟨rfl, by decide, by decide, by decide +kernel⟩ rfl rfl ⟨Nat.le_of_ble_eq_true rfl, Nat.le_of_ble_eq_true rfl⟩ m_c0 (Nat.le_of_ble_eq_true rfl) dX3_pass_41 ⟨Nat.zero_le _, Nat.zero_le _⟩) (fun σ19 H locs h20 hM21 => ?_)
          clear h_35 hM_35
          refine mr_iinc (v := (x3_35 + 1)) (lv' := [(3, .int (x3_35 + 1)), (0, mV ad (some 0)), (1, .int y1), (2, .int x11)]) C hl_35 dX3_pass_44 (k := 3) rfl rfl (by decide) rfl (fun ls hl22 => ?_)
          clear hl_35
          refine lv_goto (tgt := 35) hx hb dX3_pass_47 (by decide) ?_
          obtain ⟨k23, hk23, h20⟩ := h20
          exact ih35 k23 hk23 (x3_35 + 1) σ19 _ _ _ h20 hM21 (ml_sub hl22 [1, 2, 3, 0] rfl)
      exact hL35 nn35 (0 : Int32) σ8 _ _ _ h9 hM10 (ml_sub hl13 [2, 3, 1, 0] rfl)
    · replace h_16 := h_16.2 hc7
      refine lv_iconst (v := 0) hx hb dX3_pass_26 (by decide) ?_
      exact mr_iret C hM5 hr hlk h_16 dX3_pass_27
  refine lv_if_eq (tgt := 15) hx hb dX3_pass_8 (by decide) (fun hc24 => ?_) (fun hc24 => ?_)
  · replace h2 := h2.1 hc24
    refine lv_iconst (v := 1) hx hb dX3_pass_15 (by decide) ?_
    exact hj16 (1 : Int32) σ1 _ _ _ h2 hM3 (ml_sub hl [0, 1] rfl)
  · replace h2 := h2.2 hc24
    refine lv_iconst (v := 0) hx hb dX3_pass_11 (by decide) ?_
    refine lv_goto (tgt := 16) hx hb dX3_pass_12 (by decide) ?_
    exact hj16 (0 : Int32) σ1 _ _ _ h2 hM3 (ml_sub hl [0, 1] rfl)
def w_X3_time  (σ0 : mS) (Q : Int32 → mS → Prop) : Prop := (∀ σ2, σ2 = sI σ0 0 0 (0 : Int32) → (Q (mI σ2 0 1) σ2))
set_option maxRecDepth 100000 in
set_option maxHeartbeats 4000000 in
theorem c_X3_time (l : Launch) (G : mG) (ad : Nat → Nat)  (σ0 : mS) (Q : Int32 → mS → Prop) (h : w_X3_time  σ0 Q) : mKi l yX3_time cX3_time 1 0 0 G kdM ad σ0 [mV ad (some 0)] Q := by
  refine mr_start (lst := [(0, mV ad (some 0))]) (by decide) (m_cR m_c0) rfl (Nat.le_of_ble_eq_true rfl) (fun p e s m below meth c C hM hr hlk ls hl => ?_)
  have hx := C.1.1
  have hb := C.1.2.1
  unfold w_X3_time at h
  refine mr_aload_n C dX3_time_0 rfl (ml_at hl 0 rfl) ?_
  refine lv_iconst (v := 0) hx hb dX3_time_1 (by decide) ?_
  refine fp_X3_86 C hM (mO_fix hM rfl (by decide) (by decide) (by decide)) dX3_time_2 (0 : Int32) (fun H locs hM1 => ?_)
  clear hM
  obtain ⟨σ2, eσ2⟩ : ∃ y, y = sI σ0 0 0 (0 : Int32) := ⟨_, rfl⟩
  rw [← eσ2] at hM1
  replace h := h σ2 eσ2
  refine mr_aload_n C dX3_time_5 rfl (ml_at hl 0 rfl) ?_
  refine fg_X3_101 C hM1 (mO_fix hM1 rfl (by decide) (by decide) (by decide)) dX3_time_6 ?_
  exact mr_iret C hM1 hr hlk h dX3_time_9
def w_X3_calls  (σ0 : mS) (Q : Int32 → mS → Prop) : Prop := (∀ σ2, σ2 = sI σ0 0 0 (0 : Int32) → (Q (mI σ2 0 13) σ2))
set_option maxRecDepth 100000 in
set_option maxHeartbeats 4000000 in
theorem c_X3_calls (l : Launch) (G : mG) (ad : Nat → Nat)  (σ0 : mS) (Q : Int32 → mS → Prop) (h : w_X3_calls  σ0 Q) : mKi l yX3_calls cX3_calls 1 0 0 G kdM ad σ0 [mV ad (some 0)] Q := by
  refine mr_start (lst := [(0, mV ad (some 0))]) (by decide) (m_cR m_c0) rfl (Nat.le_of_ble_eq_true rfl) (fun p e s m below meth c C hM hr hlk ls hl => ?_)
  have hx := C.1.1
  have hb := C.1.2.1
  unfold w_X3_calls at h
  refine mr_aload_n C dX3_calls_0 rfl (ml_at hl 0 rfl) ?_
  refine lv_iconst (v := 0) hx hb dX3_calls_1 (by decide) ?_
  refine fp_X3_86 C hM (mO_fix hM rfl (by decide) (by decide) (by decide)) dX3_calls_2 (0 : Int32) (fun H locs hM1 => ?_)
  clear hM
  obtain ⟨σ2, eσ2⟩ : ∃ y, y = sI σ0 0 0 (0 : Int32) := ⟨_, rfl⟩
  rw [← eσ2] at hM1
  replace h := h σ2 eσ2
  refine mr_aload_n C dX3_calls_5 rfl (ml_at hl 0 rfl) ?_
  refine fg_X3_94 C hM1 (mO_fix hM1 rfl (by decide) (by decide) (by decide)) dX3_calls_6 ?_
  exact mr_iret C hM1 hr hlk h dX3_calls_9
def w_X3_asksCall (y1 : Int32) (σ0 : mS) (Q : Int32 → mS → Prop) : Prop := w_X3_isCall y1 σ0 (fun x4 σ1 => (∃ J14 : Int32 → mS → Prop, (∀ (xk0_14 : Int32) (σ_14 : mS), J14 xk0_14 σ_14 → (∀ σ6, σ6 = sI σ_14 0 0 xk0_14 → ((¬ (mI σ6 0 0) = 0 → (Q (0 : Int32) σ6)) ∧ ((mI σ6 0 0) = 0 → (Q (1 : Int32) σ6))))) ∧ ((x4 = 0 → (J14 (1 : Int32) σ1)) ∧ (¬ x4 = 0 → (J14 (0 : Int32) σ1)))))
set_option maxRecDepth 100000 in
set_option maxHeartbeats 4000000 in
theorem c_X3_asksCall (l : Launch) (G : mG) (ad : Nat → Nat) (y1 : Int32) (σ0 : mS) (Q : Int32 → mS → Prop) (h : w_X3_asksCall y1 σ0 Q) : mKz l yX3_asksCall cX3_asksCall 2 2 43 G kdM ad σ0 [mV ad (some 0), .int y1] Q := by
  refine mr_start (lst := [(0, mV ad (some 0)), (1, .int y1)]) (by decide) (m_cR (m_cI m_c0)) rfl (Nat.le_of_ble_eq_true rfl) (fun p e s m below meth c C hM hr hlk ls hl => ?_)
  have hx := C.1.1
  have hb := C.1.2.1
  unfold w_X3_asksCall at h
  refine mr_aload_n C dX3_asksCall_0 rfl (ml_at hl 0 rfl) ?_
  refine mr_aload_n C dX3_asksCall_1 rfl (ml_at hl 0 rfl) ?_
  refine lv_iload_n hx hb dX3_asksCall_2 rfl (ml_at hl 1 rfl) ?_
  refine mr_ci hM (mr_runV (As := [.int y1]) C hM hl.1.1 (c_X3_isCall l G ad y1 σ0 _ h) cw_X3_125 (mO_fix hM rfl (by decide) (by decide) (by decide)) rfl rfl (n := 1) ⟨rfl, by decide, by decide, by decide +kernel⟩ rfl rfl ⟨Nat.le_of_ble_eq_true rfl, Nat.le_of_ble_eq_true rfl⟩ (m_cR m_c0) (Nat.le_of_ble_eq_true rfl) dX3_asksCall_3 ⟨Nat.zero_le _, Nat.zero_le _⟩) (fun x4 σ1 H locs h2 hM3 => ?_)
  clear h hM
  obtain ⟨h2, hzx4⟩ := h2
  obtain ⟨J14, hJ14, h2⟩ := h2
  have hj14 : ∀ (xk0_14 : Int32) (σ_14 : mS) (H : Heap) (locs : List Loc) (ls : Array Slot), J14 xk0_14 σ_14 → mM G kdM ad s σ_14 H locs → ml_has ls 2 [(0, mV ad (some 0))] → W p l e (mRm 2 43) s m ([mV ad (some 0), .int y1] : List Value).toArray below meth c H locs 0 0 (MQ below (va_Qi (fun r u => Q r u ∧ narrow .boolean (.int r) = .int r) (mPost G kdM ad) (mA ad)) ([mV ad (some 0), .int y1] : List Value).toArray s 0 0 (mA ad)) (F0 m 14 ls [.int xk0_14, mV ad (some 0)]) := by
    intro xk0_14 σ_14 H locs ls h_14 hM_14 hl_14
    replace h_14 := hJ14 xk0_14 σ_14 h_14
    refine fp_X3_86 C hM_14 (mO_fix hM_14 rfl (by decide) (by decide) (by decide)) dX3_asksCall_14 xk0_14 (fun H locs hM5 => ?_)
    clear hM_14
    obtain ⟨σ6, eσ6⟩ : ∃ y, y = sI σ_14 0 0 xk0_14 := ⟨_, rfl⟩
    rw [← eσ6] at hM5
    replace h_14 := h_14 σ6 eσ6
    refine mr_aload_n C dX3_asksCall_17 rfl (ml_at hl_14 0 rfl) ?_
    refine fg_X3_86 C hM5 (mO_fix hM5 rfl (by decide) (by decide) (by decide)) dX3_asksCall_18 ?_
    refine lv_if_ne (tgt := 28) hx hb dX3_asksCall_21 (by decide) (fun hc7 => ?_) (fun hc7 => ?_)
    · replace h_14 := h_14.1 hc7
      refine lv_iconst (v := 0) hx hb dX3_asksCall_28 (by decide) ?_
      exact mr_zret C hM5 hr hlk rfl h_14 dX3_asksCall_29
    · replace h_14 := h_14.2 hc7
      refine lv_iconst (v := 1) hx hb dX3_asksCall_24 (by decide) ?_
      refine lv_goto (tgt := 29) hx hb dX3_asksCall_25 (by decide) ?_
      exact mr_zret C hM5 hr hlk rfl h_14 dX3_asksCall_29
  refine lv_if_eq (tgt := 13) hx hb dX3_asksCall_6 (by decide) (fun hc8 => ?_) (fun hc8 => ?_)
  · replace h2 := h2.1 hc8
    refine lv_iconst (v := 1) hx hb dX3_asksCall_13 (by decide) ?_
    exact hj14 (1 : Int32) σ1 _ _ _ h2 hM3 (ml_sub hl [0] rfl)
  · replace h2 := h2.2 hc8
    refine lv_iconst (v := 0) hx hb dX3_asksCall_9 (by decide) ?_
    refine lv_goto (tgt := 14) hx hb dX3_asksCall_10 (by decide) ?_
    exact hj14 (0 : Int32) σ1 _ _ _ h2 hM3 (ml_sub hl [0] rfl)
def w_X3_state (y1 : Int32) (σ0 : mS) (Q : Int32 → mS → Prop) : Prop := w_X3_asksCall y1 σ0 (fun x4 σ1 => ((x4 = 0 → (Q (0 : Int32) σ1)) ∧ (¬ x4 = 0 → (∃ j6, y1 = nI j6 ∧ (j6 < 200 ∧ (Q (mI σ1 15 j6) σ1))))))
set_option maxRecDepth 100000 in
set_option maxHeartbeats 4000000 in
theorem c_X3_state (l : Launch) (G : mG) (ad : Nat → Nat) (y1 : Int32) (σ0 : mS) (Q : Int32 → mS → Prop) (h : w_X3_state y1 σ0 Q) : mKi l yX3_state cX3_state 2 3 64 G kdM ad σ0 [mV ad (some 0), .int y1] Q := by
  refine mr_start (lst := [(0, mV ad (some 0)), (1, .int y1)]) (by decide) (m_cR (m_cI m_c0)) rfl (Nat.le_of_ble_eq_true rfl) (fun p e s m below meth c C hM hr hlk ls hl => ?_)
  have hx := C.1.1
  have hb := C.1.2.1
  unfold w_X3_state at h
  refine mr_aload_n C dX3_state_0 rfl (ml_at hl 0 rfl) ?_
  refine lv_iload_n hx hb dX3_state_1 rfl (ml_at hl 1 rfl) ?_
  refine mr_ci hM (mr_runV (As := [.int y1]) C hM hl.1.1 (c_X3_asksCall l G ad y1 σ0 _ h) cw_X3_167 (mO_fix hM rfl (by decide) (by decide) (by decide)) rfl rfl (n := 1) ⟨rfl, by decide, by decide, by decide +kernel⟩ rfl rfl ⟨Nat.le_of_ble_eq_true rfl, Nat.le_of_ble_eq_true rfl⟩ m_c0 (Nat.le_of_ble_eq_true rfl) dX3_state_2 ⟨Nat.zero_le _, Nat.zero_le _⟩) (fun x4 σ1 H locs h2 hM3 => ?_)
  clear h hM
  obtain ⟨h2, hzx4⟩ := h2
  refine lv_if_eq (tgt := 17) hx hb dX3_state_5 (by decide) (fun hc5 => ?_) (fun hc5 => ?_)
  · replace h2 := h2.1 hc5
    refine lv_iconst (v := 0) hx hb dX3_state_17 (by decide) ?_
    exact mr_iret C hM3 hr hlk h2 dX3_state_18
  · replace h2 := h2.2 hc5
    refine mr_aload_n C dX3_state_8 rfl (ml_at hl 0 rfl) ?_
    refine fg_X3_52 (i := 0) C hM3 (mO_fix hM3 rfl (by decide) (by decide) (by decide)) dX3_state_9 ?_
    refine lv_iload_n hx hb dX3_state_12 rfl (ml_at hl 1 rfl) ?_
    obtain ⟨j6, ej7, ej7b, h2⟩ := h2
    refine mr_iald C hM3 (mB_fix hM3 rfl (by decide) (by decide) (by decide)) ej7 ej7b (by decide) dX3_state_13 ?_
    refine lv_goto (tgt := 18) hx hb dX3_state_14 (by decide) ?_
    exact mr_iret C hM3 hr hlk h2 dX3_state_18
def w_X3_origin (y1 : Int32) (σ0 : mS) (Q : Int32 → mS → Prop) : Prop := w_X3_asksCall y1 σ0 (fun x4 σ1 => ((x4 = 0 → (Q (0 : Int32) σ1)) ∧ (¬ x4 = 0 → (∃ j6, y1 = nI j6 ∧ (j6 < 200 ∧ (∃ j8, y1 = nI j8 ∧ (j8 < 200 ∧ (Q ((((1000 : Int32) * (mI σ1 12 j6)) + (mI σ1 14 j8)) + (1 : Int32)) σ1))))))))
set_option maxRecDepth 100000 in
set_option maxHeartbeats 4000000 in
theorem c_X3_origin (l : Launch) (G : mG) (ad : Nat → Nat) (y1 : Int32) (σ0 : mS) (Q : Int32 → mS → Prop) (h : w_X3_origin y1 σ0 Q) : mKi l yX3_origin cX3_origin 2 3 64 G kdM ad σ0 [mV ad (some 0), .int y1] Q := by
  refine mr_start (lst := [(0, mV ad (some 0)), (1, .int y1)]) (by decide) (m_cR (m_cI m_c0)) rfl (Nat.le_of_ble_eq_true rfl) (fun p e s m below meth c C hM hr hlk ls hl => ?_)
  have hx := C.1.1
  have hb := C.1.2.1
  unfold w_X3_origin at h
  refine mr_aload_n C dX3_origin_0 rfl (ml_at hl 0 rfl) ?_
  refine lv_iload_n hx hb dX3_origin_1 rfl (ml_at hl 1 rfl) ?_
  refine mr_ci hM (mr_runV (As := [.int y1]) C hM hl.1.1 (c_X3_asksCall l G ad y1 σ0 _ h) cw_X3_167 (mO_fix hM rfl (by decide) (by decide) (by decide)) rfl rfl (n := 1) ⟨rfl, by decide, by decide, by decide +kernel⟩ rfl rfl ⟨Nat.le_of_ble_eq_true rfl, Nat.le_of_ble_eq_true rfl⟩ m_c0 (Nat.le_of_ble_eq_true rfl) dX3_origin_2 ⟨Nat.zero_le _, Nat.zero_le _⟩) (fun x4 σ1 H locs h2 hM3 => ?_)
  clear h hM
  obtain ⟨h2, hzx4⟩ := h2
  refine lv_if_eq (tgt := 30) hx hb dX3_origin_5 (by decide) (fun hc5 => ?_) (fun hc5 => ?_)
  · replace h2 := h2.1 hc5
    refine lv_iconst (v := 0) hx hb dX3_origin_30 (by decide) ?_
    exact mr_iret C hM3 hr hlk h2 dX3_origin_31
  · replace h2 := h2.2 hc5
    refine lv_sipush (v := 1000) hx hb dX3_origin_8 (by decide) ?_
    refine mr_aload_n C dX3_origin_11 rfl (ml_at hl 0 rfl) ?_
    refine fg_X3_43 (i := 0) C hM3 (mO_fix hM3 rfl (by decide) (by decide) (by decide)) dX3_origin_12 ?_
    refine lv_iload_n hx hb dX3_origin_15 rfl (ml_at hl 1 rfl) ?_
    obtain ⟨j6, ej7, ej7b, h2⟩ := h2
    refine mr_iald C hM3 (mB_fix hM3 rfl (by decide) (by decide) (by decide)) ej7 ej7b (by decide) dX3_origin_16 ?_
    refine lv_imul hx hb dX3_origin_17 ?_
    refine mr_aload_n C dX3_origin_18 rfl (ml_at hl 0 rfl) ?_
    refine fg_X3_49 (i := 0) C hM3 (mO_fix hM3 rfl (by decide) (by decide) (by decide)) dX3_origin_19 ?_
    refine lv_iload_n hx hb dX3_origin_22 rfl (ml_at hl 1 rfl) ?_
    obtain ⟨j8, ej9, ej9b, h2⟩ := h2
    refine mr_iald C hM3 (mB_fix hM3 rfl (by decide) (by decide) (by decide)) ej9 ej9b (by decide) dX3_origin_23 ?_
    refine lv_iadd hx hb dX3_origin_24 ?_
    refine lv_iconst (v := 1) hx hb dX3_origin_25 (by decide) ?_
    refine lv_iadd hx hb dX3_origin_26 ?_
    refine lv_goto (tgt := 31) hx hb dX3_origin_27 (by decide) ?_
    exact mr_iret C hM3 hr hlk h2 dX3_origin_31
def w_X3_deadline (y1 : Int32) (σ0 : mS) (Q : Int32 → mS → Prop) : Prop := w_X3_asksCall y1 σ0 (fun x4 σ1 => ((x4 = 0 → (Q (0 : Int32) σ1)) ∧ (¬ x4 = 0 → (∃ j6, y1 = nI j6 ∧ (j6 < 200 ∧ (Q (mI σ1 13 j6) σ1))))))
set_option maxRecDepth 100000 in
set_option maxHeartbeats 4000000 in
theorem c_X3_deadline (l : Launch) (G : mG) (ad : Nat → Nat) (y1 : Int32) (σ0 : mS) (Q : Int32 → mS → Prop) (h : w_X3_deadline y1 σ0 Q) : mKi l yX3_deadline cX3_deadline 2 3 64 G kdM ad σ0 [mV ad (some 0), .int y1] Q := by
  refine mr_start (lst := [(0, mV ad (some 0)), (1, .int y1)]) (by decide) (m_cR (m_cI m_c0)) rfl (Nat.le_of_ble_eq_true rfl) (fun p e s m below meth c C hM hr hlk ls hl => ?_)
  have hx := C.1.1
  have hb := C.1.2.1
  unfold w_X3_deadline at h
  refine mr_aload_n C dX3_deadline_0 rfl (ml_at hl 0 rfl) ?_
  refine lv_iload_n hx hb dX3_deadline_1 rfl (ml_at hl 1 rfl) ?_
  refine mr_ci hM (mr_runV (As := [.int y1]) C hM hl.1.1 (c_X3_asksCall l G ad y1 σ0 _ h) cw_X3_167 (mO_fix hM rfl (by decide) (by decide) (by decide)) rfl rfl (n := 1) ⟨rfl, by decide, by decide, by decide +kernel⟩ rfl rfl ⟨Nat.le_of_ble_eq_true rfl, Nat.le_of_ble_eq_true rfl⟩ m_c0 (Nat.le_of_ble_eq_true rfl) dX3_deadline_2 ⟨Nat.zero_le _, Nat.zero_le _⟩) (fun x4 σ1 H locs h2 hM3 => ?_)
  clear h hM
  obtain ⟨h2, hzx4⟩ := h2
  refine lv_if_eq (tgt := 17) hx hb dX3_deadline_5 (by decide) (fun hc5 => ?_) (fun hc5 => ?_)
  · replace h2 := h2.1 hc5
    refine lv_iconst (v := 0) hx hb dX3_deadline_17 (by decide) ?_
    exact mr_iret C hM3 hr hlk h2 dX3_deadline_18
  · replace h2 := h2.2 hc5
    refine mr_aload_n C dX3_deadline_8 rfl (ml_at hl 0 rfl) ?_
    refine fg_X3_46 (i := 0) C hM3 (mO_fix hM3 rfl (by decide) (by decide) (by decide)) dX3_deadline_9 ?_
    refine lv_iload_n hx hb dX3_deadline_12 rfl (ml_at hl 1 rfl) ?_
    obtain ⟨j6, ej7, ej7b, h2⟩ := h2
    refine mr_iald C hM3 (mB_fix hM3 rfl (by decide) (by decide) (by decide)) ej7 ej7b (by decide) dX3_deadline_13 ?_
    refine lv_goto (tgt := 18) hx hb dX3_deadline_14 (by decide) ?_
    exact mr_iret C hM3 hr hlk h2 dX3_deadline_18
def w_X3_overAt (y1 : Int32) (σ0 : mS) (Q : Int32 → mS → Prop) : Prop := w_X3_asksCall y1 σ0 (fun x4 σ1 => ((x4 = 0 → (Q (0 : Int32) σ1)) ∧ (¬ x4 = 0 → (∃ j6, y1 = nI j6 ∧ (j6 < 200 ∧ (Q (mI σ1 17 j6) σ1))))))
set_option maxRecDepth 100000 in
set_option maxHeartbeats 4000000 in
theorem c_X3_overAt (l : Launch) (G : mG) (ad : Nat → Nat) (y1 : Int32) (σ0 : mS) (Q : Int32 → mS → Prop) (h : w_X3_overAt y1 σ0 Q) : mKi l yX3_overAt cX3_overAt 2 3 64 G kdM ad σ0 [mV ad (some 0), .int y1] Q := by
  refine mr_start (lst := [(0, mV ad (some 0)), (1, .int y1)]) (by decide) (m_cR (m_cI m_c0)) rfl (Nat.le_of_ble_eq_true rfl) (fun p e s m below meth c C hM hr hlk ls hl => ?_)
  have hx := C.1.1
  have hb := C.1.2.1
  unfold w_X3_overAt at h
  refine mr_aload_n C dX3_overAt_0 rfl (ml_at hl 0 rfl) ?_
  refine lv_iload_n hx hb dX3_overAt_1 rfl (ml_at hl 1 rfl) ?_
  refine mr_ci hM (mr_runV (As := [.int y1]) C hM hl.1.1 (c_X3_asksCall l G ad y1 σ0 _ h) cw_X3_167 (mO_fix hM rfl (by decide) (by decide) (by decide)) rfl rfl (n := 1) ⟨rfl, by decide, by decide, by decide +kernel⟩ rfl rfl ⟨Nat.le_of_ble_eq_true rfl, Nat.le_of_ble_eq_true rfl⟩ m_c0 (Nat.le_of_ble_eq_true rfl) dX3_overAt_2 ⟨Nat.zero_le _, Nat.zero_le _⟩) (fun x4 σ1 H locs h2 hM3 => ?_)
  clear h hM
  obtain ⟨h2, hzx4⟩ := h2
  refine lv_if_eq (tgt := 17) hx hb dX3_overAt_5 (by decide) (fun hc5 => ?_) (fun hc5 => ?_)
  · replace h2 := h2.1 hc5
    refine lv_iconst (v := 0) hx hb dX3_overAt_17 (by decide) ?_
    exact mr_iret C hM3 hr hlk h2 dX3_overAt_18
  · replace h2 := h2.2 hc5
    refine mr_aload_n C dX3_overAt_8 rfl (ml_at hl 0 rfl) ?_
    refine fg_X3_58 (i := 0) C hM3 (mO_fix hM3 rfl (by decide) (by decide) (by decide)) dX3_overAt_9 ?_
    refine lv_iload_n hx hb dX3_overAt_12 rfl (ml_at hl 1 rfl) ?_
    obtain ⟨j6, ej7, ej7b, h2⟩ := h2
    refine mr_iald C hM3 (mB_fix hM3 rfl (by decide) (by decide) (by decide)) ej7 ej7b (by decide) dX3_overAt_13 ?_
    refine lv_goto (tgt := 18) hx hb dX3_overAt_14 (by decide) ?_
    exact mr_iret C hM3 hr hlk h2 dX3_overAt_18
def w_X3_place (y1 : Int32) (σ0 : mS) (Q : Int32 → mS → Prop) : Prop := w_X3_asksCall y1 σ0 (fun x4 σ1 => ((¬ x4 = 0 → (∃ j6, y1 = nI j6 ∧ (j6 < 200 ∧ ((¬ (mI σ1 15 j6) = (2 : Int32) → (Q (-1 : Int32) σ1)) ∧ ((mI σ1 15 j6) = (2 : Int32) → (∃ j9, y1 = nI j9 ∧ (j9 < 200 ∧ (Q (mI σ1 22 j9) σ1)))))))) ∧ (x4 = 0 → (Q (0 : Int32) σ1))))
set_option maxRecDepth 100000 in
set_option maxHeartbeats 4000000 in
theorem c_X3_place (l : Launch) (G : mG) (ad : Nat → Nat) (y1 : Int32) (σ0 : mS) (Q : Int32 → mS → Prop) (h : w_X3_place y1 σ0 Q) : mKi l yX3_place cX3_place 2 3 64 G kdM ad σ0 [mV ad (some 0), .int y1] Q := by
  refine mr_start (lst := [(0, mV ad (some 0)), (1, .int y1)]) (by decide) (m_cR (m_cI m_c0)) rfl (Nat.le_of_ble_eq_true rfl) (fun p e s m below meth c C hM hr hlk ls hl => ?_)
  have hx := C.1.1
  have hb := C.1.2.1
  unfold w_X3_place at h
  refine mr_aload_n C dX3_place_0 rfl (ml_at hl 0 rfl) ?_
  refine lv_iload_n hx hb dX3_place_1 rfl (ml_at hl 1 rfl) ?_
  refine mr_ci hM (mr_runV (As := [.int y1]) C hM hl.1.1 (c_X3_asksCall l G ad y1 σ0 _ h) cw_X3_167 (mO_fix hM rfl (by decide) (by decide) (by decide)) rfl rfl (n := 1) ⟨rfl, by decide, by decide, by decide +kernel⟩ rfl rfl ⟨Nat.le_of_ble_eq_true rfl, Nat.le_of_ble_eq_true rfl⟩ m_c0 (Nat.le_of_ble_eq_true rfl) dX3_place_2 ⟨Nat.zero_le _, Nat.zero_le _⟩) (fun x4 σ1 H locs h2 hM3 => ?_)
  clear h hM
  obtain ⟨h2, hzx4⟩ := h2
  refine lv_if_ne (tgt := 12) hx hb dX3_place_5 (by decide) (fun hc5 => ?_) (fun hc5 => ?_)
  · replace h2 := h2.1 hc5
    refine mr_aload_n C dX3_place_12 rfl (ml_at hl 0 rfl) ?_
    refine fg_X3_52 (i := 0) C hM3 (mO_fix hM3 rfl (by decide) (by decide) (by decide)) dX3_place_13 ?_
    refine lv_iload_n hx hb dX3_place_16 rfl (ml_at hl 1 rfl) ?_
    obtain ⟨j6, ej7, ej7b, h2⟩ := h2
    refine mr_iald C hM3 (mB_fix hM3 rfl (by decide) (by decide) (by decide)) ej7 ej7b (by decide) dX3_place_17 ?_
    refine lv_iconst (v := 2) hx hb dX3_place_18 (by decide) ?_
    refine lv_icmp_ne (tgt := 31) hx hb dX3_place_19 (by decide) (fun hc8 => ?_) (fun hc8 => ?_)
    · replace h2 := h2.1 hc8
      refine lv_iconst (v := -1) hx hb dX3_place_31 (by decide) ?_
      exact mr_iret C hM3 hr hlk h2 dX3_place_32
    · replace h2 := h2.2 hc8
      refine mr_aload_n C dX3_place_22 rfl (ml_at hl 0 rfl) ?_
      refine fg_X3_73 (i := 0) C hM3 (mO_fix hM3 rfl (by decide) (by decide) (by decide)) dX3_place_23 ?_
      refine lv_iload_n hx hb dX3_place_26 rfl (ml_at hl 1 rfl) ?_
      obtain ⟨j9, ej10, ej10b, h2⟩ := h2
      refine mr_iald C hM3 (mB_fix hM3 rfl (by decide) (by decide) (by decide)) ej10 ej10b (by decide) dX3_place_27 ?_
      refine lv_goto (tgt := 32) hx hb dX3_place_28 (by decide) ?_
      exact mr_iret C hM3 hr hlk h2 dX3_place_32
  · replace h2 := h2.2 hc5
    refine lv_iconst (v := 0) hx hb dX3_place_8 (by decide) ?_
    refine lv_goto (tgt := 32) hx hb dX3_place_9 (by decide) ?_
    exact mr_iret C hM3 hr hlk h2 dX3_place_32
def w_X3_isBelow (y1 : Int32) (y2 : Int32) (σ0 : mS) (Q : Int32 → mS → Prop) : Prop := (∃ j1, y1 = nI j1 ∧ (j1 < 200 ∧ (∃ I7 : Nat → Int32 → mS → Prop, (∀ (n7 : Nat) (x3_7 : Int32) (σ_7 : mS), I7 n7 x3_7 σ_7 → ((x3_7 ≤ y2 → ((¬ x3_7 = y2 → (Q (0 : Int32) σ_7)) ∧ (x3_7 = y2 → (Q (1 : Int32) σ_7)))) ∧ (¬ x3_7 ≤ y2 → (∃ j6, x3_7 = nI j6 ∧ (j6 < 200 ∧ (∃ k9, k9 < n7 ∧ I7 k9 (mI σ_7 14 j6) σ_7)))))) ∧ ∃ n, I7 n (mI σ0 14 j1) σ0)))
set_option maxRecDepth 100000 in
set_option maxHeartbeats 4000000 in
theorem c_X3_isBelow (l : Launch) (G : mG) (ad : Nat → Nat) (y1 : Int32) (y2 : Int32) (σ0 : mS) (Q : Int32 → mS → Prop) (h : w_X3_isBelow y1 y2 σ0 Q) : mKz l yX3_isBelow cX3_isBelow 4 0 0 G kdM ad σ0 [mV ad (some 0), .int y1, .int y2] Q := by
  refine mr_start (lst := [(0, mV ad (some 0)), (1, .int y1), (2, .int y2)]) (by decide) (m_cR (m_cI (m_cI m_c0))) rfl (Nat.le_of_ble_eq_true rfl) (fun p e s m below meth c C hM hr hlk ls hl => ?_)
  have hx := C.1.1
  have hb := C.1.2.1
  unfold w_X3_isBelow at h
  refine mr_aload_n C dX3_isBelow_0 rfl (ml_at hl 0 rfl) ?_
  refine fg_X3_49 (i := 0) C hM (mO_fix hM rfl (by decide) (by decide) (by decide)) dX3_isBelow_1 ?_
  refine lv_iload_n hx hb dX3_isBelow_4 rfl (ml_at hl 1 rfl) ?_
  obtain ⟨j1, ej2, ej2b, h⟩ := h
  refine mr_iald C hM (mB_fix hM rfl (by decide) (by decide) (by decide)) ej2 ej2b (by decide) dX3_isBelow_5 ?_
  refine mr_istore_n (lv' := [(3, .int (mI σ0 14 j1)), (0, mV ad (some 0)), (1, .int y1), (2, .int y2)]) C hl dX3_isBelow_6 rfl (by decide) rfl (fun ls hl3 => ?_)
  clear hl
  obtain ⟨I7, hI7, nn7, h⟩ := h
  have hL7 : ∀ (n7 : Nat) (x3_7 : Int32) (σ_7 : mS) (H : Heap) (locs : List Loc) (ls : Array Slot), I7 n7 x3_7 σ_7 → mM G kdM ad s σ_7 H locs → ml_has ls 4 [(0, mV ad (some 0)), (2, .int y2), (3, .int x3_7)] → W p l e (mRm 0 0) s m ([mV ad (some 0), .int y1, .int y2] : List Value).toArray below meth c H locs 0 0 (MQ below (va_Qi (fun r u => Q r u ∧ narrow .boolean (.int r) = .int r) (mPost G kdM ad) (mA ad)) ([mV ad (some 0), .int y1, .int y2] : List Value).toArray s 0 0 (mA ad)) (F0 m 7 ls []) := by
    refine m_loop (fun n7 ih7 => ?_)
    intro x3_7 σ_7 H locs ls h_7 hM_7 hl_7
    replace h_7 := hI7 n7 x3_7 σ_7 h_7
    refine lv_iload_n hx hb dX3_isBelow_7 rfl (ml_at hl_7 2 rfl) ?_
    refine lv_iload_n hx hb dX3_isBelow_8 rfl (ml_at hl_7 1 rfl) ?_
    refine lv_icmp_le (tgt := 22) hx hb dX3_isBelow_9 (by decide) (fun hc4 => ?_) (fun hc4 => ?_)
    · replace h_7 := h_7.1 hc4
      refine lv_iload_n hx hb dX3_isBelow_22 rfl (ml_at hl_7 2 rfl) ?_
      refine lv_iload_n hx hb dX3_isBelow_23 rfl (ml_at hl_7 1 rfl) ?_
      refine lv_icmp_ne (tgt := 31) hx hb dX3_isBelow_24 (by decide) (fun hc5 => ?_) (fun hc5 => ?_)
      · replace h_7 := h_7.1 hc5
        refine lv_iconst (v := 0) hx hb dX3_isBelow_31 (by decide) ?_
        exact mr_zret C hM_7 hr hlk rfl h_7 dX3_isBelow_32
      · replace h_7 := h_7.2 hc5
        refine lv_iconst (v := 1) hx hb dX3_isBelow_27 (by decide) ?_
        refine lv_goto (tgt := 32) hx hb dX3_isBelow_28 (by decide) ?_
        exact mr_zret C hM_7 hr hlk rfl h_7 dX3_isBelow_32
    · replace h_7 := h_7.2 hc4
      refine mr_aload_n C dX3_isBelow_12 rfl (ml_at hl_7 0 rfl) ?_
      refine fg_X3_49 (i := 0) C hM_7 (mO_fix hM_7 rfl (by decide) (by decide) (by decide)) dX3_isBelow_13 ?_
      refine lv_iload_n hx hb dX3_isBelow_16 rfl (ml_at hl_7 2 rfl) ?_
      obtain ⟨j6, ej7, ej7b, h_7⟩ := h_7
      refine mr_iald C hM_7 (mB_fix hM_7 rfl (by decide) (by decide) (by decide)) ej7 ej7b (by decide) dX3_isBelow_17 ?_
      refine mr_istore_n (lv' := [(3, .int (mI σ_7 14 j6)), (0, mV ad (some 0)), (2, .int y2)]) C hl_7 dX3_isBelow_18 rfl (by decide) rfl (fun ls hl8 => ?_)
      clear hl_7
      refine lv_goto (tgt := 7) hx hb dX3_isBelow_19 (by decide) ?_
      obtain ⟨k9, hk9, h_7⟩ := h_7
      exact ih7 k9 hk9 (mI σ_7 14 j6) σ_7 _ _ _ h_7 hM_7 (ml_sub hl8 [1, 2, 0] rfl)
  exact hL7 nn7 (mI σ0 14 j1) σ0 _ _ _ h hM (ml_sub hl3 [1, 3, 0] rfl)
def w_X3_below (y1 : Int32) (σ0 : mS) (Q : Int32 → mS → Prop) : Prop := w_X3_asksCall y1 σ0 (fun x5 σ2 => ((x5 = 0 → (Q (0 : Int32) σ2)) ∧ (¬ x5 = 0 → (∃ I14 : Nat → Int32 → Int32 → mS → Prop, (∀ (n14 : Nat) (x2_14 : Int32) (x3_14 : Int32) (σ_14 : mS), I14 n14 x2_14 x3_14 σ_14 → (((mI σ_14 0 13) ≤ x3_14 → (Q x2_14 σ_14)) ∧ (¬ (mI σ_14 0 13) ≤ x3_14 → w_X3_isOver x3_14 σ_14 (fun x12 σ9 => ((¬ x12 = 0 → (∃ k16, k16 < n14 ∧ I14 k16 (x2_14 + (0 : Int32)) (x3_14 + 1) σ9)) ∧ (x12 = 0 → w_X3_isBelow x3_14 y1 σ9 (fun x20 σ17 => ((x20 = 0 → (∃ k24, k24 < n14 ∧ I14 k24 (x2_14 + (0 : Int32)) (x3_14 + 1) σ17)) ∧ (¬ x20 = 0 → (∃ k27, k27 < n14 ∧ I14 k27 (x2_14 + (1 : Int32)) (x3_14 + 1) σ17)))))))))) ∧ ∃ n, I14 n (0 : Int32) (y1 + (1 : Int32)) σ2))))
set_option maxRecDepth 100000 in
set_option maxHeartbeats 4000000 in
theorem c_X3_below (l : Launch) (G : mG) (ad : Nat → Nat) (y1 : Int32) (σ0 : mS) (Q : Int32 → mS → Prop) (h : w_X3_below y1 σ0 Q) : mKi l yX3_below cX3_below 4 3 64 G kdM ad σ0 [mV ad (some 0), .int y1] Q := by
  refine mr_start (lst := [(0, mV ad (some 0)), (1, .int y1)]) (by decide) (m_cR (m_cI m_c0)) rfl (Nat.le_of_ble_eq_true rfl) (fun p e s m below meth c C hM hr hlk ls hl => ?_)
  have hx := C.1.1
  have hb := C.1.2.1
  unfold w_X3_below at h
  refine lv_iconst (v := 0) hx hb dX3_below_0 (by decide) ?_
  refine mr_istore_n (lv' := [(2, .int (0 : Int32)), (0, mV ad (some 0)), (1, .int y1)]) C hl dX3_below_1 rfl (by decide) rfl (fun ls hl1 => ?_)
  clear hl
  refine mr_aload_n C dX3_below_2 rfl (ml_at hl1 1 rfl) ?_
  refine lv_iload_n hx hb dX3_below_3 rfl (ml_at hl1 2 rfl) ?_
  refine mr_ci hM (mr_runV (As := [.int y1]) C hM hl1.1.1 (c_X3_asksCall l G ad y1 σ0 _ h) cw_X3_167 (mO_fix hM rfl (by decide) (by decide) (by decide)) rfl rfl (n := 1) ⟨rfl, by decide, by decide, by decide +kernel⟩ rfl rfl ⟨Nat.le_of_ble_eq_true rfl, Nat.le_of_ble_eq_true rfl⟩ m_c0 (Nat.le_of_ble_eq_true rfl) dX3_below_4 ⟨Nat.zero_le _, Nat.zero_le _⟩) (fun x5 σ2 H locs h3 hM4 => ?_)
  clear h hM
  obtain ⟨h3, hzx5⟩ := h3
  refine lv_if_eq (tgt := 53) hx hb dX3_below_7 (by decide) (fun hc6 => ?_) (fun hc6 => ?_)
  · replace h3 := h3.1 hc6
    refine lv_iload_n hx hb dX3_below_53 rfl (ml_at hl1 0 rfl) ?_
    exact mr_iret C hM4 hr hlk h3 dX3_below_54
  · replace h3 := h3.2 hc6
    refine lv_iload_n hx hb dX3_below_10 rfl (ml_at hl1 2 rfl) ?_
    refine lv_iconst (v := 1) hx hb dX3_below_11 (by decide) ?_
    refine lv_iadd hx hb dX3_below_12 ?_
    refine mr_istore_n (lv' := [(3, .int (y1 + (1 : Int32))), (2, .int (0 : Int32)), (0, mV ad (some 0)), (1, .int y1)]) C hl1 dX3_below_13 rfl (by decide) rfl (fun ls hl7 => ?_)
    clear hl1
    obtain ⟨I14, hI14, nn14, h3⟩ := h3
    have hL14 : ∀ (n14 : Nat) (x2_14 : Int32) (x3_14 : Int32) (σ_14 : mS) (H : Heap) (locs : List Loc) (ls : Array Slot), I14 n14 x2_14 x3_14 σ_14 → mM G kdM ad s σ_14 H locs → ml_has ls 4 [(0, mV ad (some 0)), (1, .int y1), (2, .int x2_14), (3, .int x3_14)] → W p l e (mRm 3 64) s m ([mV ad (some 0), .int y1] : List Value).toArray below meth c H locs 0 0 (MQ below (va_Qi Q (mPost G kdM ad) (mA ad)) ([mV ad (some 0), .int y1] : List Value).toArray s 0 0 (mA ad)) (F0 m 14 ls []) := by
      refine m_loop (fun n14 ih14 => ?_)
      intro x2_14 x3_14 σ_14 H locs ls h_14 hM_14 hl_14
      replace h_14 := hI14 n14 x2_14 x3_14 σ_14 h_14
      refine lv_iload_n hx hb dX3_below_14 rfl (ml_at hl_14 3 rfl) ?_
      refine mr_aload_n C dX3_below_15 rfl (ml_at hl_14 0 rfl) ?_
      refine fg_X3_94 C hM_14 (mO_fix hM_14 rfl (by decide) (by decide) (by decide)) dX3_below_16 ?_
      refine lv_icmp_ge (tgt := 53) hx hb dX3_below_19 (by decide) (fun hc8 => ?_) (fun hc8 => ?_)
      · replace h_14 := h_14.1 hc8
        refine lv_iload_n hx hb dX3_below_53 rfl (ml_at hl_14 2 rfl) ?_
        exact mr_iret C hM_14 hr hlk h_14 dX3_below_54
      · replace h_14 := h_14.2 hc8
        refine lv_iload_n hx hb dX3_below_22 rfl (ml_at hl_14 2 rfl) ?_
        refine mr_aload_n C dX3_below_23 rfl (ml_at hl_14 0 rfl) ?_
        refine lv_iload_n hx hb dX3_below_24 rfl (ml_at hl_14 3 rfl) ?_
        refine mr_ci hM_14 (mr_runV (As := [.int x3_14]) C hM_14 hl_14.1.1 (c_X3_isOver l G ad x3_14 σ_14 _ h_14) cw_X3_104 (mO_fix hM_14 rfl (by decide) (by decide) (by decide)) rfl rfl (n := 1) ⟨rfl, by decide, by decide, by decide +kernel⟩ rfl rfl ⟨Nat.le_of_ble_eq_true rfl, Nat.le_of_ble_eq_true rfl⟩ (m_cI m_c0) (Nat.le_of_ble_eq_true rfl) dX3_below_25 ⟨Nat.zero_le _, Nat.zero_le _⟩) (fun x12 σ9 H locs h10 hM11 => ?_)
        clear h_14 hM_14
        obtain ⟨h10, hzx12⟩ := h10
        refine lv_if_ne (tgt := 44) hx hb dX3_below_28 (by decide) (fun hc13 => ?_) (fun hc13 => ?_)
        · replace h10 := h10.1 hc13
          refine lv_iconst (v := 0) hx hb dX3_below_44 (by decide) ?_
          refine lv_iadd hx hb dX3_below_45 ?_
          refine mr_istore_n (lv' := [(2, .int (x2_14 + (0 : Int32))), (0, mV ad (some 0)), (1, .int y1), (3, .int x3_14)]) C hl_14 dX3_below_46 rfl (by decide) rfl (fun ls hl14 => ?_)
          clear hl_14
          refine mr_iinc (v := (x3_14 + 1)) (lv' := [(3, .int (x3_14 + 1)), (2, .int (x2_14 + (0 : Int32))), (0, mV ad (some 0)), (1, .int y1)]) C hl14 dX3_below_47 (k := 3) rfl rfl (by decide) rfl (fun ls hl15 => ?_)
          clear hl14
          refine lv_goto (tgt := 14) hx hb dX3_below_50 (by decide) ?_
          obtain ⟨k16, hk16, h10⟩ := h10
          exact ih14 k16 hk16 (x2_14 + (0 : Int32)) (x3_14 + 1) σ9 _ _ _ h10 hM11 (ml_sub hl15 [2, 3, 1, 0] rfl)
        · replace h10 := h10.2 hc13
          refine mr_aload_n C dX3_below_31 rfl (ml_at hl_14 0 rfl) ?_
          refine lv_iload_n hx hb dX3_below_32 rfl (ml_at hl_14 3 rfl) ?_
          refine lv_iload_n hx hb dX3_below_33 rfl (ml_at hl_14 1 rfl) ?_
          refine mr_ci hM11 (mr_runV (As := [.int x3_14, .int y1]) C hM11 hl_14.1.1 (c_X3_isBelow l G ad x3_14 y1 σ9 _ h10) cw_X3_170 (mO_fix hM11 rfl (by decide) (by decide) (by decide)) rfl rfl (n := 2) ⟨rfl, by decide, by decide, by decide +kernel⟩ rfl rfl ⟨Nat.le_of_ble_eq_true rfl, Nat.le_of_ble_eq_true rfl⟩ (m_cI m_c0) (Nat.le_of_ble_eq_true rfl) dX3_below_34 ⟨Nat.zero_le _, Nat.zero_le _⟩) (fun x20 σ17 H locs h18 hM19 => ?_)
          clear h10 hM11
          obtain ⟨h18, hzx20⟩ := h18
          refine lv_if_eq (tgt := 44) hx hb dX3_below_37 (by decide) (fun hc21 => ?_) (fun hc21 => ?_)
          · replace h18 := h18.1 hc21
            refine lv_iconst (v := 0) hx hb dX3_below_44 (by decide) ?_
            refine lv_iadd hx hb dX3_below_45 ?_
            refine mr_istore_n (lv' := [(2, .int (x2_14 + (0 : Int32))), (0, mV ad (some 0)), (1, .int y1), (3, .int x3_14)]) C hl_14 dX3_below_46 rfl (by decide) rfl (fun ls hl22 => ?_)
            clear hl_14
            refine mr_iinc (v := (x3_14 + 1)) (lv' := [(3, .int (x3_14 + 1)), (2, .int (x2_14 + (0 : Int32))), (0, mV ad (some 0)), (1, .int y1)]) C hl22 dX3_below_47 (k := 3) rfl rfl (by decide) rfl (fun ls hl23 => ?_)
            clear hl22
            refine lv_goto (tgt := 14) hx hb dX3_below_50 (by decide) ?_
            obtain ⟨k24, hk24, h18⟩ := h18
            exact ih14 k24 hk24 (x2_14 + (0 : Int32)) (x3_14 + 1) σ17 _ _ _ h18 hM19 (ml_sub hl23 [2, 3, 1, 0] rfl)
          · replace h18 := h18.2 hc21
            refine lv_iconst (v := 1) hx hb dX3_below_40 (by decide) ?_
            refine lv_goto (tgt := 45) hx hb dX3_below_41 (by decide) ?_
            refine lv_iadd hx hb dX3_below_45 ?_
            refine mr_istore_n (lv' := [(2, .int (x2_14 + (1 : Int32))), (0, mV ad (some 0)), (1, .int y1), (3, .int x3_14)]) C hl_14 dX3_below_46 rfl (by decide) rfl (fun ls hl25 => ?_)
            clear hl_14
            refine mr_iinc (v := (x3_14 + 1)) (lv' := [(3, .int (x3_14 + 1)), (2, .int (x2_14 + (1 : Int32))), (0, mV ad (some 0)), (1, .int y1)]) C hl25 dX3_below_47 (k := 3) rfl rfl (by decide) rfl (fun ls hl26 => ?_)
            clear hl25
            refine lv_goto (tgt := 14) hx hb dX3_below_50 (by decide) ?_
            obtain ⟨k27, hk27, h18⟩ := h18
            exact ih14 k27 hk27 (x2_14 + (1 : Int32)) (x3_14 + 1) σ17 _ _ _ h18 hM19 (ml_sub hl26 [2, 3, 1, 0] rfl)
    exact hL14 nn14 (0 : Int32) (y1 + (1 : Int32)) σ2 _ _ _ h3 hM4 (ml_sub hl7 [2, 3, 1, 0] rfl)
def w_X3_queuedAt (y1 : Int32) (y2 : Int32) (σ0 : mS) (Q : Int32 → mS → Prop) : Prop := w_X3_isService y1 σ0 (fun x4 σ1 => ((x4 = 0 → (∀ σ7, σ7 = sI σ1 0 0 (1 : Int32) → (∃ I40 : Nat → Int32 → Int32 → Int32 → mS → Prop, (∀ (n40 : Nat) (x3_40 : Int32) (x4_40 : Int32) (x5_40 : Int32) (σ_40 : mS), I40 n40 x3_40 x4_40 x5_40 σ_40 → (((mI σ_40 0 13) ≤ x5_40 → (Q x3_40 σ_40)) ∧ (¬ (mI σ_40 0 13) ≤ x5_40 → ((¬ (mI σ_40 0 0) = 0 → (Q x3_40 σ_40)) ∧ ((mI σ_40 0 0) = 0 → (∃ j13, x5_40 = nI j13 ∧ (j13 < 200 ∧ (∃ J82 : Int32 → mS → Prop, (∀ (xk0_82 : Int32) (σ_82 : mS), J82 xk0_82 σ_82 → (∃ J101 : Int32 → mS → Prop, (∀ (xk0_101 : Int32) (σ_101 : mS), J101 xk0_101 σ_101 → ((xk0_82 = 0 → (∃ k20, k20 < n40 ∧ I40 k20 xk0_101 (x4_40 + (0 : Int32)) (x5_40 + 1) σ_101)) ∧ (¬ xk0_82 = 0 → (∃ k23, k23 < n40 ∧ I40 k23 xk0_101 (x4_40 + (1 : Int32)) (x5_40 + 1) σ_101)))) ∧ (∃ J100 : mS → Prop, (∀  (σ_100 : mS), J100  σ_100 → (J101 x3_40 σ_100)) ∧ ((xk0_82 = 0 → (J100  σ_82)) ∧ (¬ xk0_82 = 0 → ((¬ x4_40 = y2 → (J100  σ_82)) ∧ (x4_40 = y2 → (J101 x5_40 σ_82)))))))) ∧ (∃ J81 : mS → Prop, (∀  (σ_81 : mS), J81  σ_81 → (J82 (0 : Int32) σ_81)) ∧ ((¬ (mI σ_40 12 j13) = y1 → (J81  σ_40)) ∧ ((mI σ_40 12 j13) = y1 → (∃ j27, x5_40 = nI j27 ∧ (j27 < 200 ∧ ((¬ (mI σ_40 15 j27) = 0 → (J81  σ_40)) ∧ ((mI σ_40 15 j27) = 0 → (J82 (1 : Int32) σ_40)))))))))))))))) ∧ ∃ n, I40 n (0 : Int32) (0 : Int32) (0 : Int32) σ7))) ∧ (¬ x4 = 0 → w_X3_manyOf y1 (0 : Int32) σ1 (fun x33 σ30 => w_X3_in y2 (0 : Int32) (x33 - (1 : Int32)) σ30 (fun x37 σ34 => ((x37 = 0 → (∀ σ40, σ40 = sI σ34 0 0 (1 : Int32) → (∃ I40 : Nat → Int32 → Int32 → Int32 → mS → Prop, (∀ (n40 : Nat) (x3_40 : Int32) (x4_40 : Int32) (x5_40 : Int32) (σ_40 : mS), I40 n40 x3_40 x4_40 x5_40 σ_40 → (((mI σ_40 0 13) ≤ x5_40 → (Q x3_40 σ_40)) ∧ (¬ (mI σ_40 0 13) ≤ x5_40 → ((¬ (mI σ_40 0 0) = 0 → (Q x3_40 σ_40)) ∧ ((mI σ_40 0 0) = 0 → (∃ j46, x5_40 = nI j46 ∧ (j46 < 200 ∧ (∃ J82 : Int32 → mS → Prop, (∀ (xk0_82 : Int32) (σ_82 : mS), J82 xk0_82 σ_82 → (∃ J101 : Int32 → mS → Prop, (∀ (xk0_101 : Int32) (σ_101 : mS), J101 xk0_101 σ_101 → ((xk0_82 = 0 → (∃ k53, k53 < n40 ∧ I40 k53 xk0_101 (x4_40 + (0 : Int32)) (x5_40 + 1) σ_101)) ∧ (¬ xk0_82 = 0 → (∃ k56, k56 < n40 ∧ I40 k56 xk0_101 (x4_40 + (1 : Int32)) (x5_40 + 1) σ_101)))) ∧ (∃ J100 : mS → Prop, (∀  (σ_100 : mS), J100  σ_100 → (J101 x3_40 σ_100)) ∧ ((xk0_82 = 0 → (J100  σ_82)) ∧ (¬ xk0_82 = 0 → ((¬ x4_40 = y2 → (J100  σ_82)) ∧ (x4_40 = y2 → (J101 x5_40 σ_82)))))))) ∧ (∃ J81 : mS → Prop, (∀  (σ_81 : mS), J81  σ_81 → (J82 (0 : Int32) σ_81)) ∧ ((¬ (mI σ_40 12 j46) = y1 → (J81  σ_40)) ∧ ((mI σ_40 12 j46) = y1 → (∃ j60, x5_40 = nI j60 ∧ (j60 < 200 ∧ ((¬ (mI σ_40 15 j60) = 0 → (J81  σ_40)) ∧ ((mI σ_40 15 j60) = 0 → (J82 (1 : Int32) σ_40)))))))))))))))) ∧ ∃ n, I40 n (0 : Int32) (0 : Int32) (0 : Int32) σ40))) ∧ (¬ x37 = 0 → (∀ σ64, σ64 = sI σ34 0 0 (0 : Int32) → (∃ I40 : Nat → Int32 → Int32 → Int32 → mS → Prop, (∀ (n40 : Nat) (x3_40 : Int32) (x4_40 : Int32) (x5_40 : Int32) (σ_40 : mS), I40 n40 x3_40 x4_40 x5_40 σ_40 → (((mI σ_40 0 13) ≤ x5_40 → (Q x3_40 σ_40)) ∧ (¬ (mI σ_40 0 13) ≤ x5_40 → ((¬ (mI σ_40 0 0) = 0 → (Q x3_40 σ_40)) ∧ ((mI σ_40 0 0) = 0 → (∃ j70, x5_40 = nI j70 ∧ (j70 < 200 ∧ (∃ J82 : Int32 → mS → Prop, (∀ (xk0_82 : Int32) (σ_82 : mS), J82 xk0_82 σ_82 → (∃ J101 : Int32 → mS → Prop, (∀ (xk0_101 : Int32) (σ_101 : mS), J101 xk0_101 σ_101 → ((xk0_82 = 0 → (∃ k77, k77 < n40 ∧ I40 k77 xk0_101 (x4_40 + (0 : Int32)) (x5_40 + 1) σ_101)) ∧ (¬ xk0_82 = 0 → (∃ k80, k80 < n40 ∧ I40 k80 xk0_101 (x4_40 + (1 : Int32)) (x5_40 + 1) σ_101)))) ∧ (∃ J100 : mS → Prop, (∀  (σ_100 : mS), J100  σ_100 → (J101 x3_40 σ_100)) ∧ ((xk0_82 = 0 → (J100  σ_82)) ∧ (¬ xk0_82 = 0 → ((¬ x4_40 = y2 → (J100  σ_82)) ∧ (x4_40 = y2 → (J101 x5_40 σ_82)))))))) ∧ (∃ J81 : mS → Prop, (∀  (σ_81 : mS), J81  σ_81 → (J82 (0 : Int32) σ_81)) ∧ ((¬ (mI σ_40 12 j70) = y1 → (J81  σ_40)) ∧ ((mI σ_40 12 j70) = y1 → (∃ j84, x5_40 = nI j84 ∧ (j84 < 200 ∧ ((¬ (mI σ_40 15 j84) = 0 → (J81  σ_40)) ∧ ((mI σ_40 15 j84) = 0 → (J82 (1 : Int32) σ_40)))))))))))))))) ∧ ∃ n, I40 n (0 : Int32) (0 : Int32) (0 : Int32) σ64)))))))))
set_option maxRecDepth 100000 in
set_option maxHeartbeats 4000000 in
theorem c_X3_queuedAt (l : Launch) (G : mG) (ad : Nat → Nat) (y1 : Int32) (y2 : Int32) (σ0 : mS) (Q : Int32 → mS → Prop) (h : w_X3_queuedAt y1 y2 σ0 Q) : mKi l yX3_queuedAt cX3_queuedAt 7 2 42 G kdM ad σ0 [mV ad (some 0), .int y1, .int y2] Q := by
  refine mr_start (lst := [(0, mV ad (some 0)), (1, .int y1), (2, .int y2)]) (by decide) (m_cR (m_cI (m_cI m_c0))) rfl (Nat.le_of_ble_eq_true rfl) (fun p e s m below meth c C hM hr hlk ls hl => ?_)
  have hx := C.1.1
  have hb := C.1.2.1
  unfold w_X3_queuedAt at h
  refine mr_aload_n C dX3_queuedAt_0 rfl (ml_at hl 0 rfl) ?_
  refine lv_iload_n hx hb dX3_queuedAt_1 rfl (ml_at hl 1 rfl) ?_
  refine mr_ci hM (mr_runS (As := [.int y1]) C hM hl.1.1 (c_X3_isService l G ad y1 σ0 _ h) cw_X3_97 (n := 1) ⟨rfl, by decide, by decide, by decide +kernel⟩ rfl rfl ⟨Nat.le_of_ble_eq_true rfl, Nat.le_of_ble_eq_true rfl⟩ (m_cR m_c0) (Nat.le_of_ble_eq_true rfl) dX3_queuedAt_2 ⟨Nat.zero_le _, Nat.zero_le _⟩) (fun x4 σ1 H locs h2 hM3 => ?_)
  clear h hM
  obtain ⟨h2, hzx4⟩ := h2
  refine lv_if_eq (tgt := 28) hx hb dX3_queuedAt_5 (by decide) (fun hc5 => ?_) (fun hc5 => ?_)
  · replace h2 := h2.1 hc5
    refine lv_iconst (v := 1) hx hb dX3_queuedAt_28 (by decide) ?_
    refine fp_X3_86 C hM3 (mO_fix hM3 rfl (by decide) (by decide) (by decide)) dX3_queuedAt_29 (1 : Int32) (fun H locs hM6 => ?_)
    clear hM3
    obtain ⟨σ7, eσ7⟩ : ∃ y, y = sI σ1 0 0 (1 : Int32) := ⟨_, rfl⟩
    rw [← eσ7] at hM6
    replace h2 := h2 σ7 eσ7
    refine lv_iconst (v := 0) hx hb dX3_queuedAt_32 (by decide) ?_
    refine mr_istore_n (lv' := [(3, .int (0 : Int32)), (0, mV ad (some 0)), (1, .int y1), (2, .int y2)]) C hl dX3_queuedAt_33 rfl (by decide) rfl (fun ls hl8 => ?_)
    clear hl
    refine lv_iconst (v := 0) hx hb dX3_queuedAt_34 (by decide) ?_
    refine mr_istore (lv' := [(4, .int (0 : Int32)), (3, .int (0 : Int32)), (0, mV ad (some 0)), (1, .int y1), (2, .int y2)]) C hl8 dX3_queuedAt_35 (by decide) rfl (fun ls hl9 => ?_)
    clear hl8
    refine lv_iconst (v := 0) hx hb dX3_queuedAt_37 (by decide) ?_
    refine mr_istore (lv' := [(5, .int (0 : Int32)), (4, .int (0 : Int32)), (3, .int (0 : Int32)), (0, mV ad (some 0)), (1, .int y1), (2, .int y2)]) C hl9 dX3_queuedAt_38 (by decide) rfl (fun ls hl10 => ?_)
    clear hl9
    obtain ⟨I40, hI40, nn40, h2⟩ := h2
    have hL40 : ∀ (n40 : Nat) (x3_40 : Int32) (x4_40 : Int32) (x5_40 : Int32) (σ_40 : mS) (H : Heap) (locs : List Loc) (ls : Array Slot), I40 n40 x3_40 x4_40 x5_40 σ_40 → mM G kdM ad s σ_40 H locs → ml_has ls 7 [(0, mV ad (some 0)), (1, .int y1), (2, .int y2), (3, .int x3_40), (4, .int x4_40), (5, .int x5_40)] → W p l e (mRm 2 42) s m ([mV ad (some 0), .int y1, .int y2] : List Value).toArray below meth c H locs 0 0 (MQ below (va_Qi Q (mPost G kdM ad) (mA ad)) ([mV ad (some 0), .int y1, .int y2] : List Value).toArray s 0 0 (mA ad)) (F0 m 40 ls []) := by
      refine m_loop (fun n40 ih40 => ?_)
      intro x3_40 x4_40 x5_40 σ_40 H locs ls h_40 hM_40 hl_40
      replace h_40 := hI40 n40 x3_40 x4_40 x5_40 σ_40 h_40
      refine lv_iload hx hb dX3_queuedAt_40 (ml_at hl_40 5 rfl) ?_
      refine mr_aload_n C dX3_queuedAt_42 rfl (ml_at hl_40 0 rfl) ?_
      refine fg_X3_94 C hM_40 (mO_fix hM_40 rfl (by decide) (by decide) (by decide)) dX3_queuedAt_43 ?_
      refine lv_icmp_ge (tgt := 123) hx hb dX3_queuedAt_46 (by decide) (fun hc11 => ?_) (fun hc11 => ?_)
      · replace h_40 := h_40.1 hc11
        refine lv_iload_n hx hb dX3_queuedAt_123 rfl (ml_at hl_40 3 rfl) ?_
        exact mr_iret C hM_40 hr hlk h_40 dX3_queuedAt_124
      · replace h_40 := h_40.2 hc11
        refine mr_aload_n C dX3_queuedAt_49 rfl (ml_at hl_40 0 rfl) ?_
        refine fg_X3_86 C hM_40 (mO_fix hM_40 rfl (by decide) (by decide) (by decide)) dX3_queuedAt_50 ?_
        refine lv_if_ne (tgt := 123) hx hb dX3_queuedAt_53 (by decide) (fun hc12 => ?_) (fun hc12 => ?_)
        · replace h_40 := h_40.1 hc12
          refine lv_iload_n hx hb dX3_queuedAt_123 rfl (ml_at hl_40 3 rfl) ?_
          exact mr_iret C hM_40 hr hlk h_40 dX3_queuedAt_124
        · replace h_40 := h_40.2 hc12
          refine mr_aload_n C dX3_queuedAt_56 rfl (ml_at hl_40 0 rfl) ?_
          refine fg_X3_43 (i := 0) C hM_40 (mO_fix hM_40 rfl (by decide) (by decide) (by decide)) dX3_queuedAt_57 ?_
          refine lv_iload hx hb dX3_queuedAt_60 (ml_at hl_40 5 rfl) ?_
          obtain ⟨j13, ej14, ej14b, h_40⟩ := h_40
          refine mr_iald C hM_40 (mB_fix hM_40 rfl (by decide) (by decide) (by decide)) ej14 ej14b (by decide) dX3_queuedAt_62 ?_
          refine lv_iload_n hx hb dX3_queuedAt_63 rfl (ml_at hl_40 1 rfl) ?_
          obtain ⟨J82, hJ82, h_40⟩ := h_40
          have hj82 : ∀ (xk0_82 : Int32) (σ_82 : mS) (H : Heap) (locs : List Loc) (ls : Array Slot), J82 xk0_82 σ_82 → mM G kdM ad s σ_82 H locs → ml_has ls 7 [(0, mV ad (some 0)), (1, .int y1), (2, .int y2), (3, .int x3_40), (4, .int x4_40), (5, .int x5_40)] → W p l e (mRm 2 42) s m ([mV ad (some 0), .int y1, .int y2] : List Value).toArray below meth c H locs 0 0 (MQ below (va_Qi Q (mPost G kdM ad) (mA ad)) ([mV ad (some 0), .int y1, .int y2] : List Value).toArray s 0 0 (mA ad)) (F0 m 82 ls [.int xk0_82]) := by
            intro xk0_82 σ_82 H locs ls h_82 hM_82 hl_82
            replace h_82 := hJ82 xk0_82 σ_82 h_82
            refine mr_istore (lv' := [(6, .int xk0_82), (0, mV ad (some 0)), (1, .int y1), (2, .int y2), (3, .int x3_40), (4, .int x4_40), (5, .int x5_40)]) C hl_82 dX3_queuedAt_82 (by decide) rfl (fun ls hl15 => ?_)
            clear hl_82
            refine lv_iload hx hb dX3_queuedAt_84 (ml_at hl15 0 rfl) ?_
            obtain ⟨J101, hJ101, h_82⟩ := h_82
            have hj101 : ∀ (xk0_101 : Int32) (σ_101 : mS) (H : Heap) (locs : List Loc) (ls : Array Slot), J101 xk0_101 σ_101 → mM G kdM ad s σ_101 H locs → ml_has ls 7 [(0, mV ad (some 0)), (1, .int y1), (2, .int y2), (4, .int x4_40), (5, .int x5_40), (6, .int xk0_82)] → W p l e (mRm 2 42) s m ([mV ad (some 0), .int y1, .int y2] : List Value).toArray below meth c H locs 0 0 (MQ below (va_Qi Q (mPost G kdM ad) (mA ad)) ([mV ad (some 0), .int y1, .int y2] : List Value).toArray s 0 0 (mA ad)) (F0 m 101 ls [.int xk0_101]) := by
              intro xk0_101 σ_101 H locs ls h_101 hM_101 hl_101
              replace h_101 := hJ101 xk0_101 σ_101 h_101
              refine mr_istore_n (lv' := [(3, .int xk0_101), (0, mV ad (some 0)), (1, .int y1), (2, .int y2), (4, .int x4_40), (5, .int x5_40), (6, .int xk0_82)]) C hl_101 dX3_queuedAt_101 rfl (by decide) rfl (fun ls hl16 => ?_)
              clear hl_101
              refine lv_iload hx hb dX3_queuedAt_102 (ml_at hl16 4 rfl) ?_
              refine lv_iload hx hb dX3_queuedAt_104 (ml_at hl16 6 rfl) ?_
              refine lv_if_eq (tgt := 113) hx hb dX3_queuedAt_106 (by decide) (fun hc17 => ?_) (fun hc17 => ?_)
              · replace h_101 := h_101.1 hc17
                refine lv_iconst (v := 0) hx hb dX3_queuedAt_113 (by decide) ?_
                refine lv_iadd hx hb dX3_queuedAt_114 ?_
                refine mr_istore (lv' := [(4, .int (x4_40 + (0 : Int32))), (3, .int xk0_101), (0, mV ad (some 0)), (1, .int y1), (2, .int y2), (5, .int x5_40), (6, .int xk0_82)]) C hl16 dX3_queuedAt_115 (by decide) rfl (fun ls hl18 => ?_)
                clear hl16
                refine mr_iinc (v := (x5_40 + 1)) (lv' := [(5, .int (x5_40 + 1)), (4, .int (x4_40 + (0 : Int32))), (3, .int xk0_101), (0, mV ad (some 0)), (1, .int y1), (2, .int y2), (6, .int xk0_82)]) C hl18 dX3_queuedAt_117 (k := 5) rfl rfl (by decide) rfl (fun ls hl19 => ?_)
                clear hl18
                refine lv_goto (tgt := 40) hx hb dX3_queuedAt_120 (by decide) ?_
                obtain ⟨k20, hk20, h_101⟩ := h_101
                exact ih40 k20 hk20 xk0_101 (x4_40 + (0 : Int32)) (x5_40 + 1) σ_101 _ _ _ h_101 hM_101 (ml_sub hl19 [3, 4, 5, 2, 1, 0] rfl)
              · replace h_101 := h_101.2 hc17
                refine lv_iconst (v := 1) hx hb dX3_queuedAt_109 (by decide) ?_
                refine lv_goto (tgt := 114) hx hb dX3_queuedAt_110 (by decide) ?_
                refine lv_iadd hx hb dX3_queuedAt_114 ?_
                refine mr_istore (lv' := [(4, .int (x4_40 + (1 : Int32))), (3, .int xk0_101), (0, mV ad (some 0)), (1, .int y1), (2, .int y2), (5, .int x5_40), (6, .int xk0_82)]) C hl16 dX3_queuedAt_115 (by decide) rfl (fun ls hl21 => ?_)
                clear hl16
                refine mr_iinc (v := (x5_40 + 1)) (lv' := [(5, .int (x5_40 + 1)), (4, .int (x4_40 + (1 : Int32))), (3, .int xk0_101), (0, mV ad (some 0)), (1, .int y1), (2, .int y2), (6, .int xk0_82)]) C hl21 dX3_queuedAt_117 (k := 5) rfl rfl (by decide) rfl (fun ls hl22 => ?_)
                clear hl21
                refine lv_goto (tgt := 40) hx hb dX3_queuedAt_120 (by decide) ?_
                obtain ⟨k23, hk23, h_101⟩ := h_101
                exact ih40 k23 hk23 xk0_101 (x4_40 + (1 : Int32)) (x5_40 + 1) σ_101 _ _ _ h_101 hM_101 (ml_sub hl22 [3, 4, 5, 2, 1, 0] rfl)
            obtain ⟨J100, hJ100, h_82⟩ := h_82
            have hj100 : ∀  (σ_100 : mS) (H : Heap) (locs : List Loc) (ls : Array Slot), J100  σ_100 → mM G kdM ad s σ_100 H locs → ml_has ls 7 [(0, mV ad (some 0)), (1, .int y1), (2, .int y2), (3, .int x3_40), (4, .int x4_40), (5, .int x5_40), (6, .int xk0_82)] → W p l e (mRm 2 42) s m ([mV ad (some 0), .int y1, .int y2] : List Value).toArray below meth c H locs 0 0 (MQ below (va_Qi Q (mPost G kdM ad) (mA ad)) ([mV ad (some 0), .int y1, .int y2] : List Value).toArray s 0 0 (mA ad)) (F0 m 100 ls []) := by
              intro  σ_100 H locs ls h_100 hM_100 hl_100
              replace h_100 := hJ100  σ_100 h_100
              refine lv_iload_n hx hb dX3_queuedAt_100 rfl (ml_at hl_100 3 rfl) ?_
              exact hj101 x3_40 σ_100 _ _ _ h_100 hM_100 (ml_sub hl_100 [0, 1, 2, 4, 5, 6] rfl)
            refine lv_if_eq (tgt := 100) hx hb dX3_queuedAt_86 (by decide) (fun hc24 => ?_) (fun hc24 => ?_)
            · replace h_82 := h_82.1 hc24
              exact hj100  σ_82 _ _ _ h_82 hM_82 (ml_sub hl15 [1, 2, 3, 4, 5, 6, 0] rfl)
            · replace h_82 := h_82.2 hc24
              refine lv_iload hx hb dX3_queuedAt_89 (ml_at hl15 5 rfl) ?_
              refine lv_iload_n hx hb dX3_queuedAt_91 rfl (ml_at hl15 3 rfl) ?_
              refine lv_icmp_ne (tgt := 100) hx hb dX3_queuedAt_92 (by decide) (fun hc25 => ?_) (fun hc25 => ?_)
              · replace h_82 := h_82.1 hc25
                exact hj100  σ_82 _ _ _ h_82 hM_82 (ml_sub hl15 [1, 2, 3, 4, 5, 6, 0] rfl)
              · replace h_82 := h_82.2 hc25
                refine lv_iload hx hb dX3_queuedAt_95 (ml_at hl15 6 rfl) ?_
                refine lv_goto (tgt := 101) hx hb dX3_queuedAt_97 (by decide) ?_
                exact hj101 x5_40 σ_82 _ _ _ h_82 hM_82 (ml_sub hl15 [1, 2, 3, 5, 6, 0] rfl)
          obtain ⟨J81, hJ81, h_40⟩ := h_40
          have hj81 : ∀  (σ_81 : mS) (H : Heap) (locs : List Loc) (ls : Array Slot), J81  σ_81 → mM G kdM ad s σ_81 H locs → ml_has ls 7 [(0, mV ad (some 0)), (1, .int y1), (2, .int y2), (3, .int x3_40), (4, .int x4_40), (5, .int x5_40)] → W p l e (mRm 2 42) s m ([mV ad (some 0), .int y1, .int y2] : List Value).toArray below meth c H locs 0 0 (MQ below (va_Qi Q (mPost G kdM ad) (mA ad)) ([mV ad (some 0), .int y1, .int y2] : List Value).toArray s 0 0 (mA ad)) (F0 m 81 ls []) := by
            intro  σ_81 H locs ls h_81 hM_81 hl_81
            replace h_81 := hJ81  σ_81 h_81
            refine lv_iconst (v := 0) hx hb dX3_queuedAt_81 (by decide) ?_
            exact hj82 (0 : Int32) σ_81 _ _ _ h_81 hM_81 (ml_sub hl_81 [0, 1, 2, 3, 4, 5] rfl)
          refine lv_icmp_ne (tgt := 81) hx hb dX3_queuedAt_64 (by decide) (fun hc26 => ?_) (fun hc26 => ?_)
          · replace h_40 := h_40.1 hc26
            exact hj81  σ_40 _ _ _ h_40 hM_40 (ml_sub hl_40 [0, 1, 2, 3, 4, 5] rfl)
          · replace h_40 := h_40.2 hc26
            refine mr_aload_n C dX3_queuedAt_67 rfl (ml_at hl_40 0 rfl) ?_
            refine fg_X3_52 (i := 0) C hM_40 (mO_fix hM_40 rfl (by decide) (by decide) (by decide)) dX3_queuedAt_68 ?_
            refine lv_iload hx hb dX3_queuedAt_71 (ml_at hl_40 5 rfl) ?_
            obtain ⟨j27, ej28, ej28b, h_40⟩ := h_40
            refine mr_iald C hM_40 (mB_fix hM_40 rfl (by decide) (by decide) (by decide)) ej28 ej28b (by decide) dX3_queuedAt_73 ?_
            refine lv_if_ne (tgt := 81) hx hb dX3_queuedAt_74 (by decide) (fun hc29 => ?_) (fun hc29 => ?_)
            · replace h_40 := h_40.1 hc29
              exact hj81  σ_40 _ _ _ h_40 hM_40 (ml_sub hl_40 [0, 1, 2, 3, 4, 5] rfl)
            · replace h_40 := h_40.2 hc29
              refine lv_iconst (v := 1) hx hb dX3_queuedAt_77 (by decide) ?_
              refine lv_goto (tgt := 82) hx hb dX3_queuedAt_78 (by decide) ?_
              exact hj82 (1 : Int32) σ_40 _ _ _ h_40 hM_40 (ml_sub hl_40 [0, 1, 2, 3, 4, 5] rfl)
    exact hL40 nn40 (0 : Int32) (0 : Int32) (0 : Int32) σ7 _ _ _ h2 hM6 (ml_sub hl10 [3, 4, 5, 2, 1, 0] rfl)
  · replace h2 := h2.2 hc5
    refine lv_iload_n hx hb dX3_queuedAt_8 rfl (ml_at hl 2 rfl) ?_
    refine lv_iconst (v := 0) hx hb dX3_queuedAt_9 (by decide) ?_
    refine mr_aload_n C dX3_queuedAt_10 rfl (ml_at hl 0 rfl) ?_
    refine lv_iload_n hx hb dX3_queuedAt_11 rfl (ml_at hl 1 rfl) ?_
    refine lv_iconst (v := 0) hx hb dX3_queuedAt_12 (by decide) ?_
    refine mr_ci hM3 (mr_runV (As := [.int y1, .int (0 : Int32)]) C hM3 hl.1.1 (c_X3_manyOf l G ad y1 (0 : Int32) σ1 _ h2) cw_X3_107 (mO_fix hM3 rfl (by decide) (by decide) (by decide)) rfl rfl (n := 2) ⟨rfl, by decide, by decide, by decide +kernel⟩ rfl rfl ⟨Nat.le_of_ble_eq_true rfl, Nat.le_of_ble_eq_true rfl⟩ (m_cI (m_cI (m_cR m_c0))) (Nat.le_of_ble_eq_true rfl) dX3_queuedAt_13 ⟨Nat.zero_le _, Nat.zero_le _⟩) (fun x33 σ30 H locs h31 hM32 => ?_)
    clear h2 hM3
    refine lv_iconst (v := 1) hx hb dX3_queuedAt_16 (by decide) ?_
    refine lv_isub hx hb dX3_queuedAt_17 ?_
    refine mr_ci hM32 (mr_runS (As := [.int y2, .int (0 : Int32), .int (x33 - (1 : Int32))]) C hM32 hl.1.1 (c_X3_in l G ad y2 (0 : Int32) (x33 - (1 : Int32)) σ30 _ h31) cw_X3_90 (n := 3) ⟨rfl, by decide, by decide, by decide +kernel⟩ rfl rfl ⟨Nat.le_of_ble_eq_true rfl, Nat.le_of_ble_eq_true rfl⟩ (m_cR m_c0) (Nat.le_of_ble_eq_true rfl) dX3_queuedAt_18 ⟨Nat.zero_le _, Nat.zero_le _⟩) (fun x37 σ34 H locs h35 hM36 => ?_)
    clear h31 hM32
    obtain ⟨h35, hzx37⟩ := h35
    refine lv_if_eq (tgt := 28) hx hb dX3_queuedAt_21 (by decide) (fun hc38 => ?_) (fun hc38 => ?_)
    · replace h35 := h35.1 hc38
      refine lv_iconst (v := 1) hx hb dX3_queuedAt_28 (by decide) ?_
      refine fp_X3_86 C hM36 (mO_fix hM36 rfl (by decide) (by decide) (by decide)) dX3_queuedAt_29 (1 : Int32) (fun H locs hM39 => ?_)
      clear hM36
      obtain ⟨σ40, eσ40⟩ : ∃ y, y = sI σ34 0 0 (1 : Int32) := ⟨_, rfl⟩
      rw [← eσ40] at hM39
      replace h35 := h35 σ40 eσ40
      refine lv_iconst (v := 0) hx hb dX3_queuedAt_32 (by decide) ?_
      refine mr_istore_n (lv' := [(3, .int (0 : Int32)), (0, mV ad (some 0)), (1, .int y1), (2, .int y2)]) C hl dX3_queuedAt_33 rfl (by decide) rfl (fun ls hl41 => ?_)
      clear hl
      refine lv_iconst (v := 0) hx hb dX3_queuedAt_34 (by decide) ?_
      refine mr_istore (lv' := [(4, .int (0 : Int32)), (3, .int (0 : Int32)), (0, mV ad (some 0)), (1, .int y1), (2, .int y2)]) C hl41 dX3_queuedAt_35 (by decide) rfl (fun ls hl42 => ?_)
      clear hl41
      refine lv_iconst (v := 0) hx hb dX3_queuedAt_37 (by decide) ?_
      refine mr_istore (lv' := [(5, .int (0 : Int32)), (4, .int (0 : Int32)), (3, .int (0 : Int32)), (0, mV ad (some 0)), (1, .int y1), (2, .int y2)]) C hl42 dX3_queuedAt_38 (by decide) rfl (fun ls hl43 => ?_)
      clear hl42
      obtain ⟨I40, hI40, nn40, h35⟩ := h35
      have hL40 : ∀ (n40 : Nat) (x3_40 : Int32) (x4_40 : Int32) (x5_40 : Int32) (σ_40 : mS) (H : Heap) (locs : List Loc) (ls : Array Slot), I40 n40 x3_40 x4_40 x5_40 σ_40 → mM G kdM ad s σ_40 H locs → ml_has ls 7 [(0, mV ad (some 0)), (1, .int y1), (2, .int y2), (3, .int x3_40), (4, .int x4_40), (5, .int x5_40)] → W p l e (mRm 2 42) s m ([mV ad (some 0), .int y1, .int y2] : List Value).toArray below meth c H locs 0 0 (MQ below (va_Qi Q (mPost G kdM ad) (mA ad)) ([mV ad (some 0), .int y1, .int y2] : List Value).toArray s 0 0 (mA ad)) (F0 m 40 ls []) := by
        refine m_loop (fun n40 ih40 => ?_)
        intro x3_40 x4_40 x5_40 σ_40 H locs ls h_40 hM_40 hl_40
        replace h_40 := hI40 n40 x3_40 x4_40 x5_40 σ_40 h_40
        refine lv_iload hx hb dX3_queuedAt_40 (ml_at hl_40 5 rfl) ?_
        refine mr_aload_n C dX3_queuedAt_42 rfl (ml_at hl_40 0 rfl) ?_
        refine fg_X3_94 C hM_40 (mO_fix hM_40 rfl (by decide) (by decide) (by decide)) dX3_queuedAt_43 ?_
        refine lv_icmp_ge (tgt := 123) hx hb dX3_queuedAt_46 (by decide) (fun hc44 => ?_) (fun hc44 => ?_)
        · replace h_40 := h_40.1 hc44
          refine lv_iload_n hx hb dX3_queuedAt_123 rfl (ml_at hl_40 3 rfl) ?_
          exact mr_iret C hM_40 hr hlk h_40 dX3_queuedAt_124
        · replace h_40 := h_40.2 hc44
          refine mr_aload_n C dX3_queuedAt_49 rfl (ml_at hl_40 0 rfl) ?_
          refine fg_X3_86 C hM_40 (mO_fix hM_40 rfl (by decide) (by decide) (by decide)) dX3_queuedAt_50 ?_
          refine lv_if_ne (tgt := 123) hx hb dX3_queuedAt_53 (by decide) (fun hc45 => ?_) (fun hc45 => ?_)
          · replace h_40 := h_40.1 hc45
            refine lv_iload_n hx hb dX3_queuedAt_123 rfl (ml_at hl_40 3 rfl) ?_
            exact mr_iret C hM_40 hr hlk h_40 dX3_queuedAt_124
          · replace h_40 := h_40.2 hc45
            refine mr_aload_n C dX3_queuedAt_56 rfl (ml_at hl_40 0 rfl) ?_
            refine fg_X3_43 (i := 0) C hM_40 (mO_fix hM_40 rfl (by decide) (by decide) (by decide)) dX3_queuedAt_57 ?_
            refine lv_iload hx hb dX3_queuedAt_60 (ml_at hl_40 5 rfl) ?_
            obtain ⟨j46, ej47, ej47b, h_40⟩ := h_40
            refine mr_iald C hM_40 (mB_fix hM_40 rfl (by decide) (by decide) (by decide)) ej47 ej47b (by decide) dX3_queuedAt_62 ?_
            refine lv_iload_n hx hb dX3_queuedAt_63 rfl (ml_at hl_40 1 rfl) ?_
            obtain ⟨J82, hJ82, h_40⟩ := h_40
            have hj82 : ∀ (xk0_82 : Int32) (σ_82 : mS) (H : Heap) (locs : List Loc) (ls : Array Slot), J82 xk0_82 σ_82 → mM G kdM ad s σ_82 H locs → ml_has ls 7 [(0, mV ad (some 0)), (1, .int y1), (2, .int y2), (3, .int x3_40), (4, .int x4_40), (5, .int x5_40)] → W p l e (mRm 2 42) s m ([mV ad (some 0), .int y1, .int y2] : List Value).toArray below meth c H locs 0 0 (MQ below (va_Qi Q (mPost G kdM ad) (mA ad)) ([mV ad (some 0), .int y1, .int y2] : List Value).toArray s 0 0 (mA ad)) (F0 m 82 ls [.int xk0_82]) := by
              intro xk0_82 σ_82 H locs ls h_82 hM_82 hl_82
              replace h_82 := hJ82 xk0_82 σ_82 h_82
              refine mr_istore (lv' := [(6, .int xk0_82), (0, mV ad (some 0)), (1, .int y1), (2, .int y2), (3, .int x3_40), (4, .int x4_40), (5, .int x5_40)]) C hl_82 dX3_queuedAt_82 (by decide) rfl (fun ls hl48 => ?_)
              clear hl_82
              refine lv_iload hx hb dX3_queuedAt_84 (ml_at hl48 0 rfl) ?_
              obtain ⟨J101, hJ101, h_82⟩ := h_82
              have hj101 : ∀ (xk0_101 : Int32) (σ_101 : mS) (H : Heap) (locs : List Loc) (ls : Array Slot), J101 xk0_101 σ_101 → mM G kdM ad s σ_101 H locs → ml_has ls 7 [(0, mV ad (some 0)), (1, .int y1), (2, .int y2), (4, .int x4_40), (5, .int x5_40), (6, .int xk0_82)] → W p l e (mRm 2 42) s m ([mV ad (some 0), .int y1, .int y2] : List Value).toArray below meth c H locs 0 0 (MQ below (va_Qi Q (mPost G kdM ad) (mA ad)) ([mV ad (some 0), .int y1, .int y2] : List Value).toArray s 0 0 (mA ad)) (F0 m 101 ls [.int xk0_101]) := by
                intro xk0_101 σ_101 H locs ls h_101 hM_101 hl_101
                replace h_101 := hJ101 xk0_101 σ_101 h_101
                refine mr_istore_n (lv' := [(3, .int xk0_101), (0, mV ad (some 0)), (1, .int y1), (2, .int y2), (4, .int x4_40), (5, .int x5_40), (6, .int xk0_82)]) C hl_101 dX3_queuedAt_101 rfl (by decide) rfl (fun ls hl49 => ?_)
                clear hl_101
                refine lv_iload hx hb dX3_queuedAt_102 (ml_at hl49 4 rfl) ?_
                refine lv_iload hx hb dX3_queuedAt_104 (ml_at hl49 6 rfl) ?_
                refine lv_if_eq (tgt := 113) hx hb dX3_queuedAt_106 (by decide) (fun hc50 => ?_) (fun hc50 => ?_)
                · replace h_101 := h_101.1 hc50
                  refine lv_iconst (v := 0) hx hb dX3_queuedAt_113 (by decide) ?_
                  refine lv_iadd hx hb dX3_queuedAt_114 ?_
                  refine mr_istore (lv' := [(4, .int (x4_40 + (0 : Int32))), (3, .int xk0_101), (0, mV ad (some 0)), (1, .int y1), (2, .int y2), (5, .int x5_40), (6, .int xk0_82)]) C hl49 dX3_queuedAt_115 (by decide) rfl (fun ls hl51 => ?_)
                  clear hl49
                  refine mr_iinc (v := (x5_40 + 1)) (lv' := [(5, .int (x5_40 + 1)), (4, .int (x4_40 + (0 : Int32))), (3, .int xk0_101), (0, mV ad (some 0)), (1, .int y1), (2, .int y2), (6, .int xk0_82)]) C hl51 dX3_queuedAt_117 (k := 5) rfl rfl (by decide) rfl (fun ls hl52 => ?_)
                  clear hl51
                  refine lv_goto (tgt := 40) hx hb dX3_queuedAt_120 (by decide) ?_
                  obtain ⟨k53, hk53, h_101⟩ := h_101
                  exact ih40 k53 hk53 xk0_101 (x4_40 + (0 : Int32)) (x5_40 + 1) σ_101 _ _ _ h_101 hM_101 (ml_sub hl52 [3, 4, 5, 2, 1, 0] rfl)
                · replace h_101 := h_101.2 hc50
                  refine lv_iconst (v := 1) hx hb dX3_queuedAt_109 (by decide) ?_
                  refine lv_goto (tgt := 114) hx hb dX3_queuedAt_110 (by decide) ?_
                  refine lv_iadd hx hb dX3_queuedAt_114 ?_
                  refine mr_istore (lv' := [(4, .int (x4_40 + (1 : Int32))), (3, .int xk0_101), (0, mV ad (some 0)), (1, .int y1), (2, .int y2), (5, .int x5_40), (6, .int xk0_82)]) C hl49 dX3_queuedAt_115 (by decide) rfl (fun ls hl54 => ?_)
                  clear hl49
                  refine mr_iinc (v := (x5_40 + 1)) (lv' := [(5, .int (x5_40 + 1)), (4, .int (x4_40 + (1 : Int32))), (3, .int xk0_101), (0, mV ad (some 0)), (1, .int y1), (2, .int y2), (6, .int xk0_82)]) C hl54 dX3_queuedAt_117 (k := 5) rfl rfl (by decide) rfl (fun ls hl55 => ?_)
                  clear hl54
                  refine lv_goto (tgt := 40) hx hb dX3_queuedAt_120 (by decide) ?_
                  obtain ⟨k56, hk56, h_101⟩ := h_101
                  exact ih40 k56 hk56 xk0_101 (x4_40 + (1 : Int32)) (x5_40 + 1) σ_101 _ _ _ h_101 hM_101 (ml_sub hl55 [3, 4, 5, 2, 1, 0] rfl)
              obtain ⟨J100, hJ100, h_82⟩ := h_82
              have hj100 : ∀  (σ_100 : mS) (H : Heap) (locs : List Loc) (ls : Array Slot), J100  σ_100 → mM G kdM ad s σ_100 H locs → ml_has ls 7 [(0, mV ad (some 0)), (1, .int y1), (2, .int y2), (3, .int x3_40), (4, .int x4_40), (5, .int x5_40), (6, .int xk0_82)] → W p l e (mRm 2 42) s m ([mV ad (some 0), .int y1, .int y2] : List Value).toArray below meth c H locs 0 0 (MQ below (va_Qi Q (mPost G kdM ad) (mA ad)) ([mV ad (some 0), .int y1, .int y2] : List Value).toArray s 0 0 (mA ad)) (F0 m 100 ls []) := by
                intro  σ_100 H locs ls h_100 hM_100 hl_100
                replace h_100 := hJ100  σ_100 h_100
                refine lv_iload_n hx hb dX3_queuedAt_100 rfl (ml_at hl_100 3 rfl) ?_
                exact hj101 x3_40 σ_100 _ _ _ h_100 hM_100 (ml_sub hl_100 [0, 1, 2, 4, 5, 6] rfl)
              refine lv_if_eq (tgt := 100) hx hb dX3_queuedAt_86 (by decide) (fun hc57 => ?_) (fun hc57 => ?_)
              · replace h_82 := h_82.1 hc57
                exact hj100  σ_82 _ _ _ h_82 hM_82 (ml_sub hl48 [1, 2, 3, 4, 5, 6, 0] rfl)
              · replace h_82 := h_82.2 hc57
                refine lv_iload hx hb dX3_queuedAt_89 (ml_at hl48 5 rfl) ?_
                refine lv_iload_n hx hb dX3_queuedAt_91 rfl (ml_at hl48 3 rfl) ?_
                refine lv_icmp_ne (tgt := 100) hx hb dX3_queuedAt_92 (by decide) (fun hc58 => ?_) (fun hc58 => ?_)
                · replace h_82 := h_82.1 hc58
                  exact hj100  σ_82 _ _ _ h_82 hM_82 (ml_sub hl48 [1, 2, 3, 4, 5, 6, 0] rfl)
                · replace h_82 := h_82.2 hc58
                  refine lv_iload hx hb dX3_queuedAt_95 (ml_at hl48 6 rfl) ?_
                  refine lv_goto (tgt := 101) hx hb dX3_queuedAt_97 (by decide) ?_
                  exact hj101 x5_40 σ_82 _ _ _ h_82 hM_82 (ml_sub hl48 [1, 2, 3, 5, 6, 0] rfl)
            obtain ⟨J81, hJ81, h_40⟩ := h_40
            have hj81 : ∀  (σ_81 : mS) (H : Heap) (locs : List Loc) (ls : Array Slot), J81  σ_81 → mM G kdM ad s σ_81 H locs → ml_has ls 7 [(0, mV ad (some 0)), (1, .int y1), (2, .int y2), (3, .int x3_40), (4, .int x4_40), (5, .int x5_40)] → W p l e (mRm 2 42) s m ([mV ad (some 0), .int y1, .int y2] : List Value).toArray below meth c H locs 0 0 (MQ below (va_Qi Q (mPost G kdM ad) (mA ad)) ([mV ad (some 0), .int y1, .int y2] : List Value).toArray s 0 0 (mA ad)) (F0 m 81 ls []) := by
              intro  σ_81 H locs ls h_81 hM_81 hl_81
              replace h_81 := hJ81  σ_81 h_81
              refine lv_iconst (v := 0) hx hb dX3_queuedAt_81 (by decide) ?_
              exact hj82 (0 : Int32) σ_81 _ _ _ h_81 hM_81 (ml_sub hl_81 [0, 1, 2, 3, 4, 5] rfl)
            refine lv_icmp_ne (tgt := 81) hx hb dX3_queuedAt_64 (by decide) (fun hc59 => ?_) (fun hc59 => ?_)
            · replace h_40 := h_40.1 hc59
              exact hj81  σ_40 _ _ _ h_40 hM_40 (ml_sub hl_40 [0, 1, 2, 3, 4, 5] rfl)
            · replace h_40 := h_40.2 hc59
              refine mr_aload_n C dX3_queuedAt_67 rfl (ml_at hl_40 0 rfl) ?_
              refine fg_X3_52 (i := 0) C hM_40 (mO_fix hM_40 rfl (by decide) (by decide) (by decide)) dX3_queuedAt_68 ?_
              refine lv_iload hx hb dX3_queuedAt_71 (ml_at hl_40 5 rfl) ?_
              obtain ⟨j60, ej61, ej61b, h_40⟩ := h_40
              refine mr_iald C hM_40 (mB_fix hM_40 rfl (by decide) (by decide) (by decide)) ej61 ej61b (by decide) dX3_queuedAt_73 ?_
              refine lv_if_ne (tgt := 81) hx hb dX3_queuedAt_74 (by decide) (fun hc62 => ?_) (fun hc62 => ?_)
              · replace h_40 := h_40.1 hc62
                exact hj81  σ_40 _ _ _ h_40 hM_40 (ml_sub hl_40 [0, 1, 2, 3, 4, 5] rfl)
              · replace h_40 := h_40.2 hc62
                refine lv_iconst (v := 1) hx hb dX3_queuedAt_77 (by decide) ?_
                refine lv_goto (tgt := 82) hx hb dX3_queuedAt_78 (by decide) ?_
                exact hj82 (1 : Int32) σ_40 _ _ _ h_40 hM_40 (ml_sub hl_40 [0, 1, 2, 3, 4, 5] rfl)
      exact hL40 nn40 (0 : Int32) (0 : Int32) (0 : Int32) σ40 _ _ _ h35 hM39 (ml_sub hl43 [3, 4, 5, 2, 1, 0] rfl)
    · replace h35 := h35.2 hc38
      refine lv_iconst (v := 0) hx hb dX3_queuedAt_24 (by decide) ?_
      refine lv_goto (tgt := 29) hx hb dX3_queuedAt_25 (by decide) ?_
      refine fp_X3_86 C hM36 (mO_fix hM36 rfl (by decide) (by decide) (by decide)) dX3_queuedAt_29 (0 : Int32) (fun H locs hM63 => ?_)
      clear hM36
      obtain ⟨σ64, eσ64⟩ : ∃ y, y = sI σ34 0 0 (0 : Int32) := ⟨_, rfl⟩
      rw [← eσ64] at hM63
      replace h35 := h35 σ64 eσ64
      refine lv_iconst (v := 0) hx hb dX3_queuedAt_32 (by decide) ?_
      refine mr_istore_n (lv' := [(3, .int (0 : Int32)), (0, mV ad (some 0)), (1, .int y1), (2, .int y2)]) C hl dX3_queuedAt_33 rfl (by decide) rfl (fun ls hl65 => ?_)
      clear hl
      refine lv_iconst (v := 0) hx hb dX3_queuedAt_34 (by decide) ?_
      refine mr_istore (lv' := [(4, .int (0 : Int32)), (3, .int (0 : Int32)), (0, mV ad (some 0)), (1, .int y1), (2, .int y2)]) C hl65 dX3_queuedAt_35 (by decide) rfl (fun ls hl66 => ?_)
      clear hl65
      refine lv_iconst (v := 0) hx hb dX3_queuedAt_37 (by decide) ?_
      refine mr_istore (lv' := [(5, .int (0 : Int32)), (4, .int (0 : Int32)), (3, .int (0 : Int32)), (0, mV ad (some 0)), (1, .int y1), (2, .int y2)]) C hl66 dX3_queuedAt_38 (by decide) rfl (fun ls hl67 => ?_)
      clear hl66
      obtain ⟨I40, hI40, nn40, h35⟩ := h35
      have hL40 : ∀ (n40 : Nat) (x3_40 : Int32) (x4_40 : Int32) (x5_40 : Int32) (σ_40 : mS) (H : Heap) (locs : List Loc) (ls : Array Slot), I40 n40 x3_40 x4_40 x5_40 σ_40 → mM G kdM ad s σ_40 H locs → ml_has ls 7 [(0, mV ad (some 0)), (1, .int y1), (2, .int y2), (3, .int x3_40), (4, .int x4_40), (5, .int x5_40)] → W p l e (mRm 2 42) s m ([mV ad (some 0), .int y1, .int y2] : List Value).toArray below meth c H locs 0 0 (MQ below (va_Qi Q (mPost G kdM ad) (mA ad)) ([mV ad (some 0), .int y1, .int y2] : List Value).toArray s 0 0 (mA ad)) (F0 m 40 ls []) := by
        refine m_loop (fun n40 ih40 => ?_)
        intro x3_40 x4_40 x5_40 σ_40 H locs ls h_40 hM_40 hl_40
        replace h_40 := hI40 n40 x3_40 x4_40 x5_40 σ_40 h_40
        refine lv_iload hx hb dX3_queuedAt_40 (ml_at hl_40 5 rfl) ?_
        refine mr_aload_n C dX3_queuedAt_42 rfl (ml_at hl_40 0 rfl) ?_
        refine fg_X3_94 C hM_40 (mO_fix hM_40 rfl (by decide) (by decide) (by decide)) dX3_queuedAt_43 ?_
        refine lv_icmp_ge (tgt := 123) hx hb dX3_queuedAt_46 (by decide) (fun hc68 => ?_) (fun hc68 => ?_)
        · replace h_40 := h_40.1 hc68
          refine lv_iload_n hx hb dX3_queuedAt_123 rfl (ml_at hl_40 3 rfl) ?_
          exact mr_iret C hM_40 hr hlk h_40 dX3_queuedAt_124
        · replace h_40 := h_40.2 hc68
          refine mr_aload_n C dX3_queuedAt_49 rfl (ml_at hl_40 0 rfl) ?_
          refine fg_X3_86 C hM_40 (mO_fix hM_40 rfl (by decide) (by decide) (by decide)) dX3_queuedAt_50 ?_
          refine lv_if_ne (tgt := 123) hx hb dX3_queuedAt_53 (by decide) (fun hc69 => ?_) (fun hc69 => ?_)
          · replace h_40 := h_40.1 hc69
            refine lv_iload_n hx hb dX3_queuedAt_123 rfl (ml_at hl_40 3 rfl) ?_
            exact mr_iret C hM_40 hr hlk h_40 dX3_queuedAt_124
          · replace h_40 := h_40.2 hc69
            refine mr_aload_n C dX3_queuedAt_56 rfl (ml_at hl_40 0 rfl) ?_
            refine fg_X3_43 (i := 0) C hM_40 (mO_fix hM_40 rfl (by decide) (by decide) (by decide)) dX3_queuedAt_57 ?_
            refine lv_iload hx hb dX3_queuedAt_60 (ml_at hl_40 5 rfl) ?_
            obtain ⟨j70, ej71, ej71b, h_40⟩ := h_40
            refine mr_iald C hM_40 (mB_fix hM_40 rfl (by decide) (by decide) (by decide)) ej71 ej71b (by decide) dX3_queuedAt_62 ?_
            refine lv_iload_n hx hb dX3_queuedAt_63 rfl (ml_at hl_40 1 rfl) ?_
            obtain ⟨J82, hJ82, h_40⟩ := h_40
            have hj82 : ∀ (xk0_82 : Int32) (σ_82 : mS) (H : Heap) (locs : List Loc) (ls : Array Slot), J82 xk0_82 σ_82 → mM G kdM ad s σ_82 H locs → ml_has ls 7 [(0, mV ad (some 0)), (1, .int y1), (2, .int y2), (3, .int x3_40), (4, .int x4_40), (5, .int x5_40)] → W p l e (mRm 2 42) s m ([mV ad (some 0), .int y1, .int y2] : List Value).toArray below meth c H locs 0 0 (MQ below (va_Qi Q (mPost G kdM ad) (mA ad)) ([mV ad (some 0), .int y1, .int y2] : List Value).toArray s 0 0 (mA ad)) (F0 m 82 ls [.int xk0_82]) := by
              intro xk0_82 σ_82 H locs ls h_82 hM_82 hl_82
              replace h_82 := hJ82 xk0_82 σ_82 h_82
              refine mr_istore (lv' := [(6, .int xk0_82), (0, mV ad (some 0)), (1, .int y1), (2, .int y2), (3, .int x3_40), (4, .int x4_40), (5, .int x5_40)]) C hl_82 dX3_queuedAt_82 (by decide) rfl (fun ls hl72 => ?_)
              clear hl_82
              refine lv_iload hx hb dX3_queuedAt_84 (ml_at hl72 0 rfl) ?_
              obtain ⟨J101, hJ101, h_82⟩ := h_82
              have hj101 : ∀ (xk0_101 : Int32) (σ_101 : mS) (H : Heap) (locs : List Loc) (ls : Array Slot), J101 xk0_101 σ_101 → mM G kdM ad s σ_101 H locs → ml_has ls 7 [(0, mV ad (some 0)), (1, .int y1), (2, .int y2), (4, .int x4_40), (5, .int x5_40), (6, .int xk0_82)] → W p l e (mRm 2 42) s m ([mV ad (some 0), .int y1, .int y2] : List Value).toArray below meth c H locs 0 0 (MQ below (va_Qi Q (mPost G kdM ad) (mA ad)) ([mV ad (some 0), .int y1, .int y2] : List Value).toArray s 0 0 (mA ad)) (F0 m 101 ls [.int xk0_101]) := by
                intro xk0_101 σ_101 H locs ls h_101 hM_101 hl_101
                replace h_101 := hJ101 xk0_101 σ_101 h_101
                refine mr_istore_n (lv' := [(3, .int xk0_101), (0, mV ad (some 0)), (1, .int y1), (2, .int y2), (4, .int x4_40), (5, .int x5_40), (6, .int xk0_82)]) C hl_101 dX3_queuedAt_101 rfl (by decide) rfl (fun ls hl73 => ?_)
                clear hl_101
                refine lv_iload hx hb dX3_queuedAt_102 (ml_at hl73 4 rfl) ?_
                refine lv_iload hx hb dX3_queuedAt_104 (ml_at hl73 6 rfl) ?_
                refine lv_if_eq (tgt := 113) hx hb dX3_queuedAt_106 (by decide) (fun hc74 => ?_) (fun hc74 => ?_)
                · replace h_101 := h_101.1 hc74
                  refine lv_iconst (v := 0) hx hb dX3_queuedAt_113 (by decide) ?_
                  refine lv_iadd hx hb dX3_queuedAt_114 ?_
                  refine mr_istore (lv' := [(4, .int (x4_40 + (0 : Int32))), (3, .int xk0_101), (0, mV ad (some 0)), (1, .int y1), (2, .int y2), (5, .int x5_40), (6, .int xk0_82)]) C hl73 dX3_queuedAt_115 (by decide) rfl (fun ls hl75 => ?_)
                  clear hl73
                  refine mr_iinc (v := (x5_40 + 1)) (lv' := [(5, .int (x5_40 + 1)), (4, .int (x4_40 + (0 : Int32))), (3, .int xk0_101), (0, mV ad (some 0)), (1, .int y1), (2, .int y2), (6, .int xk0_82)]) C hl75 dX3_queuedAt_117 (k := 5) rfl rfl (by decide) rfl (fun ls hl76 => ?_)
                  clear hl75
                  refine lv_goto (tgt := 40) hx hb dX3_queuedAt_120 (by decide) ?_
                  obtain ⟨k77, hk77, h_101⟩ := h_101
                  exact ih40 k77 hk77 xk0_101 (x4_40 + (0 : Int32)) (x5_40 + 1) σ_101 _ _ _ h_101 hM_101 (ml_sub hl76 [3, 4, 5, 2, 1, 0] rfl)
                · replace h_101 := h_101.2 hc74
                  refine lv_iconst (v := 1) hx hb dX3_queuedAt_109 (by decide) ?_
                  refine lv_goto (tgt := 114) hx hb dX3_queuedAt_110 (by decide) ?_
                  refine lv_iadd hx hb dX3_queuedAt_114 ?_
                  refine mr_istore (lv' := [(4, .int (x4_40 + (1 : Int32))), (3, .int xk0_101), (0, mV ad (some 0)), (1, .int y1), (2, .int y2), (5, .int x5_40), (6, .int xk0_82)]) C hl73 dX3_queuedAt_115 (by decide) rfl (fun ls hl78 => ?_)
                  clear hl73
                  refine mr_iinc (v := (x5_40 + 1)) (lv' := [(5, .int (x5_40 + 1)), (4, .int (x4_40 + (1 : Int32))), (3, .int xk0_101), (0, mV ad (some 0)), (1, .int y1), (2, .int y2), (6, .int xk0_82)]) C hl78 dX3_queuedAt_117 (k := 5) rfl rfl (by decide) rfl (fun ls hl79 => ?_)
                  clear hl78
                  refine lv_goto (tgt := 40) hx hb dX3_queuedAt_120 (by decide) ?_
                  obtain ⟨k80, hk80, h_101⟩ := h_101
                  exact ih40 k80 hk80 xk0_101 (x4_40 + (1 : Int32)) (x5_40 + 1) σ_101 _ _ _ h_101 hM_101 (ml_sub hl79 [3, 4, 5, 2, 1, 0] rfl)
              obtain ⟨J100, hJ100, h_82⟩ := h_82
              have hj100 : ∀  (σ_100 : mS) (H : Heap) (locs : List Loc) (ls : Array Slot), J100  σ_100 → mM G kdM ad s σ_100 H locs → ml_has ls 7 [(0, mV ad (some 0)), (1, .int y1), (2, .int y2), (3, .int x3_40), (4, .int x4_40), (5, .int x5_40), (6, .int xk0_82)] → W p l e (mRm 2 42) s m ([mV ad (some 0), .int y1, .int y2] : List Value).toArray below meth c H locs 0 0 (MQ below (va_Qi Q (mPost G kdM ad) (mA ad)) ([mV ad (some 0), .int y1, .int y2] : List Value).toArray s 0 0 (mA ad)) (F0 m 100 ls []) := by
                intro  σ_100 H locs ls h_100 hM_100 hl_100
                replace h_100 := hJ100  σ_100 h_100
                refine lv_iload_n hx hb dX3_queuedAt_100 rfl (ml_at hl_100 3 rfl) ?_
                exact hj101 x3_40 σ_100 _ _ _ h_100 hM_100 (ml_sub hl_100 [0, 1, 2, 4, 5, 6] rfl)
              refine lv_if_eq (tgt := 100) hx hb dX3_queuedAt_86 (by decide) (fun hc81 => ?_) (fun hc81 => ?_)
              · replace h_82 := h_82.1 hc81
                exact hj100  σ_82 _ _ _ h_82 hM_82 (ml_sub hl72 [1, 2, 3, 4, 5, 6, 0] rfl)
              · replace h_82 := h_82.2 hc81
                refine lv_iload hx hb dX3_queuedAt_89 (ml_at hl72 5 rfl) ?_
                refine lv_iload_n hx hb dX3_queuedAt_91 rfl (ml_at hl72 3 rfl) ?_
                refine lv_icmp_ne (tgt := 100) hx hb dX3_queuedAt_92 (by decide) (fun hc82 => ?_) (fun hc82 => ?_)
                · replace h_82 := h_82.1 hc82
                  exact hj100  σ_82 _ _ _ h_82 hM_82 (ml_sub hl72 [1, 2, 3, 4, 5, 6, 0] rfl)
                · replace h_82 := h_82.2 hc82
                  refine lv_iload hx hb dX3_queuedAt_95 (ml_at hl72 6 rfl) ?_
                  refine lv_goto (tgt := 101) hx hb dX3_queuedAt_97 (by decide) ?_
                  exact hj101 x5_40 σ_82 _ _ _ h_82 hM_82 (ml_sub hl72 [1, 2, 3, 5, 6, 0] rfl)
            obtain ⟨J81, hJ81, h_40⟩ := h_40
            have hj81 : ∀  (σ_81 : mS) (H : Heap) (locs : List Loc) (ls : Array Slot), J81  σ_81 → mM G kdM ad s σ_81 H locs → ml_has ls 7 [(0, mV ad (some 0)), (1, .int y1), (2, .int y2), (3, .int x3_40), (4, .int x4_40), (5, .int x5_40)] → W p l e (mRm 2 42) s m ([mV ad (some 0), .int y1, .int y2] : List Value).toArray below meth c H locs 0 0 (MQ below (va_Qi Q (mPost G kdM ad) (mA ad)) ([mV ad (some 0), .int y1, .int y2] : List Value).toArray s 0 0 (mA ad)) (F0 m 81 ls []) := by
              intro  σ_81 H locs ls h_81 hM_81 hl_81
              replace h_81 := hJ81  σ_81 h_81
              refine lv_iconst (v := 0) hx hb dX3_queuedAt_81 (by decide) ?_
              exact hj82 (0 : Int32) σ_81 _ _ _ h_81 hM_81 (ml_sub hl_81 [0, 1, 2, 3, 4, 5] rfl)
            refine lv_icmp_ne (tgt := 81) hx hb dX3_queuedAt_64 (by decide) (fun hc83 => ?_) (fun hc83 => ?_)
            · replace h_40 := h_40.1 hc83
              exact hj81  σ_40 _ _ _ h_40 hM_40 (ml_sub hl_40 [0, 1, 2, 3, 4, 5] rfl)
            · replace h_40 := h_40.2 hc83
              refine mr_aload_n C dX3_queuedAt_67 rfl (ml_at hl_40 0 rfl) ?_
              refine fg_X3_52 (i := 0) C hM_40 (mO_fix hM_40 rfl (by decide) (by decide) (by decide)) dX3_queuedAt_68 ?_
              refine lv_iload hx hb dX3_queuedAt_71 (ml_at hl_40 5 rfl) ?_
              obtain ⟨j84, ej85, ej85b, h_40⟩ := h_40
              refine mr_iald C hM_40 (mB_fix hM_40 rfl (by decide) (by decide) (by decide)) ej85 ej85b (by decide) dX3_queuedAt_73 ?_
              refine lv_if_ne (tgt := 81) hx hb dX3_queuedAt_74 (by decide) (fun hc86 => ?_) (fun hc86 => ?_)
              · replace h_40 := h_40.1 hc86
                exact hj81  σ_40 _ _ _ h_40 hM_40 (ml_sub hl_40 [0, 1, 2, 3, 4, 5] rfl)
              · replace h_40 := h_40.2 hc86
                refine lv_iconst (v := 1) hx hb dX3_queuedAt_77 (by decide) ?_
                refine lv_goto (tgt := 82) hx hb dX3_queuedAt_78 (by decide) ?_
                exact hj82 (1 : Int32) σ_40 _ _ _ h_40 hM_40 (ml_sub hl_40 [0, 1, 2, 3, 4, 5] rfl)
      exact hL40 nn40 (0 : Int32) (0 : Int32) (0 : Int32) σ64 _ _ _ h35 hM63 (ml_sub hl67 [3, 4, 5, 2, 1, 0] rfl)
def w_X3_count (y1 : Int32) (y2 : Int32) (σ0 : mS) (Q : Int32 → mS → Prop) : Prop := w_X3_isService y1 σ0 (fun x4 σ1 => (∃ J27 : Int32 → mS → Prop, (∀ (xk0_27 : Int32) (σ_27 : mS), J27 xk0_27 σ_27 → (∀ σ6, σ6 = sI σ_27 0 0 xk0_27 → (((mI σ6 0 0) ≤ 0 → w_X3_manyOf y1 y2 σ6 (fun x11 σ8 => (Q x11 σ8))) ∧ (¬ (mI σ6 0 0) ≤ 0 → (Q (0 : Int32) σ6))))) ∧ ((¬ x4 = 0 → w_X3_in y2 (0 : Int32) (7 : Int32) σ1 (fun x16 σ13 => ((x16 = 0 → (J27 (2 : Int32) σ13)) ∧ (¬ x16 = 0 → (J27 (0 : Int32) σ13))))) ∧ (x4 = 0 → (J27 (1 : Int32) σ1)))))
set_option maxRecDepth 100000 in
set_option maxHeartbeats 4000000 in
theorem c_X3_count (l : Launch) (G : mG) (ad : Nat → Nat) (y1 : Int32) (y2 : Int32) (σ0 : mS) (Q : Int32 → mS → Prop) (h : w_X3_count y1 y2 σ0 Q) : mKi l yX3_count cX3_count 3 2 42 G kdM ad σ0 [mV ad (some 0), .int y1, .int y2] Q := by
  refine mr_start (lst := [(0, mV ad (some 0)), (1, .int y1), (2, .int y2)]) (by decide) (m_cR (m_cI (m_cI m_c0))) rfl (Nat.le_of_ble_eq_true rfl) (fun p e s m below meth c C hM hr hlk ls hl => ?_)
  have hx := C.1.1
  have hb := C.1.2.1
  unfold w_X3_count at h
  refine mr_aload_n C dX3_count_0 rfl (ml_at hl 0 rfl) ?_
  refine lv_iload_n hx hb dX3_count_1 rfl (ml_at hl 1 rfl) ?_
  refine mr_ci hM (mr_runS (As := [.int y1]) C hM hl.1.1 (c_X3_isService l G ad y1 σ0 _ h) cw_X3_97 (n := 1) ⟨rfl, by decide, by decide, by decide +kernel⟩ rfl rfl ⟨Nat.le_of_ble_eq_true rfl, Nat.le_of_ble_eq_true rfl⟩ (m_cR m_c0) (Nat.le_of_ble_eq_true rfl) dX3_count_2 ⟨Nat.zero_le _, Nat.zero_le _⟩) (fun x4 σ1 H locs h2 hM3 => ?_)
  clear h hM
  obtain ⟨h2, hzx4⟩ := h2
  obtain ⟨J27, hJ27, h2⟩ := h2
  have hj27 : ∀ (xk0_27 : Int32) (σ_27 : mS) (H : Heap) (locs : List Loc) (ls : Array Slot), J27 xk0_27 σ_27 → mM G kdM ad s σ_27 H locs → ml_has ls 3 [(0, mV ad (some 0)), (1, .int y1), (2, .int y2)] → W p l e (mRm 2 42) s m ([mV ad (some 0), .int y1, .int y2] : List Value).toArray below meth c H locs 0 0 (MQ below (va_Qi Q (mPost G kdM ad) (mA ad)) ([mV ad (some 0), .int y1, .int y2] : List Value).toArray s 0 0 (mA ad)) (F0 m 27 ls [.int xk0_27, mV ad (some 0)]) := by
    intro xk0_27 σ_27 H locs ls h_27 hM_27 hl_27
    replace h_27 := hJ27 xk0_27 σ_27 h_27
    refine fp_X3_86 C hM_27 (mO_fix hM_27 rfl (by decide) (by decide) (by decide)) dX3_count_27 xk0_27 (fun H locs hM5 => ?_)
    clear hM_27
    obtain ⟨σ6, eσ6⟩ : ∃ y, y = sI σ_27 0 0 xk0_27 := ⟨_, rfl⟩
    rw [← eσ6] at hM5
    replace h_27 := h_27 σ6 eσ6
    refine mr_aload_n C dX3_count_30 rfl (ml_at hl_27 0 rfl) ?_
    refine fg_X3_86 C hM5 (mO_fix hM5 rfl (by decide) (by decide) (by decide)) dX3_count_31 ?_
    refine lv_if_le (tgt := 41) hx hb dX3_count_34 (by decide) (fun hc7 => ?_) (fun hc7 => ?_)
    · replace h_27 := h_27.1 hc7
      refine mr_aload_n C dX3_count_41 rfl (ml_at hl_27 0 rfl) ?_
      refine lv_iload_n hx hb dX3_count_42 rfl (ml_at hl_27 1 rfl) ?_
      refine lv_iload_n hx hb dX3_count_43 rfl (ml_at hl_27 2 rfl) ?_
      refine mr_ci hM5 (mr_runV (As := [.int y1, .int y2]) C hM5 hl_27.1.1 (c_X3_manyOf l G ad y1 y2 σ6 _ h_27) cw_X3_107 (mO_fix hM5 rfl (by decide) (by decide) (by decide)) rfl rfl (n := 2) ⟨rfl, by decide, by decide, by decide +kernel⟩ rfl rfl ⟨Nat.le_of_ble_eq_true rfl, Nat.le_of_ble_eq_true rfl⟩ m_c0 (Nat.le_of_ble_eq_true rfl) dX3_count_44 ⟨Nat.zero_le _, Nat.zero_le _⟩) (fun x11 σ8 H locs h9 hM10 => ?_)
      clear h_27 hM5
      exact mr_iret C hM10 hr hlk h9 dX3_count_47
    · replace h_27 := h_27.2 hc7
      refine lv_iconst (v := 0) hx hb dX3_count_37 (by decide) ?_
      refine lv_goto (tgt := 47) hx hb dX3_count_38 (by decide) ?_
      exact mr_iret C hM5 hr hlk h_27 dX3_count_47
  refine lv_if_ne (tgt := 12) hx hb dX3_count_5 (by decide) (fun hc12 => ?_) (fun hc12 => ?_)
  · replace h2 := h2.1 hc12
    refine lv_iload_n hx hb dX3_count_12 rfl (ml_at hl 2 rfl) ?_
    refine lv_iconst (v := 0) hx hb dX3_count_13 (by decide) ?_
    refine lv_bipush (v := 7) hx hb dX3_count_14 (by decide) ?_
    refine mr_ci hM3 (mr_runS (As := [.int y2, .int (0 : Int32), .int (7 : Int32)]) C hM3 hl.1.1 (c_X3_in l G ad y2 (0 : Int32) (7 : Int32) σ1 _ h2) cw_X3_90 (n := 3) ⟨rfl, by decide, by decide, by decide +kernel⟩ rfl rfl ⟨Nat.le_of_ble_eq_true rfl, Nat.le_of_ble_eq_true rfl⟩ (m_cR m_c0) (Nat.le_of_ble_eq_true rfl) dX3_count_16 ⟨Nat.zero_le _, Nat.zero_le _⟩) (fun x16 σ13 H locs h14 hM15 => ?_)
    clear h2 hM3
    obtain ⟨h14, hzx16⟩ := h14
    refine lv_if_eq (tgt := 26) hx hb dX3_count_19 (by decide) (fun hc17 => ?_) (fun hc17 => ?_)
    · replace h14 := h14.1 hc17
      refine lv_iconst (v := 2) hx hb dX3_count_26 (by decide) ?_
      exact hj27 (2 : Int32) σ13 _ _ _ h14 hM15 (ml_sub hl [0, 1, 2] rfl)
    · replace h14 := h14.2 hc17
      refine lv_iconst (v := 0) hx hb dX3_count_22 (by decide) ?_
      refine lv_goto (tgt := 27) hx hb dX3_count_23 (by decide) ?_
      exact hj27 (0 : Int32) σ13 _ _ _ h14 hM15 (ml_sub hl [0, 1, 2] rfl)
  · replace h2 := h2.2 hc12
    refine lv_iconst (v := 1) hx hb dX3_count_8 (by decide) ?_
    refine lv_goto (tgt := 27) hx hb dX3_count_9 (by decide) ?_
    exact hj27 (1 : Int32) σ1 _ _ _ h2 hM3 (ml_sub hl [0, 1, 2] rfl)
def w_X3_tokens (y1 : Int32) (σ0 : mS) (Q : Int32 → mS → Prop) : Prop := w_X3_isService y1 σ0 (fun x4 σ1 => (∃ J13 : Int32 → mS → Prop, (∀ (xk0_13 : Int32) (σ_13 : mS), J13 xk0_13 σ_13 → (∀ σ6, σ6 = sI σ_13 0 0 xk0_13 → (((mI σ6 0 0) ≤ 0 → (∃ j8, y1 = nI j8 ∧ (j8 < 6 ∧ (Q (mI σ6 9 j8) σ6)))) ∧ (¬ (mI σ6 0 0) ≤ 0 → (Q (0 : Int32) σ6))))) ∧ ((x4 = 0 → (J13 (1 : Int32) σ1)) ∧ (¬ x4 = 0 → (J13 (0 : Int32) σ1)))))
set_option maxRecDepth 100000 in
set_option maxHeartbeats 4000000 in
theorem c_X3_tokens (l : Launch) (G : mG) (ad : Nat → Nat) (y1 : Int32) (σ0 : mS) (Q : Int32 → mS → Prop) (h : w_X3_tokens y1 σ0 Q) : mKi l yX3_tokens cX3_tokens 2 2 42 G kdM ad σ0 [mV ad (some 0), .int y1] Q := by
  refine mr_start (lst := [(0, mV ad (some 0)), (1, .int y1)]) (by decide) (m_cR (m_cI m_c0)) rfl (Nat.le_of_ble_eq_true rfl) (fun p e s m below meth c C hM hr hlk ls hl => ?_)
  have hx := C.1.1
  have hb := C.1.2.1
  unfold w_X3_tokens at h
  refine mr_aload_n C dX3_tokens_0 rfl (ml_at hl 0 rfl) ?_
  refine lv_iload_n hx hb dX3_tokens_1 rfl (ml_at hl 1 rfl) ?_
  refine mr_ci hM (mr_runS (As := [.int y1]) C hM hl.1.1 (c_X3_isService l G ad y1 σ0 _ h) cw_X3_97 (n := 1) ⟨rfl, by decide, by decide, by decide +kernel⟩ rfl rfl ⟨Nat.le_of_ble_eq_true rfl, Nat.le_of_ble_eq_true rfl⟩ (m_cR m_c0) (Nat.le_of_ble_eq_true rfl) dX3_tokens_2 ⟨Nat.zero_le _, Nat.zero_le _⟩) (fun x4 σ1 H locs h2 hM3 => ?_)
  clear h hM
  obtain ⟨h2, hzx4⟩ := h2
  obtain ⟨J13, hJ13, h2⟩ := h2
  have hj13 : ∀ (xk0_13 : Int32) (σ_13 : mS) (H : Heap) (locs : List Loc) (ls : Array Slot), J13 xk0_13 σ_13 → mM G kdM ad s σ_13 H locs → ml_has ls 2 [(0, mV ad (some 0)), (1, .int y1)] → W p l e (mRm 2 42) s m ([mV ad (some 0), .int y1] : List Value).toArray below meth c H locs 0 0 (MQ below (va_Qi Q (mPost G kdM ad) (mA ad)) ([mV ad (some 0), .int y1] : List Value).toArray s 0 0 (mA ad)) (F0 m 13 ls [.int xk0_13, mV ad (some 0)]) := by
    intro xk0_13 σ_13 H locs ls h_13 hM_13 hl_13
    replace h_13 := hJ13 xk0_13 σ_13 h_13
    refine fp_X3_86 C hM_13 (mO_fix hM_13 rfl (by decide) (by decide) (by decide)) dX3_tokens_13 xk0_13 (fun H locs hM5 => ?_)
    clear hM_13
    obtain ⟨σ6, eσ6⟩ : ∃ y, y = sI σ_13 0 0 xk0_13 := ⟨_, rfl⟩
    rw [← eσ6] at hM5
    replace h_13 := h_13 σ6 eσ6
    refine mr_aload_n C dX3_tokens_16 rfl (ml_at hl_13 0 rfl) ?_
    refine fg_X3_86 C hM5 (mO_fix hM5 rfl (by decide) (by decide) (by decide)) dX3_tokens_17 ?_
    refine lv_if_le (tgt := 27) hx hb dX3_tokens_20 (by decide) (fun hc7 => ?_) (fun hc7 => ?_)
    · replace h_13 := h_13.1 hc7
      refine mr_aload_n C dX3_tokens_27 rfl (ml_at hl_13 0 rfl) ?_
      refine fg_X3_34 (i := 0) C hM5 (mO_fix hM5 rfl (by decide) (by decide) (by decide)) dX3_tokens_28 ?_
      refine lv_iload_n hx hb dX3_tokens_31 rfl (ml_at hl_13 1 rfl) ?_
      obtain ⟨j8, ej9, ej9b, h_13⟩ := h_13
      refine mr_iald C hM5 (mB_fix hM5 rfl (by decide) (by decide) (by decide)) ej9 ej9b (by decide) dX3_tokens_32 ?_
      exact mr_iret C hM5 hr hlk h_13 dX3_tokens_33
    · replace h_13 := h_13.2 hc7
      refine lv_iconst (v := 0) hx hb dX3_tokens_23 (by decide) ?_
      refine lv_goto (tgt := 33) hx hb dX3_tokens_24 (by decide) ?_
      exact mr_iret C hM5 hr hlk h_13 dX3_tokens_33
  refine lv_if_eq (tgt := 12) hx hb dX3_tokens_5 (by decide) (fun hc10 => ?_) (fun hc10 => ?_)
  · replace h2 := h2.1 hc10
    refine lv_iconst (v := 1) hx hb dX3_tokens_12 (by decide) ?_
    exact hj13 (1 : Int32) σ1 _ _ _ h2 hM3 (ml_sub hl [0, 1] rfl)
  · replace h2 := h2.2 hc10
    refine lv_iconst (v := 0) hx hb dX3_tokens_8 (by decide) ?_
    refine lv_goto (tgt := 13) hx hb dX3_tokens_9 (by decide) ?_
    exact hj13 (0 : Int32) σ1 _ _ _ h2 hM3 (ml_sub hl [0, 1] rfl)
def w_X3_isOpen (y1 : Int32) (σ0 : mS) (Q : Int32 → mS → Prop) : Prop := w_X3_isService y1 σ0 (fun x4 σ1 => (∃ J13 : Int32 → mS → Prop, (∀ (xk0_13 : Int32) (σ_13 : mS), J13 xk0_13 σ_13 → (∀ σ6, σ6 = sI σ_13 0 0 xk0_13 → ((¬ (mI σ6 0 0) = 0 → (Q (0 : Int32) σ6)) ∧ ((mI σ6 0 0) = 0 → w_X3_isOpenNow y1 σ6 (fun x11 σ8 => ((x11 = 0 → (Q (0 : Int32) σ8)) ∧ (¬ x11 = 0 → (Q (1 : Int32) σ8)))))))) ∧ ((x4 = 0 → (J13 (1 : Int32) σ1)) ∧ (¬ x4 = 0 → (J13 (0 : Int32) σ1)))))
set_option maxRecDepth 100000 in
set_option maxHeartbeats 4000000 in
theorem c_X3_isOpen (l : Launch) (G : mG) (ad : Nat → Nat) (y1 : Int32) (σ0 : mS) (Q : Int32 → mS → Prop) (h : w_X3_isOpen y1 σ0 Q) : mKz l yX3_isOpen cX3_isOpen 2 2 42 G kdM ad σ0 [mV ad (some 0), .int y1] Q := by
  refine mr_start (lst := [(0, mV ad (some 0)), (1, .int y1)]) (by decide) (m_cR (m_cI m_c0)) rfl (Nat.le_of_ble_eq_true rfl) (fun p e s m below meth c C hM hr hlk ls hl => ?_)
  have hx := C.1.1
  have hb := C.1.2.1
  unfold w_X3_isOpen at h
  refine mr_aload_n C dX3_isOpen_0 rfl (ml_at hl 0 rfl) ?_
  refine lv_iload_n hx hb dX3_isOpen_1 rfl (ml_at hl 1 rfl) ?_
  refine mr_ci hM (mr_runS (As := [.int y1]) C hM hl.1.1 (c_X3_isService l G ad y1 σ0 _ h) cw_X3_97 (n := 1) ⟨rfl, by decide, by decide, by decide +kernel⟩ rfl rfl ⟨Nat.le_of_ble_eq_true rfl, Nat.le_of_ble_eq_true rfl⟩ (m_cR m_c0) (Nat.le_of_ble_eq_true rfl) dX3_isOpen_2 ⟨Nat.zero_le _, Nat.zero_le _⟩) (fun x4 σ1 H locs h2 hM3 => ?_)
  clear h hM
  obtain ⟨h2, hzx4⟩ := h2
  obtain ⟨J13, hJ13, h2⟩ := h2
  have hj13 : ∀ (xk0_13 : Int32) (σ_13 : mS) (H : Heap) (locs : List Loc) (ls : Array Slot), J13 xk0_13 σ_13 → mM G kdM ad s σ_13 H locs → ml_has ls 2 [(0, mV ad (some 0)), (1, .int y1)] → W p l e (mRm 2 42) s m ([mV ad (some 0), .int y1] : List Value).toArray below meth c H locs 0 0 (MQ below (va_Qi (fun r u => Q r u ∧ narrow .boolean (.int r) = .int r) (mPost G kdM ad) (mA ad)) ([mV ad (some 0), .int y1] : List Value).toArray s 0 0 (mA ad)) (F0 m 13 ls [.int xk0_13, mV ad (some 0)]) := by
    intro xk0_13 σ_13 H locs ls h_13 hM_13 hl_13
    replace h_13 := hJ13 xk0_13 σ_13 h_13
    refine fp_X3_86 C hM_13 (mO_fix hM_13 rfl (by decide) (by decide) (by decide)) dX3_isOpen_13 xk0_13 (fun H locs hM5 => ?_)
    clear hM_13
    obtain ⟨σ6, eσ6⟩ : ∃ y, y = sI σ_13 0 0 xk0_13 := ⟨_, rfl⟩
    rw [← eσ6] at hM5
    replace h_13 := h_13 σ6 eσ6
    refine mr_aload_n C dX3_isOpen_16 rfl (ml_at hl_13 0 rfl) ?_
    refine fg_X3_86 C hM5 (mO_fix hM5 rfl (by decide) (by decide) (by decide)) dX3_isOpen_17 ?_
    refine lv_if_ne (tgt := 35) hx hb dX3_isOpen_20 (by decide) (fun hc7 => ?_) (fun hc7 => ?_)
    · replace h_13 := h_13.1 hc7
      refine lv_iconst (v := 0) hx hb dX3_isOpen_35 (by decide) ?_
      exact mr_zret C hM5 hr hlk rfl h_13 dX3_isOpen_36
    · replace h_13 := h_13.2 hc7
      refine mr_aload_n C dX3_isOpen_23 rfl (ml_at hl_13 0 rfl) ?_
      refine lv_iload_n hx hb dX3_isOpen_24 rfl (ml_at hl_13 1 rfl) ?_
      refine mr_ci hM5 (mr_runV (As := [.int y1]) C hM5 hl_13.1.1 (c_X3_isOpenNow l G ad y1 σ6 _ h_13) cw_X3_111 (mO_fix hM5 rfl (by decide) (by decide) (by decide)) rfl rfl (n := 1) ⟨rfl, by decide, by decide, by decide +kernel⟩ rfl rfl ⟨Nat.le_of_ble_eq_true rfl, Nat.le_of_ble_eq_true rfl⟩ m_c0 (Nat.le_of_ble_eq_true rfl) dX3_isOpen_25 ⟨Nat.zero_le _, Nat.zero_le _⟩) (fun x11 σ8 H locs h9 hM10 => ?_)
      clear h_13 hM5
      obtain ⟨h9, hzx11⟩ := h9
      refine lv_if_eq (tgt := 35) hx hb dX3_isOpen_28 (by decide) (fun hc12 => ?_) (fun hc12 => ?_)
      · replace h9 := h9.1 hc12
        refine lv_iconst (v := 0) hx hb dX3_isOpen_35 (by decide) ?_
        exact mr_zret C hM10 hr hlk rfl h9 dX3_isOpen_36
      · replace h9 := h9.2 hc12
        refine lv_iconst (v := 1) hx hb dX3_isOpen_31 (by decide) ?_
        refine lv_goto (tgt := 36) hx hb dX3_isOpen_32 (by decide) ?_
        exact mr_zret C hM10 hr hlk rfl h9 dX3_isOpen_36
  refine lv_if_eq (tgt := 12) hx hb dX3_isOpen_5 (by decide) (fun hc13 => ?_) (fun hc13 => ?_)
  · replace h2 := h2.1 hc13
    refine lv_iconst (v := 1) hx hb dX3_isOpen_12 (by decide) ?_
    exact hj13 (1 : Int32) σ1 _ _ _ h2 hM3 (ml_sub hl [0, 1] rfl)
  · replace h2 := h2.2 hc13
    refine lv_iconst (v := 0) hx hb dX3_isOpen_8 (by decide) ?_
    refine lv_goto (tgt := 13) hx hb dX3_isOpen_9 (by decide) ?_
    exact hj13 (0 : Int32) σ1 _ _ _ h2 hM3 (ml_sub hl [0, 1] rfl)
