def w_L_begin (y0 : Int32) (y1 : Int32) (y2 : Int32) (σ0 : mS) (Q : mS → Prop) : Prop := (∃ j1, (1 : Int32) = nI j1 ∧ (j1 < 3 ∧ w_L_many y0 (1 : Int32) σ0 (fun x7 σ4 => (∃ j8, (((10 : Int32) * y0) + (4 : Int32)) = nI j8 ∧ (j8 < 60 ∧ (∃ J31 : Int32 → mS → Prop, (∀ (xk0_31 : Int32) (σ_31 : mS), J31 xk0_31 σ_31 → w_L_many y0 (0 : Int32) σ_31 (fun x14 σ11 => (∃ j15, (((10 : Int32) * y0) + (5 : Int32)) = nI j15 ∧ (j15 < 60 ∧ (∃ J58 : Int32 → mS → Prop, (∀ (xk0_58 : Int32) (σ_58 : mS), J58 xk0_58 σ_58 → (∃ J85 : Int32 → mS → Prop, (∀ (xk0_85 : Int32) (σ_85 : mS), J85 xk0_85 σ_85 → (∃ j18, (mI σ0 0 j1) = nI j18 ∧ (j18 < 60 ∧ (∀ σ21, σ21 = sI σ_85 2 j18 (y0 + xk0_85) → (∃ j22, (mI σ0 0 j1) = nI j22 ∧ (j22 < 60 ∧ (∀ σ25, σ25 = sI σ21 3 j22 y1 → (∃ j26, (mI σ0 0 j1) = nI j26 ∧ (j26 < 60 ∧ (∀ σ29, σ29 = sI σ25 4 j26 y2 → (∃ j30, (mI σ0 0 j1) = nI j30 ∧ (j30 < 60 ∧ (∀ σ33, σ33 = sI σ29 6 j30 (-1 : Int32) → (∃ j34, (0 : Int32) = nI j34 ∧ (j34 < 3 ∧ (∃ j36, ((10 : Int32) * y0) = nI j36 ∧ (j36 < 60 ∧ (∃ j38, (mI σ0 0 j1) = nI j38 ∧ (j38 < 60 ∧ (∀ σ41, σ41 = sI σ33 5 j38 ((mI σ33 0 j34) + (mI σ33 1 j36)) → (∃ j42, (1 : Int32) = nI j42 ∧ (j42 < 3 ∧ (∃ j44, (1 : Int32) = nI j44 ∧ (j44 < 3 ∧ (∀ σ47, σ47 = sI σ41 0 j44 ((mI σ41 0 j42) + (1 : Int32)) → (∃ j48, (0 : Int32) = nI j48 ∧ (j48 < 3 ∧ (∃ j50, (((10 : Int32) * y0) + (9 : Int32)) = nI j50 ∧ (j50 < 60 ∧ (((mI σ47 1 j50) ≤ (mI σ47 0 j48) → (∃ j53, (mI σ0 0 j1) = nI j53 ∧ (j53 < 60 ∧ (∃ J182 : mS → Prop, (∀  (σ_182 : mS), J182  σ_182 → w_L_end (mI σ0 0 j1) (6 : Int32) σ_182 (fun σ55 => (Q σ55))) ∧ ((y1 < (mI σ47 5 j53) → (J182  σ47)) ∧ (¬ y1 < (mI σ47 5 j53) → (∃ J201 : mS → Prop, (∀  (σ_201 : mS), J201  σ_201 → ((xk0_31 = 0 → w_L_put (mI σ0 0 j1) (3 : Int32) (3 : Int32) (1 : Int32) σ_201 (fun σ60 => (Q σ60))) ∧ (¬ xk0_31 = 0 → w_L_put (mI σ0 0 j1) (3 : Int32) (3 : Int32) (0 : Int32) σ_201 (fun σ63 => (Q σ63))))) ∧ ((xk0_31 = 0 → (J201  σ47)) ∧ (¬ xk0_31 = 0 → ((xk0_58 = 0 → (J201  σ47)) ∧ (¬ xk0_58 = 0 → (J182  σ47)))))))))))) ∧ (¬ (mI σ47 1 j50) ≤ (mI σ47 0 j48) → w_L_end (mI σ0 0 j1) (4 : Int32) σ47 (fun σ68 => (Q σ68))))))))))))))))))))))))))))))))) ∧ ((0 ≤ y2 → w_L_get y2 (6 : Int32) (2 : Int32) σ_58 (fun x75 σ72 => (J85 (x75 <<< ((18 : Int32) &&& 31)) σ72))) ∧ (¬ 0 ≤ y2 → (J85 (0 : Int32) σ_58))))) ∧ ((x14 < (mI σ11 1 j15) → (J58 (0 : Int32) σ11)) ∧ (¬ x14 < (mI σ11 1 j15) → (J58 (1 : Int32) σ11)))))))) ∧ ((x7 < (mI σ4 1 j8) → (J31 (0 : Int32) σ4)) ∧ (¬ x7 < (mI σ4 1 j8) → (J31 (1 : Int32) σ4)))))))))
set_option maxRecDepth 100000 in
set_option maxHeartbeats 4000000 in
theorem c_L_begin (l : Launch) (G : mG) (ad : Nat → Nat) (y0 : Int32) (y1 : Int32) (y2 : Int32) (σ0 : mS) (Q : mS → Prop) (h : w_L_begin y0 y1 y2 σ0 Q) : mKv l yL_begin cL_begin 13 2 53 G kdL ad σ0 [.int y0, .int y1, .int y2, mV ad (some 1), mV ad (some 2), mV ad (some 3), mV ad (some 4), mV ad (some 5), mV ad (some 6), mV ad (some 0)] Q := by
  refine mr_start (lst := [(0, .int y0), (1, .int y1), (2, .int y2), (3, mV ad (some 1)), (4, mV ad (some 2)), (5, mV ad (some 3)), (6, mV ad (some 4)), (7, mV ad (some 5)), (8, mV ad (some 6)), (9, mV ad (some 0))]) (by decide) (m_cI (m_cI (m_cI (m_cR (m_cR (m_cR (m_cR (m_cR (m_cR (m_cR m_c0)))))))))) rfl (Nat.le_of_ble_eq_true rfl) (fun p e s m below meth c C hM hr hlk ls hl => ?_)
  have hx := C.1.1
  have hb := C.1.2.1
  unfold w_L_begin at h
  refine mr_aload C dL_begin_0 (ml_at hl 9 rfl) ?_
  refine lv_iconst (v := 1) hx hb dL_begin_2 (by decide) ?_
  obtain ⟨j1, ej2, ej2b, h⟩ := h
  refine mr_iald C hM (mB_fix hM rfl (by decide) (by decide) (by decide)) ej2 ej2b (by decide) dL_begin_3 ?_
  refine mr_istore (lv' := [(10, .int (mI σ0 0 j1)), (0, .int y0), (1, .int y1), (2, .int y2), (3, mV ad (some 1)), (4, mV ad (some 2)), (5, mV ad (some 3)), (6, mV ad (some 4)), (7, mV ad (some 5)), (8, mV ad (some 6)), (9, mV ad (some 0))]) C hl dL_begin_4 (by decide) rfl (fun ls hl3 => ?_)
  clear hl
  refine mr_aload C dL_begin_6 (ml_at hl3 5 rfl) ?_
  refine mr_aload C dL_begin_8 (ml_at hl3 10 rfl) ?_
  refine lv_iload_n hx hb dL_begin_10 rfl (ml_at hl3 1 rfl) ?_
  refine lv_iconst (v := 1) hx hb dL_begin_11 (by decide) ?_
  refine mr_ci hM (mr_runS (As := [mV ad (some 2), mV ad (some 0), .int y0, .int (1 : Int32)]) C hM hl3.1.1 (c_L_many l G ad y0 (1 : Int32) σ0 _ h) cw_L_63 (n := 4) ⟨rfl, by decide, by decide, by decide +kernel⟩ rfl rfl ⟨Nat.le_of_ble_eq_true rfl, Nat.le_of_ble_eq_true rfl⟩ m_c0 (Nat.le_of_ble_eq_true rfl) dL_begin_12 ⟨Nat.zero_le _, Nat.zero_le _⟩) (fun x7 σ4 H locs h5 hM6 => ?_)
  clear h hM
  refine mr_aload_n C dL_begin_15 rfl (ml_at hl3 4 rfl) ?_
  refine lv_bipush (v := 10) hx hb dL_begin_16 (by decide) ?_
  refine lv_iload_n hx hb dL_begin_18 rfl (ml_at hl3 1 rfl) ?_
  refine lv_imul hx hb dL_begin_19 ?_
  refine lv_iconst (v := 4) hx hb dL_begin_20 (by decide) ?_
  refine lv_iadd hx hb dL_begin_21 ?_
  obtain ⟨j8, ej9, ej9b, h5⟩ := h5
  refine mr_iald C hM6 (mB_fix hM6 rfl (by decide) (by decide) (by decide)) ej9 ej9b (by decide) dL_begin_22 ?_
  obtain ⟨J31, hJ31, h5⟩ := h5
  have hj31 : ∀ (xk0_31 : Int32) (σ_31 : mS) (H : Heap) (locs : List Loc) (ls : Array Slot), J31 xk0_31 σ_31 → mM G kdL ad s σ_31 H locs → ml_has ls 13 [(0, .int y0), (1, .int y1), (2, .int y2), (3, mV ad (some 1)), (4, mV ad (some 2)), (5, mV ad (some 3)), (6, mV ad (some 4)), (7, mV ad (some 5)), (8, mV ad (some 6)), (9, mV ad (some 0)), (10, .int (mI σ0 0 j1))] → W p l e (mRm 2 53) s m ([.int y0, .int y1, .int y2, mV ad (some 1), mV ad (some 2), mV ad (some 3), mV ad (some 4), mV ad (some 5), mV ad (some 6), mV ad (some 0)] : List Value).toArray below meth c H locs 0 0 (MQ below (va_Qv Q (mPost G kdL ad) (mA ad)) ([.int y0, .int y1, .int y2, mV ad (some 1), mV ad (some 2), mV ad (some 3), mV ad (some 4), mV ad (some 5), mV ad (some 6), mV ad (some 0)] : List Value).toArray s 0 0 (mA ad)) (F0 m 31 ls [.int xk0_31]) := by
    intro xk0_31 σ_31 H locs ls h_31 hM_31 hl_31
    replace h_31 := hJ31 xk0_31 σ_31 h_31
    refine mr_istore (lv' := [(11, .int xk0_31), (0, .int y0), (1, .int y1), (2, .int y2), (3, mV ad (some 1)), (4, mV ad (some 2)), (5, mV ad (some 3)), (6, mV ad (some 4)), (7, mV ad (some 5)), (8, mV ad (some 6)), (9, mV ad (some 0)), (10, .int (mI σ0 0 j1))]) C hl_31 dL_begin_31 (by decide) rfl (fun ls hl10 => ?_)
    clear hl_31
    refine mr_aload C dL_begin_33 (ml_at hl10 5 rfl) ?_
    refine mr_aload C dL_begin_35 (ml_at hl10 10 rfl) ?_
    refine lv_iload_n hx hb dL_begin_37 rfl (ml_at hl10 1 rfl) ?_
    refine lv_iconst (v := 0) hx hb dL_begin_38 (by decide) ?_
    refine mr_ci hM_31 (mr_runS (As := [mV ad (some 2), mV ad (some 0), .int y0, .int (0 : Int32)]) C hM_31 hl10.1.1 (c_L_many l G ad y0 (0 : Int32) σ_31 _ h_31) cw_L_63 (n := 4) ⟨rfl, by decide, by decide, by decide +kernel⟩ rfl rfl ⟨Nat.le_of_ble_eq_true rfl, Nat.le_of_ble_eq_true rfl⟩ m_c0 (Nat.le_of_ble_eq_true rfl) dL_begin_39 ⟨Nat.zero_le _, Nat.zero_le _⟩) (fun x14 σ11 H locs h12 hM13 => ?_)
    clear h_31 hM_31
    refine mr_aload_n C dL_begin_42 rfl (ml_at hl10 4 rfl) ?_
    refine lv_bipush (v := 10) hx hb dL_begin_43 (by decide) ?_
    refine lv_iload_n hx hb dL_begin_45 rfl (ml_at hl10 1 rfl) ?_
    refine lv_imul hx hb dL_begin_46 ?_
    refine lv_iconst (v := 5) hx hb dL_begin_47 (by decide) ?_
    refine lv_iadd hx hb dL_begin_48 ?_
    obtain ⟨j15, ej16, ej16b, h12⟩ := h12
    refine mr_iald C hM13 (mB_fix hM13 rfl (by decide) (by decide) (by decide)) ej16 ej16b (by decide) dL_begin_49 ?_
    obtain ⟨J58, hJ58, h12⟩ := h12
    have hj58 : ∀ (xk0_58 : Int32) (σ_58 : mS) (H : Heap) (locs : List Loc) (ls : Array Slot), J58 xk0_58 σ_58 → mM G kdL ad s σ_58 H locs → ml_has ls 13 [(0, .int y0), (1, .int y1), (2, .int y2), (3, mV ad (some 1)), (4, mV ad (some 2)), (5, mV ad (some 3)), (6, mV ad (some 4)), (7, mV ad (some 5)), (8, mV ad (some 6)), (9, mV ad (some 0)), (10, .int (mI σ0 0 j1)), (11, .int xk0_31)] → W p l e (mRm 2 53) s m ([.int y0, .int y1, .int y2, mV ad (some 1), mV ad (some 2), mV ad (some 3), mV ad (some 4), mV ad (some 5), mV ad (some 6), mV ad (some 0)] : List Value).toArray below meth c H locs 0 0 (MQ below (va_Qv Q (mPost G kdL ad) (mA ad)) ([.int y0, .int y1, .int y2, mV ad (some 1), mV ad (some 2), mV ad (some 3), mV ad (some 4), mV ad (some 5), mV ad (some 6), mV ad (some 0)] : List Value).toArray s 0 0 (mA ad)) (F0 m 58 ls [.int xk0_58]) := by
      intro xk0_58 σ_58 H locs ls h_58 hM_58 hl_58
      replace h_58 := hJ58 xk0_58 σ_58 h_58
      refine mr_istore (lv' := [(12, .int xk0_58), (0, .int y0), (1, .int y1), (2, .int y2), (3, mV ad (some 1)), (4, mV ad (some 2)), (5, mV ad (some 3)), (6, mV ad (some 4)), (7, mV ad (some 5)), (8, mV ad (some 6)), (9, mV ad (some 0)), (10, .int (mI σ0 0 j1)), (11, .int xk0_31)]) C hl_58 dL_begin_58 (by decide) rfl (fun ls hl17 => ?_)
      clear hl_58
      refine mr_aload C dL_begin_60 (ml_at hl17 5 rfl) ?_
      refine lv_iload hx hb dL_begin_62 (ml_at hl17 11 rfl) ?_
      refine lv_iload_n hx hb dL_begin_64 rfl (ml_at hl17 1 rfl) ?_
      refine lv_iload_n hx hb dL_begin_65 rfl (ml_at hl17 3 rfl) ?_
      obtain ⟨J85, hJ85, h_58⟩ := h_58
      have hj85 : ∀ (xk0_85 : Int32) (σ_85 : mS) (H : Heap) (locs : List Loc) (ls : Array Slot), J85 xk0_85 σ_85 → mM G kdL ad s σ_85 H locs → ml_has ls 13 [(0, .int y0), (1, .int y1), (2, .int y2), (3, mV ad (some 1)), (4, mV ad (some 2)), (5, mV ad (some 3)), (6, mV ad (some 4)), (7, mV ad (some 5)), (8, mV ad (some 6)), (9, mV ad (some 0)), (10, .int (mI σ0 0 j1)), (11, .int xk0_31), (12, .int xk0_58)] → W p l e (mRm 2 53) s m ([.int y0, .int y1, .int y2, mV ad (some 1), mV ad (some 2), mV ad (some 3), mV ad (some 4), mV ad (some 5), mV ad (some 6), mV ad (some 0)] : List Value).toArray below meth c H locs 0 0 (MQ below (va_Qv Q (mPost G kdL ad) (mA ad)) ([.int y0, .int y1, .int y2, mV ad (some 1), mV ad (some 2), mV ad (some 3), mV ad (some 4), mV ad (some 5), mV ad (some 6), mV ad (some 0)] : List Value).toArray s 0 0 (mA ad)) (F0 m 85 ls [.int xk0_85, .int y0, .int (mI σ0 0 j1), mV ad (some 2)]) := by
        intro xk0_85 σ_85 H locs ls h_85 hM_85 hl_85
        replace h_85 := hJ85 xk0_85 σ_85 h_85
        refine lv_iadd hx hb dL_begin_85 ?_
        obtain ⟨j18, ej19, ej19b, h_85⟩ := h_85
        refine mr_iast C hM_85 (mB_fix hM_85 rfl (by decide) (by decide) (by decide)) ej19 ej19b (by decide) dL_begin_86 (fun H locs hM20 => ?_)
        clear hM_85
        obtain ⟨σ21, eσ21⟩ : ∃ y, y = sI σ_85 2 j18 (y0 + xk0_85) := ⟨_, rfl⟩
        rw [← eσ21] at hM20
        replace h_85 := h_85 σ21 eσ21
        refine mr_aload C dL_begin_87 (ml_at hl_85 5 rfl) ?_
        refine lv_iload hx hb dL_begin_89 (ml_at hl_85 10 rfl) ?_
        refine lv_iload_n hx hb dL_begin_91 rfl (ml_at hl_85 1 rfl) ?_
        obtain ⟨j22, ej23, ej23b, h_85⟩ := h_85
        refine mr_iast C hM20 (mB_fix hM20 rfl (by decide) (by decide) (by decide)) ej23 ej23b (by decide) dL_begin_92 (fun H locs hM24 => ?_)
        clear hM20
        obtain ⟨σ25, eσ25⟩ : ∃ y, y = sI σ21 3 j22 y1 := ⟨_, rfl⟩
        rw [← eσ25] at hM24
        replace h_85 := h_85 σ25 eσ25
        refine mr_aload C dL_begin_93 (ml_at hl_85 6 rfl) ?_
        refine lv_iload hx hb dL_begin_95 (ml_at hl_85 10 rfl) ?_
        refine lv_iload_n hx hb dL_begin_97 rfl (ml_at hl_85 2 rfl) ?_
        obtain ⟨j26, ej27, ej27b, h_85⟩ := h_85
        refine mr_iast C hM24 (mB_fix hM24 rfl (by decide) (by decide) (by decide)) ej27 ej27b (by decide) dL_begin_98 (fun H locs hM28 => ?_)
        clear hM24
        obtain ⟨σ29, eσ29⟩ : ∃ y, y = sI σ25 4 j26 y2 := ⟨_, rfl⟩
        rw [← eσ29] at hM28
        replace h_85 := h_85 σ29 eσ29
        refine mr_aload C dL_begin_99 (ml_at hl_85 8 rfl) ?_
        refine lv_iload hx hb dL_begin_101 (ml_at hl_85 10 rfl) ?_
        refine lv_iconst (v := -1) hx hb dL_begin_103 (by decide) ?_
        obtain ⟨j30, ej31, ej31b, h_85⟩ := h_85
        refine mr_iast C hM28 (mB_fix hM28 rfl (by decide) (by decide) (by decide)) ej31 ej31b (by decide) dL_begin_104 (fun H locs hM32 => ?_)
        clear hM28
        obtain ⟨σ33, eσ33⟩ : ∃ y, y = sI σ29 6 j30 (-1 : Int32) := ⟨_, rfl⟩
        rw [← eσ33] at hM32
        replace h_85 := h_85 σ33 eσ33
        refine mr_aload C dL_begin_105 (ml_at hl_85 7 rfl) ?_
        refine lv_iload hx hb dL_begin_107 (ml_at hl_85 10 rfl) ?_
        refine mr_aload C dL_begin_109 (ml_at hl_85 9 rfl) ?_
        refine lv_iconst (v := 0) hx hb dL_begin_111 (by decide) ?_
        obtain ⟨j34, ej35, ej35b, h_85⟩ := h_85
        refine mr_iald C hM32 (mB_fix hM32 rfl (by decide) (by decide) (by decide)) ej35 ej35b (by decide) dL_begin_112 ?_
        refine mr_aload_n C dL_begin_113 rfl (ml_at hl_85 3 rfl) ?_
        refine lv_bipush (v := 10) hx hb dL_begin_114 (by decide) ?_
        refine lv_iload_n hx hb dL_begin_116 rfl (ml_at hl_85 0 rfl) ?_
        refine lv_imul hx hb dL_begin_117 ?_
        obtain ⟨j36, ej37, ej37b, h_85⟩ := h_85
        refine mr_iald C hM32 (mB_fix hM32 rfl (by decide) (by decide) (by decide)) ej37 ej37b (by decide) dL_begin_118 ?_
        refine lv_iadd hx hb dL_begin_119 ?_
        obtain ⟨j38, ej39, ej39b, h_85⟩ := h_85
        refine mr_iast C hM32 (mB_fix hM32 rfl (by decide) (by decide) (by decide)) ej39 ej39b (by decide) dL_begin_120 (fun H locs hM40 => ?_)
        clear hM32
        obtain ⟨σ41, eσ41⟩ : ∃ y, y = sI σ33 5 j38 ((mI σ33 0 j34) + (mI σ33 1 j36)) := ⟨_, rfl⟩
        rw [← eσ41] at hM40
        replace h_85 := h_85 σ41 eσ41
        refine mr_aload C dL_begin_121 (ml_at hl_85 9 rfl) ?_
        refine lv_iconst (v := 1) hx hb dL_begin_123 (by decide) ?_
        refine lv_dup2_11 hx hb dL_begin_124 rfl (mV_cat _ _) ?_
        obtain ⟨j42, ej43, ej43b, h_85⟩ := h_85
        refine mr_iald C hM40 (mB_fix hM40 rfl (by decide) (by decide) (by decide)) ej43 ej43b (by decide) dL_begin_125 ?_
        refine lv_iconst (v := 1) hx hb dL_begin_126 (by decide) ?_
        refine lv_iadd hx hb dL_begin_127 ?_
        obtain ⟨j44, ej45, ej45b, h_85⟩ := h_85
        refine mr_iast C hM40 (mB_fix hM40 rfl (by decide) (by decide) (by decide)) ej45 ej45b (by decide) dL_begin_128 (fun H locs hM46 => ?_)
        clear hM40
        obtain ⟨σ47, eσ47⟩ : ∃ y, y = sI σ41 0 j44 ((mI σ41 0 j42) + (1 : Int32)) := ⟨_, rfl⟩
        rw [← eσ47] at hM46
        replace h_85 := h_85 σ47 eσ47
        refine mr_aload C dL_begin_129 (ml_at hl_85 9 rfl) ?_
        refine lv_iconst (v := 0) hx hb dL_begin_131 (by decide) ?_
        obtain ⟨j48, ej49, ej49b, h_85⟩ := h_85
        refine mr_iald C hM46 (mB_fix hM46 rfl (by decide) (by decide) (by decide)) ej49 ej49b (by decide) dL_begin_132 ?_
        refine mr_aload_n C dL_begin_133 rfl (ml_at hl_85 3 rfl) ?_
        refine lv_bipush (v := 10) hx hb dL_begin_134 (by decide) ?_
        refine lv_iload_n hx hb dL_begin_136 rfl (ml_at hl_85 0 rfl) ?_
        refine lv_imul hx hb dL_begin_137 ?_
        refine lv_bipush (v := 9) hx hb dL_begin_138 (by decide) ?_
        refine lv_iadd hx hb dL_begin_140 ?_
        obtain ⟨j50, ej51, ej51b, h_85⟩ := h_85
        refine mr_iald C hM46 (mB_fix hM46 rfl (by decide) (by decide) (by decide)) ej51 ej51b (by decide) dL_begin_141 ?_
        refine lv_icmp_ge (tgt := 163) hx hb dL_begin_142 (by decide) (fun hc52 => ?_) (fun hc52 => ?_)
        · replace h_85 := h_85.1 hc52
          refine mr_aload C dL_begin_163 (ml_at hl_85 7 rfl) ?_
          refine lv_iload hx hb dL_begin_165 (ml_at hl_85 10 rfl) ?_
          obtain ⟨j53, ej54, ej54b, h_85⟩ := h_85
          refine mr_iald C hM46 (mB_fix hM46 rfl (by decide) (by decide) (by decide)) ej54 ej54b (by decide) dL_begin_167 ?_
          refine lv_iload_n hx hb dL_begin_168 rfl (ml_at hl_85 1 rfl) ?_
          obtain ⟨J182, hJ182, h_85⟩ := h_85
          have hj182 : ∀  (σ_182 : mS) (H : Heap) (locs : List Loc) (ls : Array Slot), J182  σ_182 → mM G kdL ad s σ_182 H locs → ml_has ls 13 [(3, mV ad (some 1)), (4, mV ad (some 2)), (6, mV ad (some 4)), (8, mV ad (some 6)), (9, mV ad (some 0)), (10, .int (mI σ0 0 j1))] → W p l e (mRm 2 53) s m ([.int y0, .int y1, .int y2, mV ad (some 1), mV ad (some 2), mV ad (some 3), mV ad (some 4), mV ad (some 5), mV ad (some 6), mV ad (some 0)] : List Value).toArray below meth c H locs 0 0 (MQ below (va_Qv Q (mPost G kdL ad) (mA ad)) ([.int y0, .int y1, .int y2, mV ad (some 1), mV ad (some 2), mV ad (some 3), mV ad (some 4), mV ad (some 5), mV ad (some 6), mV ad (some 0)] : List Value).toArray s 0 0 (mA ad)) (F0 m 182 ls []) := by
            intro  σ_182 H locs ls h_182 hM_182 hl_182
            replace h_182 := hJ182  σ_182 h_182
            refine lv_iload hx hb dL_begin_182 (ml_at hl_182 5 rfl) ?_
            refine lv_bipush (v := 6) hx hb dL_begin_184 (by decide) ?_
            refine mr_aload_n C dL_begin_186 rfl (ml_at hl_182 0 rfl) ?_
            refine mr_aload C dL_begin_187 (ml_at hl_182 1 rfl) ?_
            refine mr_aload C dL_begin_189 (ml_at hl_182 2 rfl) ?_
            refine mr_aload C dL_begin_191 (ml_at hl_182 3 rfl) ?_
            refine mr_aload C dL_begin_193 (ml_at hl_182 4 rfl) ?_
            refine mr_cv hM_182 (mr_runS (As := [.int (mI σ0 0 j1), .int (6 : Int32), mV ad (some 1), mV ad (some 2), mV ad (some 4), mV ad (some 6), mV ad (some 0)]) C hM_182 hl_182.1.1 (c_L_end l G ad (mI σ0 0 j1) (6 : Int32) σ_182 _ h_182) cw_L_67 (n := 7) ⟨rfl, by decide, by decide, by decide +kernel⟩ rfl rfl ⟨Nat.le_of_ble_eq_true rfl, Nat.le_of_ble_eq_true rfl⟩ m_c0 (Nat.le_of_ble_eq_true rfl) dL_begin_195 ⟨Nat.zero_le _, Nat.zero_le _⟩) (fun σ55 H locs h56 hM57 => ?_)
            clear h_182 hM_182
            refine lv_goto (tgt := 220) hx hb dL_begin_198 (by decide) ?_
            exact mr_vret C hM57 hr hlk h56 dL_begin_220
          refine lv_icmp_gt (tgt := 182) hx hb dL_begin_169 (by decide) (fun hc58 => ?_) (fun hc58 => ?_)
          · replace h_85 := h_85.1 hc58
            exact hj182  σ47 _ _ _ h_85 hM46 (ml_sub hl_85 [3, 4, 6, 8, 9, 10] rfl)
          · replace h_85 := h_85.2 hc58
            refine lv_iload hx hb dL_begin_172 (ml_at hl_85 11 rfl) ?_
            obtain ⟨J201, hJ201, h_85⟩ := h_85
            have hj201 : ∀  (σ_201 : mS) (H : Heap) (locs : List Loc) (ls : Array Slot), J201  σ_201 → mM G kdL ad s σ_201 H locs → ml_has ls 13 [(4, mV ad (some 2)), (10, .int (mI σ0 0 j1)), (11, .int xk0_31)] → W p l e (mRm 2 53) s m ([.int y0, .int y1, .int y2, mV ad (some 1), mV ad (some 2), mV ad (some 3), mV ad (some 4), mV ad (some 5), mV ad (some 6), mV ad (some 0)] : List Value).toArray below meth c H locs 0 0 (MQ below (va_Qv Q (mPost G kdL ad) (mA ad)) ([.int y0, .int y1, .int y2, mV ad (some 1), mV ad (some 2), mV ad (some 3), mV ad (some 4), mV ad (some 5), mV ad (some 6), mV ad (some 0)] : List Value).toArray s 0 0 (mA ad)) (F0 m 201 ls []) := by
              intro  σ_201 H locs ls h_201 hM_201 hl_201
              replace h_201 := hJ201  σ_201 h_201
              refine mr_aload C dL_begin_201 (ml_at hl_201 0 rfl) ?_
              refine lv_iload hx hb dL_begin_203 (ml_at hl_201 1 rfl) ?_
              refine lv_iconst (v := 3) hx hb dL_begin_205 (by decide) ?_
              refine lv_iconst (v := 3) hx hb dL_begin_206 (by decide) ?_
              refine lv_iload hx hb dL_begin_207 (ml_at hl_201 2 rfl) ?_
              refine lv_if_eq (tgt := 216) hx hb dL_begin_209 (by decide) (fun hc59 => ?_) (fun hc59 => ?_)
              · replace h_201 := h_201.1 hc59
                refine lv_iconst (v := 1) hx hb dL_begin_216 (by decide) ?_
                refine mr_cv hM_201 (mr_runS (As := [mV ad (some 2), .int (mI σ0 0 j1), .int (3 : Int32), .int (3 : Int32), .int (1 : Int32)]) C hM_201 hl_201.1.1 (c_L_put l G ad (mI σ0 0 j1) (3 : Int32) (3 : Int32) (1 : Int32) σ_201 _ h_201) cw_L_53 (n := 5) ⟨rfl, by decide, by decide, by decide +kernel⟩ rfl rfl ⟨Nat.le_of_ble_eq_true rfl, Nat.le_of_ble_eq_true rfl⟩ m_c0 (Nat.le_of_ble_eq_true rfl) dL_begin_217 ⟨Nat.zero_le _, Nat.zero_le _⟩) (fun σ60 H locs h61 hM62 => ?_)
                clear h_201 hM_201
                exact mr_vret C hM62 hr hlk h61 dL_begin_220
              · replace h_201 := h_201.2 hc59
                refine lv_iconst (v := 0) hx hb dL_begin_212 (by decide) ?_
                refine lv_goto (tgt := 217) hx hb dL_begin_213 (by decide) ?_
                refine mr_cv hM_201 (mr_runS (As := [mV ad (some 2), .int (mI σ0 0 j1), .int (3 : Int32), .int (3 : Int32), .int (0 : Int32)]) C hM_201 hl_201.1.1 (c_L_put l G ad (mI σ0 0 j1) (3 : Int32) (3 : Int32) (0 : Int32) σ_201 _ h_201) cw_L_53 (n := 5) ⟨rfl, by decide, by decide, by decide +kernel⟩ rfl rfl ⟨Nat.le_of_ble_eq_true rfl, Nat.le_of_ble_eq_true rfl⟩ m_c0 (Nat.le_of_ble_eq_true rfl) dL_begin_217 ⟨Nat.zero_le _, Nat.zero_le _⟩) (fun σ63 H locs h64 hM65 => ?_)
                clear h_201 hM_201
                exact mr_vret C hM65 hr hlk h64 dL_begin_220
            refine lv_if_eq (tgt := 201) hx hb dL_begin_174 (by decide) (fun hc66 => ?_) (fun hc66 => ?_)
            · replace h_85 := h_85.1 hc66
              exact hj201  σ47 _ _ _ h_85 hM46 (ml_sub hl_85 [4, 10, 11] rfl)
            · replace h_85 := h_85.2 hc66
              refine lv_iload hx hb dL_begin_177 (ml_at hl_85 12 rfl) ?_
              refine lv_if_eq (tgt := 201) hx hb dL_begin_179 (by decide) (fun hc67 => ?_) (fun hc67 => ?_)
              · replace h_85 := h_85.1 hc67
                exact hj201  σ47 _ _ _ h_85 hM46 (ml_sub hl_85 [4, 10, 11] rfl)
              · replace h_85 := h_85.2 hc67
                exact hj182  σ47 _ _ _ h_85 hM46 (ml_sub hl_85 [3, 4, 6, 8, 9, 10] rfl)
        · replace h_85 := h_85.2 hc52
          refine lv_iload hx hb dL_begin_145 (ml_at hl_85 10 rfl) ?_
          refine lv_iconst (v := 4) hx hb dL_begin_147 (by decide) ?_
          refine mr_aload_n C dL_begin_148 rfl (ml_at hl_85 3 rfl) ?_
          refine mr_aload C dL_begin_149 (ml_at hl_85 4 rfl) ?_
          refine mr_aload C dL_begin_151 (ml_at hl_85 6 rfl) ?_
          refine mr_aload C dL_begin_153 (ml_at hl_85 8 rfl) ?_
          refine mr_aload C dL_begin_155 (ml_at hl_85 9 rfl) ?_
          refine mr_cv hM46 (mr_runS (As := [.int (mI σ0 0 j1), .int (4 : Int32), mV ad (some 1), mV ad (some 2), mV ad (some 4), mV ad (some 6), mV ad (some 0)]) C hM46 hl_85.1.1 (c_L_end l G ad (mI σ0 0 j1) (4 : Int32) σ47 _ h_85) cw_L_67 (n := 7) ⟨rfl, by decide, by decide, by decide +kernel⟩ rfl rfl ⟨Nat.le_of_ble_eq_true rfl, Nat.le_of_ble_eq_true rfl⟩ m_c0 (Nat.le_of_ble_eq_true rfl) dL_begin_157 ⟨Nat.zero_le _, Nat.zero_le _⟩) (fun σ68 H locs h69 hM70 => ?_)
          clear h_85 hM46
          refine lv_goto (tgt := 220) hx hb dL_begin_160 (by decide) ?_
          exact mr_vret C hM70 hr hlk h69 dL_begin_220
      refine lv_if_ge (tgt := 73) hx hb dL_begin_66 (by decide) (fun hc71 => ?_) (fun hc71 => ?_)
      · replace h_58 := h_58.1 hc71
        refine mr_aload C dL_begin_73 (ml_at hl17 5 rfl) ?_
        refine lv_iload_n hx hb dL_begin_75 rfl (ml_at hl17 3 rfl) ?_
        refine lv_bipush (v := 6) hx hb dL_begin_76 (by decide) ?_
        refine lv_iconst (v := 2) hx hb dL_begin_78 (by decide) ?_
        refine mr_ci hM_58 (mr_runS (As := [mV ad (some 2), .int y2, .int (6 : Int32), .int (2 : Int32)]) C hM_58 hl17.1.1 (c_L_get l G ad y2 (6 : Int32) (2 : Int32) σ_58 _ h_58) cw_L_59 (n := 4) ⟨rfl, by decide, by decide, by decide +kernel⟩ rfl rfl ⟨Nat.le_of_ble_eq_true rfl, Nat.le_of_ble_eq_true rfl⟩ (m_cI (m_cI (m_cR m_c0))) (Nat.le_of_ble_eq_true rfl) dL_begin_79 ⟨Nat.zero_le _, Nat.zero_le _⟩) (fun x75 σ72 H locs h73 hM74 => ?_)
        clear h_58 hM_58
        refine lv_bipush (v := 18) hx hb dL_begin_82 (by decide) ?_
        refine lv_ishl hx hb dL_begin_84 ?_
        exact hj85 (x75 <<< ((18 : Int32) &&& 31)) σ72 _ _ _ h73 hM74 (ml_sub hl17 [1, 2, 3, 4, 5, 6, 7, 8, 9, 10, 11, 12, 0] rfl)
      · replace h_58 := h_58.2 hc71
        refine lv_iconst (v := 0) hx hb dL_begin_69 (by decide) ?_
        refine lv_goto (tgt := 85) hx hb dL_begin_70 (by decide) ?_
        exact hj85 (0 : Int32) σ_58 _ _ _ h_58 hM_58 (ml_sub hl17 [1, 2, 3, 4, 5, 6, 7, 8, 9, 10, 11, 12, 0] rfl)
    refine lv_icmp_lt (tgt := 57) hx hb dL_begin_50 (by decide) (fun hc76 => ?_) (fun hc76 => ?_)
    · replace h12 := h12.1 hc76
      refine lv_iconst (v := 0) hx hb dL_begin_57 (by decide) ?_
      exact hj58 (0 : Int32) σ11 _ _ _ h12 hM13 (ml_sub hl10 [1, 2, 3, 4, 5, 6, 7, 8, 9, 10, 11, 0] rfl)
    · replace h12 := h12.2 hc76
      refine lv_iconst (v := 1) hx hb dL_begin_53 (by decide) ?_
      refine lv_goto (tgt := 58) hx hb dL_begin_54 (by decide) ?_
      exact hj58 (1 : Int32) σ11 _ _ _ h12 hM13 (ml_sub hl10 [1, 2, 3, 4, 5, 6, 7, 8, 9, 10, 11, 0] rfl)
  refine lv_icmp_lt (tgt := 30) hx hb dL_begin_23 (by decide) (fun hc77 => ?_) (fun hc77 => ?_)
  · replace h5 := h5.1 hc77
    refine lv_iconst (v := 0) hx hb dL_begin_30 (by decide) ?_
    exact hj31 (0 : Int32) σ4 _ _ _ h5 hM6 (ml_sub hl3 [1, 2, 3, 4, 5, 6, 7, 8, 9, 10, 0] rfl)
  · replace h5 := h5.2 hc77
    refine lv_iconst (v := 1) hx hb dL_begin_26 (by decide) ?_
    refine lv_goto (tgt := 31) hx hb dL_begin_27 (by decide) ?_
    exact hj31 (1 : Int32) σ4 _ _ _ h5 hM6 (ml_sub hl3 [1, 2, 3, 4, 5, 6, 7, 8, 9, 10, 0] rfl)
def w_L_look (y0 : Int32) (σ0 : mS) (Q : mS → Prop) : Prop := (∃ j1, y0 = nI j1 ∧ (j1 < 60 ∧ w_L_get y0 (17 : Int32) (1 : Int32) σ0 (fun x7 σ4 => ((¬ x7 = (1 : Int32) → w_L_get y0 (14 : Int32) (3 : Int32) σ4 (fun x12 σ9 => ((¬ x12 = 0 → (∃ j14, (((10 : Int32) * (((mI σ0 7 j1) &&& (7 : Int32)) - (1 : Int32))) + (6 : Int32)) = nI j14 ∧ (j14 < 60 ∧ w_L_get y0 (11 : Int32) (3 : Int32) σ9 (fun x20 σ17 => ((¬ x20 = (1 : Int32) → (Q σ17)) ∧ (x20 = (1 : Int32) → (((mI σ9 1 j14) ≤ 0 → (Q σ17)) ∧ (¬ (mI σ9 1 j14) ≤ 0 → (∃ j23, (0 : Int32) = nI j23 ∧ (j23 < 3 ∧ (∃ j25, y0 = nI j25 ∧ (j25 < 60 ∧ ((((mI σ17 0 j23) - (mI σ17 5 j25)) < (mI σ9 1 j14) → (Q σ17)) ∧ (¬ ((mI σ17 0 j23) - (mI σ17 5 j25)) < (mI σ9 1 j14) → w_L_put y0 (10 : Int32) (1 : Int32) (1 : Int32) σ17 (fun σ28 => (Q σ28)))))))))))))))) ∧ (x12 = 0 → w_L_get y0 (8 : Int32) (2 : Int32) σ9 (fun x34 σ31 => (∃ J180 : mS → Prop, (∀  (σ_180 : mS), J180  σ_180 → w_L_end y0 (4 : Int32) σ_180 (fun σ35 => (Q σ35))) ∧ ((x34 = (2 : Int32) → (J180  σ31)) ∧ (¬ x34 = (2 : Int32) → (∃ j39, (((10 : Int32) * (((mI σ0 7 j1) &&& (7 : Int32)) - (1 : Int32))) + (7 : Int32)) = nI j39 ∧ (j39 < 60 ∧ (((10 : Int32) ≤ (mI σ31 1 j39) → (∃ j42, (((10 : Int32) * (((mI σ0 7 j1) &&& (7 : Int32)) - (1 : Int32))) + (7 : Int32)) = nI j42 ∧ (j42 < 60 ∧ (∃ j44, (((10 : Int32) * (((mI σ0 7 j1) &&& (7 : Int32)) - (1 : Int32))) + (7 : Int32)) = nI j44 ∧ (j44 < 60 ∧ (∀ σ47, σ47 = sI σ31 1 j44 ((mI σ31 1 j42) - (10 : Int32)) → w_L_get y0 (8 : Int32) (2 : Int32) σ47 (fun x51 σ48 => w_L_put y0 (8 : Int32) (2 : Int32) (x51 + (1 : Int32)) σ48 (fun σ52 => w_L_put y0 (10 : Int32) (1 : Int32) (1 : Int32) σ52 (fun σ55 => (Q σ55)))))))))) ∧ (¬ (10 : Int32) ≤ (mI σ31 1 j39) → (J180  σ31))))))))))))) ∧ (x7 = (1 : Int32) → (∃ I28 : Nat → Int32 → mS → Prop, (∀ (n28 : Nat) (x9_28 : Int32) (σ_28 : mS), I28 n28 x9_28 σ_28 → (∃ j59, (1 : Int32) = nI j59 ∧ (j59 < 3 ∧ (((mI σ_28 0 j59) ≤ x9_28 → (∃ j62, y0 = nI j62 ∧ (j62 < 60 ∧ (∃ j64, y0 = nI j64 ∧ (j64 < 60 ∧ (∀ σ67, σ67 = sI σ_28 7 j64 ((mI σ_28 7 j62) >>> ((3 : Int32) &&& 31)) → w_L_get y0 (6 : Int32) (2 : Int32) σ67 (fun x71 σ68 => w_L_put y0 (6 : Int32) (2 : Int32) (x71 + (1 : Int32)) σ68 (fun σ72 => w_L_put y0 (8 : Int32) (10 : Int32) (0 : Int32) σ72 (fun σ75 => w_L_put y0 (10 : Int32) (1 : Int32) (1 : Int32) σ75 (fun σ78 => (∃ j81, y0 = nI j81 ∧ (j81 < 60 ∧ ((¬ (mI σ78 7 j81) = 0 → (Q σ78)) ∧ ((mI σ78 7 j81) = 0 → w_L_end y0 (3 : Int32) σ78 (fun σ84 => (Q σ84)))))))))))))))) ∧ (¬ (mI σ_28 0 j59) ≤ x9_28 → (∃ j87, x9_28 = nI j87 ∧ (j87 < 60 ∧ ((¬ (mI σ_28 4 j87) = y0 → (∃ k91, k91 < n28 ∧ I28 k91 (x9_28 + 1) σ_28)) ∧ ((mI σ_28 4 j87) = y0 → w_L_get x9_28 (3 : Int32) (3 : Int32) σ_28 (fun x95 σ92 => (((3 : Int32) ≤ x95 → (∃ k98, k98 < n28 ∧ I28 k98 (x9_28 + 1) σ92)) ∧ (¬ (3 : Int32) ≤ x95 → w_L_end x9_28 (7 : Int32) σ92 (fun σ99 => (∃ k103, k103 < n28 ∧ I28 k103 (x9_28 + 1) σ99)))))))))))))) ∧ ∃ n, I28 n (y0 + (1 : Int32)) σ4))))))
set_option maxRecDepth 100000 in
set_option maxHeartbeats 4000000 in
theorem c_L_look (l : Launch) (G : mG) (ad : Nat → Nat) (y0 : Int32) (σ0 : mS) (Q : mS → Prop) (h : w_L_look y0 σ0 Q) : mKv l yL_look cL_look 10 2 53 G kdL ad σ0 [.int y0, mV ad (some 1), mV ad (some 2), mV ad (some 4), mV ad (some 5), mV ad (some 6), mV ad (some 7), mV ad (some 0)] Q := by
  refine mr_start (lst := [(0, .int y0), (1, mV ad (some 1)), (2, mV ad (some 2)), (3, mV ad (some 4)), (4, mV ad (some 5)), (5, mV ad (some 6)), (6, mV ad (some 7)), (7, mV ad (some 0))]) (by decide) (m_cI (m_cR (m_cR (m_cR (m_cR (m_cR (m_cR (m_cR m_c0)))))))) rfl (Nat.le_of_ble_eq_true rfl) (fun p e s m below meth c C hM hr hlk ls hl => ?_)
  have hx := C.1.1
  have hb := C.1.2.1
  unfold w_L_look at h
  refine mr_aload C dL_look_0 (ml_at hl 6 rfl) ?_
  refine lv_iload_n hx hb dL_look_2 rfl (ml_at hl 0 rfl) ?_
  obtain ⟨j1, ej2, ej2b, h⟩ := h
  refine mr_iald C hM (mB_fix hM rfl (by decide) (by decide) (by decide)) ej2 ej2b (by decide) dL_look_3 ?_
  refine lv_bipush (v := 7) hx hb dL_look_4 (by decide) ?_
  refine lv_iand hx hb dL_look_6 ?_
  refine lv_iconst (v := 1) hx hb dL_look_7 (by decide) ?_
  refine lv_isub hx hb dL_look_8 ?_
  refine mr_istore (lv' := [(8, .int (((mI σ0 7 j1) &&& (7 : Int32)) - (1 : Int32))), (0, .int y0), (1, mV ad (some 1)), (2, mV ad (some 2)), (3, mV ad (some 4)), (4, mV ad (some 5)), (5, mV ad (some 6)), (6, mV ad (some 7)), (7, mV ad (some 0))]) C hl dL_look_9 (by decide) rfl (fun ls hl3 => ?_)
  clear hl
  refine mr_aload_n C dL_look_11 rfl (ml_at hl3 3 rfl) ?_
  refine lv_iload_n hx hb dL_look_12 rfl (ml_at hl3 1 rfl) ?_
  refine lv_bipush (v := 17) hx hb dL_look_13 (by decide) ?_
  refine lv_iconst (v := 1) hx hb dL_look_15 (by decide) ?_
  refine mr_ci hM (mr_runS (As := [mV ad (some 2), .int y0, .int (17 : Int32), .int (1 : Int32)]) C hM hl3.1.1 (c_L_get l G ad y0 (17 : Int32) (1 : Int32) σ0 _ h) cw_L_59 (n := 4) ⟨rfl, by decide, by decide, by decide +kernel⟩ rfl rfl ⟨Nat.le_of_ble_eq_true rfl, Nat.le_of_ble_eq_true rfl⟩ m_c0 (Nat.le_of_ble_eq_true rfl) dL_look_16 ⟨Nat.zero_le _, Nat.zero_le _⟩) (fun x7 σ4 H locs h5 hM6 => ?_)
  clear h hM
  refine lv_iconst (v := 1) hx hb dL_look_19 (by decide) ?_
  refine lv_icmp_ne (tgt := 142) hx hb dL_look_20 (by decide) (fun hc8 => ?_) (fun hc8 => ?_)
  · replace h5 := h5.1 hc8
    refine mr_aload_n C dL_look_142 rfl (ml_at hl3 3 rfl) ?_
    refine lv_iload_n hx hb dL_look_143 rfl (ml_at hl3 1 rfl) ?_
    refine lv_bipush (v := 14) hx hb dL_look_144 (by decide) ?_
    refine lv_iconst (v := 3) hx hb dL_look_146 (by decide) ?_
    refine mr_ci hM6 (mr_runS (As := [mV ad (some 2), .int y0, .int (14 : Int32), .int (3 : Int32)]) C hM6 hl3.1.1 (c_L_get l G ad y0 (14 : Int32) (3 : Int32) σ4 _ h5) cw_L_59 (n := 4) ⟨rfl, by decide, by decide, by decide +kernel⟩ rfl rfl ⟨Nat.le_of_ble_eq_true rfl, Nat.le_of_ble_eq_true rfl⟩ m_c0 (Nat.le_of_ble_eq_true rfl) dL_look_147 ⟨Nat.zero_le _, Nat.zero_le _⟩) (fun x12 σ9 H locs h10 hM11 => ?_)
    clear h5 hM6
    refine lv_if_ne (tgt := 236) hx hb dL_look_150 (by decide) (fun hc13 => ?_) (fun hc13 => ?_)
    · replace h10 := h10.1 hc13
      refine mr_aload_n C dL_look_236 rfl (ml_at hl3 2 rfl) ?_
      refine lv_bipush (v := 10) hx hb dL_look_237 (by decide) ?_
      refine lv_iload hx hb dL_look_239 (ml_at hl3 0 rfl) ?_
      refine lv_imul hx hb dL_look_241 ?_
      refine lv_bipush (v := 6) hx hb dL_look_242 (by decide) ?_
      refine lv_iadd hx hb dL_look_244 ?_
      obtain ⟨j14, ej15, ej15b, h10⟩ := h10
      refine mr_iald C hM11 (mB_fix hM11 rfl (by decide) (by decide) (by decide)) ej15 ej15b (by decide) dL_look_245 ?_
      refine mr_istore (lv' := [(9, .int (mI σ9 1 j14)), (8, .int (((mI σ0 7 j1) &&& (7 : Int32)) - (1 : Int32))), (0, .int y0), (1, mV ad (some 1)), (2, mV ad (some 2)), (3, mV ad (some 4)), (4, mV ad (some 5)), (5, mV ad (some 6)), (6, mV ad (some 7)), (7, mV ad (some 0))]) C hl3 dL_look_246 (by decide) rfl (fun ls hl16 => ?_)
      clear hl3
      refine mr_aload_n C dL_look_248 rfl (ml_at hl16 4 rfl) ?_
      refine lv_iload_n hx hb dL_look_249 rfl (ml_at hl16 2 rfl) ?_
      refine lv_bipush (v := 11) hx hb dL_look_250 (by decide) ?_
      refine lv_iconst (v := 3) hx hb dL_look_252 (by decide) ?_
      refine mr_ci hM11 (mr_runS (As := [mV ad (some 2), .int y0, .int (11 : Int32), .int (3 : Int32)]) C hM11 hl16.1.1 (c_L_get l G ad y0 (11 : Int32) (3 : Int32) σ9 _ h10) cw_L_59 (n := 4) ⟨rfl, by decide, by decide, by decide +kernel⟩ rfl rfl ⟨Nat.le_of_ble_eq_true rfl, Nat.le_of_ble_eq_true rfl⟩ m_c0 (Nat.le_of_ble_eq_true rfl) dL_look_253 ⟨Nat.zero_le _, Nat.zero_le _⟩) (fun x20 σ17 H locs h18 hM19 => ?_)
      clear h10 hM11
      refine lv_iconst (v := 1) hx hb dL_look_256 (by decide) ?_
      refine lv_icmp_ne (tgt := 288) hx hb dL_look_257 (by decide) (fun hc21 => ?_) (fun hc21 => ?_)
      · replace h18 := h18.1 hc21
        exact mr_vret C hM19 hr hlk h18 dL_look_288
      · replace h18 := h18.2 hc21
        refine lv_iload hx hb dL_look_260 (ml_at hl16 0 rfl) ?_
        refine lv_if_le (tgt := 288) hx hb dL_look_262 (by decide) (fun hc22 => ?_) (fun hc22 => ?_)
        · replace h18 := h18.1 hc22
          exact mr_vret C hM19 hr hlk h18 dL_look_288
        · replace h18 := h18.2 hc22
          refine mr_aload C dL_look_265 (ml_at hl16 9 rfl) ?_
          refine lv_iconst (v := 0) hx hb dL_look_267 (by decide) ?_
          obtain ⟨j23, ej24, ej24b, h18⟩ := h18
          refine mr_iald C hM19 (mB_fix hM19 rfl (by decide) (by decide) (by decide)) ej24 ej24b (by decide) dL_look_268 ?_
          refine mr_aload C dL_look_269 (ml_at hl16 6 rfl) ?_
          refine lv_iload_n hx hb dL_look_271 rfl (ml_at hl16 2 rfl) ?_
          obtain ⟨j25, ej26, ej26b, h18⟩ := h18
          refine mr_iald C hM19 (mB_fix hM19 rfl (by decide) (by decide) (by decide)) ej26 ej26b (by decide) dL_look_272 ?_
          refine lv_isub hx hb dL_look_273 ?_
          refine lv_iload hx hb dL_look_274 (ml_at hl16 0 rfl) ?_
          refine lv_icmp_lt (tgt := 288) hx hb dL_look_276 (by decide) (fun hc27 => ?_) (fun hc27 => ?_)
          · replace h18 := h18.1 hc27
            exact mr_vret C hM19 hr hlk h18 dL_look_288
          · replace h18 := h18.2 hc27
            refine mr_aload_n C dL_look_279 rfl (ml_at hl16 4 rfl) ?_
            refine lv_iload_n hx hb dL_look_280 rfl (ml_at hl16 2 rfl) ?_
            refine lv_bipush (v := 10) hx hb dL_look_281 (by decide) ?_
            refine lv_iconst (v := 1) hx hb dL_look_283 (by decide) ?_
            refine lv_iconst (v := 1) hx hb dL_look_284 (by decide) ?_
            refine mr_cv hM19 (mr_runS (As := [mV ad (some 2), .int y0, .int (10 : Int32), .int (1 : Int32), .int (1 : Int32)]) C hM19 hl16.1.1 (c_L_put l G ad y0 (10 : Int32) (1 : Int32) (1 : Int32) σ17 _ h18) cw_L_53 (n := 5) ⟨rfl, by decide, by decide, by decide +kernel⟩ rfl rfl ⟨Nat.le_of_ble_eq_true rfl, Nat.le_of_ble_eq_true rfl⟩ m_c0 (Nat.le_of_ble_eq_true rfl) dL_look_285 ⟨Nat.zero_le _, Nat.zero_le _⟩) (fun σ28 H locs h29 hM30 => ?_)
            clear h18 hM19
            exact mr_vret C hM30 hr hlk h29 dL_look_288
    · replace h10 := h10.2 hc13
      refine mr_aload_n C dL_look_153 rfl (ml_at hl3 3 rfl) ?_
      refine lv_iload_n hx hb dL_look_154 rfl (ml_at hl3 1 rfl) ?_
      refine lv_bipush (v := 8) hx hb dL_look_155 (by decide) ?_
      refine lv_iconst (v := 2) hx hb dL_look_157 (by decide) ?_
      refine mr_ci hM11 (mr_runS (As := [mV ad (some 2), .int y0, .int (8 : Int32), .int (2 : Int32)]) C hM11 hl3.1.1 (c_L_get l G ad y0 (8 : Int32) (2 : Int32) σ9 _ h10) cw_L_59 (n := 4) ⟨rfl, by decide, by decide, by decide +kernel⟩ rfl rfl ⟨Nat.le_of_ble_eq_true rfl, Nat.le_of_ble_eq_true rfl⟩ m_c0 (Nat.le_of_ble_eq_true rfl) dL_look_158 ⟨Nat.zero_le _, Nat.zero_le _⟩) (fun x34 σ31 H locs h32 hM33 => ?_)
      clear h10 hM11
      refine lv_iconst (v := 2) hx hb dL_look_161 (by decide) ?_
      obtain ⟨J180, hJ180, h32⟩ := h32
      have hj180 : ∀  (σ_180 : mS) (H : Heap) (locs : List Loc) (ls : Array Slot), J180  σ_180 → mM G kdL ad s σ_180 H locs → ml_has ls 10 [(0, .int y0), (1, mV ad (some 1)), (2, mV ad (some 2)), (3, mV ad (some 4)), (5, mV ad (some 6)), (7, mV ad (some 0))] → W p l e (mRm 2 53) s m ([.int y0, mV ad (some 1), mV ad (some 2), mV ad (some 4), mV ad (some 5), mV ad (some 6), mV ad (some 7), mV ad (some 0)] : List Value).toArray below meth c H locs 0 0 (MQ below (va_Qv Q (mPost G kdL ad) (mA ad)) ([.int y0, mV ad (some 1), mV ad (some 2), mV ad (some 4), mV ad (some 5), mV ad (some 6), mV ad (some 7), mV ad (some 0)] : List Value).toArray s 0 0 (mA ad)) (F0 m 180 ls []) := by
        intro  σ_180 H locs ls h_180 hM_180 hl_180
        replace h_180 := hJ180  σ_180 h_180
        refine lv_iload_n hx hb dL_look_180 rfl (ml_at hl_180 0 rfl) ?_
        refine lv_iconst (v := 4) hx hb dL_look_181 (by decide) ?_
        refine mr_aload_n C dL_look_182 rfl (ml_at hl_180 1 rfl) ?_
        refine mr_aload_n C dL_look_183 rfl (ml_at hl_180 2 rfl) ?_
        refine mr_aload_n C dL_look_184 rfl (ml_at hl_180 3 rfl) ?_
        refine mr_aload C dL_look_185 (ml_at hl_180 4 rfl) ?_
        refine mr_aload C dL_look_187 (ml_at hl_180 5 rfl) ?_
        refine mr_cv hM_180 (mr_runS (As := [.int y0, .int (4 : Int32), mV ad (some 1), mV ad (some 2), mV ad (some 4), mV ad (some 6), mV ad (some 0)]) C hM_180 hl_180.1.1 (c_L_end l G ad y0 (4 : Int32) σ_180 _ h_180) cw_L_67 (n := 7) ⟨rfl, by decide, by decide, by decide +kernel⟩ rfl rfl ⟨Nat.le_of_ble_eq_true rfl, Nat.le_of_ble_eq_true rfl⟩ m_c0 (Nat.le_of_ble_eq_true rfl) dL_look_189 ⟨Nat.zero_le _, Nat.zero_le _⟩) (fun σ35 H locs h36 hM37 => ?_)
        clear h_180 hM_180
        exact mr_vret C hM37 hr hlk h36 dL_look_192
      refine lv_icmp_eq (tgt := 180) hx hb dL_look_162 (by decide) (fun hc38 => ?_) (fun hc38 => ?_)
      · replace h32 := h32.1 hc38
        exact hj180  σ31 _ _ _ h32 hM33 (ml_sub hl3 [1, 2, 3, 4, 6, 8] rfl)
      · replace h32 := h32.2 hc38
        refine mr_aload_n C dL_look_165 rfl (ml_at hl3 2 rfl) ?_
        refine lv_bipush (v := 10) hx hb dL_look_166 (by decide) ?_
        refine lv_iload hx hb dL_look_168 (ml_at hl3 0 rfl) ?_
        refine lv_imul hx hb dL_look_170 ?_
        refine lv_bipush (v := 7) hx hb dL_look_171 (by decide) ?_
        refine lv_iadd hx hb dL_look_173 ?_
        obtain ⟨j39, ej40, ej40b, h32⟩ := h32
        refine mr_iald C hM33 (mB_fix hM33 rfl (by decide) (by decide) (by decide)) ej40 ej40b (by decide) dL_look_174 ?_
        refine lv_bipush (v := 10) hx hb dL_look_175 (by decide) ?_
        refine lv_icmp_ge (tgt := 193) hx hb dL_look_177 (by decide) (fun hc41 => ?_) (fun hc41 => ?_)
        · replace h32 := h32.1 hc41
          refine mr_aload_n C dL_look_193 rfl (ml_at hl3 2 rfl) ?_
          refine lv_bipush (v := 10) hx hb dL_look_194 (by decide) ?_
          refine lv_iload hx hb dL_look_196 (ml_at hl3 0 rfl) ?_
          refine lv_imul hx hb dL_look_198 ?_
          refine lv_bipush (v := 7) hx hb dL_look_199 (by decide) ?_
          refine lv_iadd hx hb dL_look_201 ?_
          refine lv_dup2_11 hx hb dL_look_202 rfl (mV_cat _ _) ?_
          obtain ⟨j42, ej43, ej43b, h32⟩ := h32
          refine mr_iald C hM33 (mB_fix hM33 rfl (by decide) (by decide) (by decide)) ej43 ej43b (by decide) dL_look_203 ?_
          refine lv_bipush (v := 10) hx hb dL_look_204 (by decide) ?_
          refine lv_isub hx hb dL_look_206 ?_
          obtain ⟨j44, ej45, ej45b, h32⟩ := h32
          refine mr_iast C hM33 (mB_fix hM33 rfl (by decide) (by decide) (by decide)) ej45 ej45b (by decide) dL_look_207 (fun H locs hM46 => ?_)
          clear hM33
          obtain ⟨σ47, eσ47⟩ : ∃ y, y = sI σ31 1 j44 ((mI σ31 1 j42) - (10 : Int32)) := ⟨_, rfl⟩
          rw [← eσ47] at hM46
          replace h32 := h32 σ47 eσ47
          refine mr_aload_n C dL_look_208 rfl (ml_at hl3 3 rfl) ?_
          refine lv_iload_n hx hb dL_look_209 rfl (ml_at hl3 1 rfl) ?_
          refine lv_bipush (v := 8) hx hb dL_look_210 (by decide) ?_
          refine lv_iconst (v := 2) hx hb dL_look_212 (by decide) ?_
          refine mr_aload_n C dL_look_213 rfl (ml_at hl3 3 rfl) ?_
          refine lv_iload_n hx hb dL_look_214 rfl (ml_at hl3 1 rfl) ?_
          refine lv_bipush (v := 8) hx hb dL_look_215 (by decide) ?_
          refine lv_iconst (v := 2) hx hb dL_look_217 (by decide) ?_
          refine mr_ci hM46 (mr_runS (As := [mV ad (some 2), .int y0, .int (8 : Int32), .int (2 : Int32)]) C hM46 hl3.1.1 (c_L_get l G ad y0 (8 : Int32) (2 : Int32) σ47 _ h32) cw_L_59 (n := 4) ⟨rfl, by decide, by decide, by decide +kernel⟩ rfl rfl ⟨Nat.le_of_ble_eq_true rfl, Nat.le_of_ble_eq_true rfl⟩ (m_cI (m_cI (m_cI (m_cR m_c0)))) (Nat.le_of_ble_eq_true rfl) dL_look_218 ⟨Nat.zero_le _, Nat.zero_le _⟩) (fun x51 σ48 H locs h49 hM50 => ?_)
          clear h32 hM46
          refine lv_iconst (v := 1) hx hb dL_look_221 (by decide) ?_
          refine lv_iadd hx hb dL_look_222 ?_
          refine mr_cv hM50 (mr_runS (As := [mV ad (some 2), .int y0, .int (8 : Int32), .int (2 : Int32), .int (x51 + (1 : Int32))]) C hM50 hl3.1.1 (c_L_put l G ad y0 (8 : Int32) (2 : Int32) (x51 + (1 : Int32)) σ48 _ h49) cw_L_53 (n := 5) ⟨rfl, by decide, by decide, by decide +kernel⟩ rfl rfl ⟨Nat.le_of_ble_eq_true rfl, Nat.le_of_ble_eq_true rfl⟩ m_c0 (Nat.le_of_ble_eq_true rfl) dL_look_223 ⟨Nat.zero_le _, Nat.zero_le _⟩) (fun σ52 H locs h53 hM54 => ?_)
          clear h49 hM50
          refine mr_aload_n C dL_look_226 rfl (ml_at hl3 3 rfl) ?_
          refine lv_iload_n hx hb dL_look_227 rfl (ml_at hl3 1 rfl) ?_
          refine lv_bipush (v := 10) hx hb dL_look_228 (by decide) ?_
          refine lv_iconst (v := 1) hx hb dL_look_230 (by decide) ?_
          refine lv_iconst (v := 1) hx hb dL_look_231 (by decide) ?_
          refine mr_cv hM54 (mr_runS (As := [mV ad (some 2), .int y0, .int (10 : Int32), .int (1 : Int32), .int (1 : Int32)]) C hM54 hl3.1.1 (c_L_put l G ad y0 (10 : Int32) (1 : Int32) (1 : Int32) σ52 _ h53) cw_L_53 (n := 5) ⟨rfl, by decide, by decide, by decide +kernel⟩ rfl rfl ⟨Nat.le_of_ble_eq_true rfl, Nat.le_of_ble_eq_true rfl⟩ m_c0 (Nat.le_of_ble_eq_true rfl) dL_look_232 ⟨Nat.zero_le _, Nat.zero_le _⟩) (fun σ55 H locs h56 hM57 => ?_)
          clear h53 hM54
          exact mr_vret C hM57 hr hlk h56 dL_look_235
        · replace h32 := h32.2 hc41
          exact hj180  σ31 _ _ _ h32 hM33 (ml_sub hl3 [1, 2, 3, 4, 6, 8] rfl)
  · replace h5 := h5.2 hc8
    refine lv_iload_n hx hb dL_look_23 rfl (ml_at hl3 1 rfl) ?_
    refine lv_iconst (v := 1) hx hb dL_look_24 (by decide) ?_
    refine lv_iadd hx hb dL_look_25 ?_
    refine mr_istore (lv' := [(9, .int (y0 + (1 : Int32))), (8, .int (((mI σ0 7 j1) &&& (7 : Int32)) - (1 : Int32))), (0, .int y0), (1, mV ad (some 1)), (2, mV ad (some 2)), (3, mV ad (some 4)), (4, mV ad (some 5)), (5, mV ad (some 6)), (6, mV ad (some 7)), (7, mV ad (some 0))]) C hl3 dL_look_26 (by decide) rfl (fun ls hl58 => ?_)
    clear hl3
    obtain ⟨I28, hI28, nn28, h5⟩ := h5
    have hL28 : ∀ (n28 : Nat) (x9_28 : Int32) (σ_28 : mS) (H : Heap) (locs : List Loc) (ls : Array Slot), I28 n28 x9_28 σ_28 → mM G kdL ad s σ_28 H locs → ml_has ls 10 [(0, .int y0), (1, mV ad (some 1)), (2, mV ad (some 2)), (3, mV ad (some 4)), (5, mV ad (some 6)), (6, mV ad (some 7)), (7, mV ad (some 0)), (9, .int x9_28)] → W p l e (mRm 2 53) s m ([.int y0, mV ad (some 1), mV ad (some 2), mV ad (some 4), mV ad (some 5), mV ad (some 6), mV ad (some 7), mV ad (some 0)] : List Value).toArray below meth c H locs 0 0 (MQ below (va_Qv Q (mPost G kdL ad) (mA ad)) ([.int y0, mV ad (some 1), mV ad (some 2), mV ad (some 4), mV ad (some 5), mV ad (some 6), mV ad (some 7), mV ad (some 0)] : List Value).toArray s 0 0 (mA ad)) (F0 m 28 ls []) := by
      refine m_loop (fun n28 ih28 => ?_)
      intro x9_28 σ_28 H locs ls h_28 hM_28 hl_28
      replace h_28 := hI28 n28 x9_28 σ_28 h_28
      refine lv_iload hx hb dL_look_28 (ml_at hl_28 7 rfl) ?_
      refine mr_aload C dL_look_30 (ml_at hl_28 6 rfl) ?_
      refine lv_iconst (v := 1) hx hb dL_look_32 (by decide) ?_
      obtain ⟨j59, ej60, ej60b, h_28⟩ := h_28
      refine mr_iald C hM_28 (mB_fix hM_28 rfl (by decide) (by decide) (by decide)) ej60 ej60b (by decide) dL_look_33 ?_
      refine lv_icmp_ge (tgt := 77) hx hb dL_look_34 (by decide) (fun hc61 => ?_) (fun hc61 => ?_)
      · replace h_28 := h_28.1 hc61
        refine mr_aload C dL_look_77 (ml_at hl_28 5 rfl) ?_
        refine lv_iload_n hx hb dL_look_79 rfl (ml_at hl_28 0 rfl) ?_
        refine lv_dup2_11 hx hb dL_look_80 rfl (mV_cat _ _) ?_
        obtain ⟨j62, ej63, ej63b, h_28⟩ := h_28
        refine mr_iald C hM_28 (mB_fix hM_28 rfl (by decide) (by decide) (by decide)) ej63 ej63b (by decide) dL_look_81 ?_
        refine lv_iconst (v := 3) hx hb dL_look_82 (by decide) ?_
        refine lv_ishr hx hb dL_look_83 ?_
        obtain ⟨j64, ej65, ej65b, h_28⟩ := h_28
        refine mr_iast C hM_28 (mB_fix hM_28 rfl (by decide) (by decide) (by decide)) ej65 ej65b (by decide) dL_look_84 (fun H locs hM66 => ?_)
        clear hM_28
        obtain ⟨σ67, eσ67⟩ : ∃ y, y = sI σ_28 7 j64 ((mI σ_28 7 j62) >>> ((3 : Int32) &&& 31)) := ⟨_, rfl⟩
        rw [← eσ67] at hM66
        replace h_28 := h_28 σ67 eσ67
        refine mr_aload_n C dL_look_85 rfl (ml_at hl_28 2 rfl) ?_
        refine lv_iload_n hx hb dL_look_86 rfl (ml_at hl_28 0 rfl) ?_
        refine lv_bipush (v := 6) hx hb dL_look_87 (by decide) ?_
        refine lv_iconst (v := 2) hx hb dL_look_89 (by decide) ?_
        refine mr_aload_n C dL_look_90 rfl (ml_at hl_28 2 rfl) ?_
        refine lv_iload_n hx hb dL_look_91 rfl (ml_at hl_28 0 rfl) ?_
        refine lv_bipush (v := 6) hx hb dL_look_92 (by decide) ?_
        refine lv_iconst (v := 2) hx hb dL_look_94 (by decide) ?_
        refine mr_ci hM66 (mr_runS (As := [mV ad (some 2), .int y0, .int (6 : Int32), .int (2 : Int32)]) C hM66 hl_28.1.1 (c_L_get l G ad y0 (6 : Int32) (2 : Int32) σ67 _ h_28) cw_L_59 (n := 4) ⟨rfl, by decide, by decide, by decide +kernel⟩ rfl rfl ⟨Nat.le_of_ble_eq_true rfl, Nat.le_of_ble_eq_true rfl⟩ (m_cI (m_cI (m_cI (m_cR m_c0)))) (Nat.le_of_ble_eq_true rfl) dL_look_95 ⟨Nat.zero_le _, Nat.zero_le _⟩) (fun x71 σ68 H locs h69 hM70 => ?_)
        clear h_28 hM66
        refine lv_iconst (v := 1) hx hb dL_look_98 (by decide) ?_
        refine lv_iadd hx hb dL_look_99 ?_
        refine mr_cv hM70 (mr_runS (As := [mV ad (some 2), .int y0, .int (6 : Int32), .int (2 : Int32), .int (x71 + (1 : Int32))]) C hM70 hl_28.1.1 (c_L_put l G ad y0 (6 : Int32) (2 : Int32) (x71 + (1 : Int32)) σ68 _ h69) cw_L_53 (n := 5) ⟨rfl, by decide, by decide, by decide +kernel⟩ rfl rfl ⟨Nat.le_of_ble_eq_true rfl, Nat.le_of_ble_eq_true rfl⟩ m_c0 (Nat.le_of_ble_eq_true rfl) dL_look_100 ⟨Nat.zero_le _, Nat.zero_le _⟩) (fun σ72 H locs h73 hM74 => ?_)
        clear h69 hM70
        refine mr_aload_n C dL_look_103 rfl (ml_at hl_28 2 rfl) ?_
        refine lv_iload_n hx hb dL_look_104 rfl (ml_at hl_28 0 rfl) ?_
        refine lv_bipush (v := 8) hx hb dL_look_105 (by decide) ?_
        refine lv_bipush (v := 10) hx hb dL_look_107 (by decide) ?_
        refine lv_iconst (v := 0) hx hb dL_look_109 (by decide) ?_
        refine mr_cv hM74 (mr_runS (As := [mV ad (some 2), .int y0, .int (8 : Int32), .int (10 : Int32), .int (0 : Int32)]) C hM74 hl_28.1.1 (c_L_put l G ad y0 (8 : Int32) (10 : Int32) (0 : Int32) σ72 _ h73) cw_L_53 (n := 5) ⟨rfl, by decide, by decide, by decide +kernel⟩ rfl rfl ⟨Nat.le_of_ble_eq_true rfl, Nat.le_of_ble_eq_true rfl⟩ m_c0 (Nat.le_of_ble_eq_true rfl) dL_look_110 ⟨Nat.zero_le _, Nat.zero_le _⟩) (fun σ75 H locs h76 hM77 => ?_)
        clear h73 hM74
        refine mr_aload_n C dL_look_113 rfl (ml_at hl_28 2 rfl) ?_
        refine lv_iload_n hx hb dL_look_114 rfl (ml_at hl_28 0 rfl) ?_
        refine lv_bipush (v := 10) hx hb dL_look_115 (by decide) ?_
        refine lv_iconst (v := 1) hx hb dL_look_117 (by decide) ?_
        refine lv_iconst (v := 1) hx hb dL_look_118 (by decide) ?_
        refine mr_cv hM77 (mr_runS (As := [mV ad (some 2), .int y0, .int (10 : Int32), .int (1 : Int32), .int (1 : Int32)]) C hM77 hl_28.1.1 (c_L_put l G ad y0 (10 : Int32) (1 : Int32) (1 : Int32) σ75 _ h76) cw_L_53 (n := 5) ⟨rfl, by decide, by decide, by decide +kernel⟩ rfl rfl ⟨Nat.le_of_ble_eq_true rfl, Nat.le_of_ble_eq_true rfl⟩ m_c0 (Nat.le_of_ble_eq_true rfl) dL_look_119 ⟨Nat.zero_le _, Nat.zero_le _⟩) (fun σ78 H locs h79 hM80 => ?_)
        clear h76 hM77
        refine mr_aload C dL_look_122 (ml_at hl_28 5 rfl) ?_
        refine lv_iload_n hx hb dL_look_124 rfl (ml_at hl_28 0 rfl) ?_
        obtain ⟨j81, ej82, ej82b, h79⟩ := h79
        refine mr_iald C hM80 (mB_fix hM80 rfl (by decide) (by decide) (by decide)) ej82 ej82b (by decide) dL_look_125 ?_
        refine lv_if_ne (tgt := 141) hx hb dL_look_126 (by decide) (fun hc83 => ?_) (fun hc83 => ?_)
        · replace h79 := h79.1 hc83
          exact mr_vret C hM80 hr hlk h79 dL_look_141
        · replace h79 := h79.2 hc83
          refine lv_iload_n hx hb dL_look_129 rfl (ml_at hl_28 0 rfl) ?_
          refine lv_iconst (v := 3) hx hb dL_look_130 (by decide) ?_
          refine mr_aload_n C dL_look_131 rfl (ml_at hl_28 1 rfl) ?_
          refine mr_aload_n C dL_look_132 rfl (ml_at hl_28 2 rfl) ?_
          refine mr_aload_n C dL_look_133 rfl (ml_at hl_28 3 rfl) ?_
          refine mr_aload C dL_look_134 (ml_at hl_28 4 rfl) ?_
          refine mr_aload C dL_look_136 (ml_at hl_28 6 rfl) ?_
          refine mr_cv hM80 (mr_runS (As := [.int y0, .int (3 : Int32), mV ad (some 1), mV ad (some 2), mV ad (some 4), mV ad (some 6), mV ad (some 0)]) C hM80 hl_28.1.1 (c_L_end l G ad y0 (3 : Int32) σ78 _ h79) cw_L_67 (n := 7) ⟨rfl, by decide, by decide, by decide +kernel⟩ rfl rfl ⟨Nat.le_of_ble_eq_true rfl, Nat.le_of_ble_eq_true rfl⟩ m_c0 (Nat.le_of_ble_eq_true rfl) dL_look_138 ⟨Nat.zero_le _, Nat.zero_le _⟩) (fun σ84 H locs h85 hM86 => ?_)
          clear h79 hM80
          exact mr_vret C hM86 hr hlk h85 dL_look_141
      · replace h_28 := h_28.2 hc61
        refine mr_aload_n C dL_look_37 rfl (ml_at hl_28 3 rfl) ?_
        refine lv_iload hx hb dL_look_38 (ml_at hl_28 7 rfl) ?_
        obtain ⟨j87, ej88, ej88b, h_28⟩ := h_28
        refine mr_iald C hM_28 (mB_fix hM_28 rfl (by decide) (by decide) (by decide)) ej88 ej88b (by decide) dL_look_40 ?_
        refine lv_iload_n hx hb dL_look_41 rfl (ml_at hl_28 0 rfl) ?_
        refine lv_icmp_ne (tgt := 71) hx hb dL_look_42 (by decide) (fun hc89 => ?_) (fun hc89 => ?_)
        · replace h_28 := h_28.1 hc89
          refine mr_iinc (v := (x9_28 + 1)) (lv' := [(9, .int (x9_28 + 1)), (0, .int y0), (1, mV ad (some 1)), (2, mV ad (some 2)), (3, mV ad (some 4)), (5, mV ad (some 6)), (6, mV ad (some 7)), (7, mV ad (some 0))]) C hl_28 dL_look_71 (k := 7) rfl rfl (by decide) rfl (fun ls hl90 => ?_)
          clear hl_28
          refine lv_goto (tgt := 28) hx hb dL_look_74 (by decide) ?_
          obtain ⟨k91, hk91, h_28⟩ := h_28
          exact ih28 k91 hk91 (x9_28 + 1) σ_28 _ _ _ h_28 hM_28 (ml_sub hl90 [1, 2, 3, 4, 5, 6, 7, 0] rfl)
        · replace h_28 := h_28.2 hc89
          refine mr_aload_n C dL_look_45 rfl (ml_at hl_28 2 rfl) ?_
          refine lv_iload hx hb dL_look_46 (ml_at hl_28 7 rfl) ?_
          refine lv_iconst (v := 3) hx hb dL_look_48 (by decide) ?_
          refine lv_iconst (v := 3) hx hb dL_look_49 (by decide) ?_
          refine mr_ci hM_28 (mr_runS (As := [mV ad (some 2), .int x9_28, .int (3 : Int32), .int (3 : Int32)]) C hM_28 hl_28.1.1 (c_L_get l G ad x9_28 (3 : Int32) (3 : Int32) σ_28 _ h_28) cw_L_59 (n := 4) ⟨rfl, by decide, by decide, by decide +kernel⟩ rfl rfl ⟨Nat.le_of_ble_eq_true rfl, Nat.le_of_ble_eq_true rfl⟩ m_c0 (Nat.le_of_ble_eq_true rfl) dL_look_50 ⟨Nat.zero_le _, Nat.zero_le _⟩) (fun x95 σ92 H locs h93 hM94 => ?_)
          clear h_28 hM_28
          refine lv_iconst (v := 3) hx hb dL_look_53 (by decide) ?_
          refine lv_icmp_ge (tgt := 71) hx hb dL_look_54 (by decide) (fun hc96 => ?_) (fun hc96 => ?_)
          · replace h93 := h93.1 hc96
            refine mr_iinc (v := (x9_28 + 1)) (lv' := [(9, .int (x9_28 + 1)), (0, .int y0), (1, mV ad (some 1)), (2, mV ad (some 2)), (3, mV ad (some 4)), (5, mV ad (some 6)), (6, mV ad (some 7)), (7, mV ad (some 0))]) C hl_28 dL_look_71 (k := 7) rfl rfl (by decide) rfl (fun ls hl97 => ?_)
            clear hl_28
            refine lv_goto (tgt := 28) hx hb dL_look_74 (by decide) ?_
            obtain ⟨k98, hk98, h93⟩ := h93
            exact ih28 k98 hk98 (x9_28 + 1) σ92 _ _ _ h93 hM94 (ml_sub hl97 [1, 2, 3, 4, 5, 6, 7, 0] rfl)
          · replace h93 := h93.2 hc96
            refine lv_iload hx hb dL_look_57 (ml_at hl_28 7 rfl) ?_
            refine lv_bipush (v := 7) hx hb dL_look_59 (by decide) ?_
            refine mr_aload_n C dL_look_61 rfl (ml_at hl_28 1 rfl) ?_
            refine mr_aload_n C dL_look_62 rfl (ml_at hl_28 2 rfl) ?_
            refine mr_aload_n C dL_look_63 rfl (ml_at hl_28 3 rfl) ?_
            refine mr_aload C dL_look_64 (ml_at hl_28 4 rfl) ?_
            refine mr_aload C dL_look_66 (ml_at hl_28 6 rfl) ?_
            refine mr_cv hM94 (mr_runS (As := [.int x9_28, .int (7 : Int32), mV ad (some 1), mV ad (some 2), mV ad (some 4), mV ad (some 6), mV ad (some 0)]) C hM94 hl_28.1.1 (c_L_end l G ad x9_28 (7 : Int32) σ92 _ h93) cw_L_67 (n := 7) ⟨rfl, by decide, by decide, by decide +kernel⟩ rfl rfl ⟨Nat.le_of_ble_eq_true rfl, Nat.le_of_ble_eq_true rfl⟩ m_c0 (Nat.le_of_ble_eq_true rfl) dL_look_68 ⟨Nat.zero_le _, Nat.zero_le _⟩) (fun σ99 H locs h100 hM101 => ?_)
            clear h93 hM94
            refine mr_iinc (v := (x9_28 + 1)) (lv' := [(9, .int (x9_28 + 1)), (0, .int y0), (1, mV ad (some 1)), (2, mV ad (some 2)), (3, mV ad (some 4)), (5, mV ad (some 6)), (6, mV ad (some 7)), (7, mV ad (some 0))]) C hl_28 dL_look_71 (k := 7) rfl rfl (by decide) rfl (fun ls hl102 => ?_)
            clear hl_28
            refine lv_goto (tgt := 28) hx hb dL_look_74 (by decide) ?_
            obtain ⟨k103, hk103, h100⟩ := h100
            exact ih28 k103 hk103 (x9_28 + 1) σ99 _ _ _ h100 hM101 (ml_sub hl102 [1, 2, 3, 4, 5, 6, 7, 0] rfl)
    exact hL28 nn28 (y0 + (1 : Int32)) σ4 _ _ _ h5 hM6 (ml_sub hl58 [2, 3, 4, 5, 7, 8, 9, 0] rfl)
def w_L_tick  (σ0 : mS) (Q : mS → Prop) : Prop := (∃ j1, (0 : Int32) = nI j1 ∧ (j1 < 3 ∧ (∃ j3, (0 : Int32) = nI j3 ∧ (j3 < 3 ∧ (∀ σ6, σ6 = sI σ0 0 j3 ((mI σ0 0 j1) + (1 : Int32)) → (∃ I11 : Nat → Int32 → mS → Prop, (∀ (n11 : Nat) (x8_11 : Int32) (σ_11 : mS), I11 n11 x8_11 σ_11 → (∃ j8, (1 : Int32) = nI j8 ∧ (j8 < 3 ∧ (((mI σ_11 0 j8) ≤ x8_11 → (∃ I81 : Nat → Int32 → mS → Prop, (∀ (n81 : Nat) (x8_81 : Int32) (σ_81 : mS), I81 n81 x8_81 σ_81 → (∃ j12, (1 : Int32) = nI j12 ∧ (j12 < 3 ∧ (((mI σ_81 0 j12) ≤ x8_81 → (∃ j15, (1 : Int32) = nI j15 ∧ (j15 < 3 ∧ (∃ I273 : Nat → Int32 → mS → Prop, (∀ (n273 : Nat) (x8_273 : Int32) (σ_273 : mS), I273 n273 x8_273 σ_273 → ((x8_273 < 0 → (∃ j19, (1 : Int32) = nI j19 ∧ (j19 < 3 ∧ (∃ I333 : Nat → Int32 → mS → Prop, (∀ (n333 : Nat) (x9_333 : Int32) (σ_333 : mS), I333 n333 x9_333 σ_333 → (((mI σ_273 0 j19) ≤ x9_333 → (∃ I478 : Nat → Int32 → mS → Prop, (∀ (n478 : Nat) (x9_478 : Int32) (σ_478 : mS), I478 n478 x9_478 σ_478 → (((6 : Int32) ≤ x9_478 → (Q σ_478)) ∧ (¬ (6 : Int32) ≤ x9_478 → (∃ I488 : Nat → Int32 → mS → Prop, (∀ (n488 : Nat) (x10_488 : Int32) (σ_488 : mS), I488 n488 x10_488 σ_488 → (∃ j27, (1 : Int32) = nI j27 ∧ (j27 < 3 ∧ (((mI σ_488 0 j27) ≤ x10_488 → (∃ k31, k31 < n478 ∧ I478 k31 (x9_478 + 1) σ_488)) ∧ (¬ (mI σ_488 0 j27) ≤ x10_488 → (∃ j32, x10_488 = nI j32 ∧ (j32 < 60 ∧ ((¬ ((mI σ_488 2 j32) &&& (63 : Int32)) = x9_478 → (∃ k36, k36 < n488 ∧ I488 k36 (x10_488 + 1) σ_488)) ∧ (((mI σ_488 2 j32) &&& (63 : Int32)) = x9_478 → w_L_many x9_478 (1 : Int32) σ_488 (fun x40 σ37 => (∃ j41, (((10 : Int32) * x9_478) + (4 : Int32)) = nI j41 ∧ (j41 < 60 ∧ ((x40 < (mI σ37 1 j41) → (∃ j44, (0 : Int32) = nI j44 ∧ (j44 < 3 ∧ (∃ j46, ((10 : Int32) * x9_478) = nI j46 ∧ (j46 < 60 ∧ (∃ j48, x10_488 = nI j48 ∧ (j48 < 60 ∧ (∀ σ51, σ51 = sI σ37 5 j48 ((mI σ37 0 j44) + (mI σ37 1 j46)) → (∃ j52, x10_488 = nI j52 ∧ (j52 < 60 ∧ (∃ j54, x10_488 = nI j54 ∧ (j54 < 60 ∧ (((mI σ51 5 j52) ≤ (mI σ51 3 j54) → w_L_put x10_488 (3 : Int32) (3 : Int32) (1 : Int32) σ51 (fun σ57 => (∃ k61, k61 < n488 ∧ I488 k61 (x10_488 + 1) σ57))) ∧ (¬ (mI σ51 5 j52) ≤ (mI σ51 3 j54) → w_L_end x10_488 (6 : Int32) σ51 (fun σ62 => (∃ k66, k66 < n488 ∧ I488 k66 (x10_488 + 1) σ62)))))))))))))))) ∧ (¬ x40 < (mI σ37 1 j41) → (∃ k68, k68 < n488 ∧ I488 k68 (x10_488 + 1) σ37))))))))))))))) ∧ ∃ n, I488 n (0 : Int32) σ_478)))) ∧ ∃ n, I478 n (0 : Int32) σ_333)) ∧ (¬ (mI σ_273 0 j19) ≤ x9_333 → w_L_get x9_333 (3 : Int32) (3 : Int32) σ_333 (fun x72 σ69 => ((¬ x72 = (2 : Int32) → (∃ k75, k75 < n333 ∧ I333 k75 (x9_333 + 1) σ69)) ∧ (x72 = (2 : Int32) → w_L_get x9_333 (10 : Int32) (1 : Int32) σ69 (fun x79 σ76 => ((¬ x79 = 0 → w_L_put x9_333 (10 : Int32) (1 : Int32) (0 : Int32) σ76 (fun σ81 => w_L_get x9_333 (11 : Int32) (3 : Int32) σ81 (fun x87 σ84 => (∃ J398 : mS → Prop, (∀  (σ_398 : mS), J398  σ_398 → w_L_get x9_333 (11 : Int32) (3 : Int32) σ_398 (fun x91 σ88 => w_L_put x9_333 (11 : Int32) (3 : Int32) (x91 + (1 : Int32)) σ88 (fun σ92 => w_L_get x9_333 (14 : Int32) (3 : Int32) σ92 (fun x98 σ95 => w_L_put x9_333 (14 : Int32) (3 : Int32) (x98 + (1 : Int32)) σ95 (fun σ99 => (∃ j102, x9_333 = nI j102 ∧ (j102 < 60 ∧ (∃ j104, x9_333 = nI j104 ∧ (j104 < 60 ∧ w_L_begin (((mI σ99 7 j102) &&& (7 : Int32)) - (1 : Int32)) ((mI σ99 3 j104) - (1 : Int32)) x9_333 σ99 (fun σ106 => (∃ k110, k110 < n333 ∧ I333 k110 (x9_333 + 1) σ106))))))))))) ∧ ((¬ x87 = 0 → (J398  σ84)) ∧ (x87 = 0 → (∃ j112, (0 : Int32) = nI j112 ∧ (j112 < 3 ∧ (∃ j114, x9_333 = nI j114 ∧ (j114 < 60 ∧ (∀ σ117, σ117 = sI σ84 5 j114 (mI σ84 0 j112) → (J398  σ117)))))))))))) ∧ (x79 = 0 → (∃ k119, k119 < n333 ∧ I333 k119 (x9_333 + 1) σ76)))))))))) ∧ ∃ n, I333 n (0 : Int32) σ_273)))) ∧ (¬ x8_273 < 0 → w_L_get x8_273 (3 : Int32) (3 : Int32) σ_273 (fun x123 σ120 => ((¬ x123 = (2 : Int32) → (∃ k126, k126 < n273 ∧ I273 k126 (x8_273 + (-1)) σ120)) ∧ (x123 = (2 : Int32) → w_L_get x8_273 (10 : Int32) (1 : Int32) σ120 (fun x130 σ127 => ((¬ x130 = 0 → (∃ k133, k133 < n273 ∧ I273 k133 (x8_273 + (-1)) σ127)) ∧ (x130 = 0 → w_L_look x8_273 σ127 (fun σ134 => (∃ k138, k138 < n273 ∧ I273 k138 (x8_273 + (-1)) σ134))))))))))) ∧ ∃ n, I273 n ((mI σ_81 0 j15) - (1 : Int32)) σ_81)))) ∧ (¬ (mI σ_81 0 j12) ≤ x8_81 → w_L_get x8_81 (3 : Int32) (3 : Int32) σ_81 (fun x142 σ139 => ((¬ x142 = (1 : Int32) → (∃ k145, k145 < n81 ∧ I81 k145 (x8_81 + 1) σ139)) ∧ (x142 = (1 : Int32) → (∃ j146, x8_81 = nI j146 ∧ (j146 < 60 ∧ (∃ j148, (0 : Int32) = nI j148 ∧ (j148 < 3 ∧ (((mI σ139 5 j146) ≤ (mI σ139 0 j148) → (∃ j151, x8_81 = nI j151 ∧ (j151 < 60 ∧ (∃ j154, (((10 : Int32) * ((mI σ139 2 j151) &&& (7 : Int32))) + (2 : Int32)) = nI j154 ∧ (j154 < 60 ∧ (∃ j156, (((10 : Int32) * ((mI σ139 2 j151) &&& (7 : Int32))) + (2 : Int32)) = nI j156 ∧ (j156 < 60 ∧ (∀ σ159, σ159 = sI σ139 1 j156 ((mI σ139 1 j154) + (1 : Int32)) → (∃ j160, (((10 : Int32) * ((mI σ139 2 j151) &&& (7 : Int32))) + (1 : Int32)) = nI j160 ∧ (j160 < 60 ∧ (∃ J193 : mS → Prop, (∀  (σ_193 : mS), J193  σ_193 → (∃ j162, (((10 : Int32) * ((mI σ139 2 j151) &&& (7 : Int32))) + (3 : Int32)) = nI j162 ∧ (j162 < 60 ∧ ((¬ (mI σ_193 1 j162) = 0 → (∃ j165, (((10 : Int32) * ((mI σ139 2 j151) &&& (7 : Int32))) + (3 : Int32)) = nI j165 ∧ (j165 < 60 ∧ (∃ j167, x8_81 = nI j167 ∧ (j167 < 60 ∧ (∀ σ170, σ170 = sI σ_193 7 j167 (mI σ_193 1 j165) → w_L_put x8_81 (3 : Int32) (3 : Int32) (2 : Int32) σ170 (fun σ171 => w_L_put x8_81 (6 : Int32) (12 : Int32) (0 : Int32) σ171 (fun σ174 => w_L_put x8_81 (10 : Int32) (1 : Int32) (1 : Int32) σ174 (fun σ177 => (∃ k181, k181 < n81 ∧ I81 k181 (x8_81 + 1) σ177)))))))))) ∧ ((mI σ_193 1 j162) = 0 → w_L_end x8_81 (3 : Int32) σ_193 (fun σ182 => (∃ k186, k186 < n81 ∧ I81 k186 (x8_81 + 1) σ182))))))) ∧ (((mI σ159 1 j160) ≤ 0 → (J193  σ159)) ∧ (¬ (mI σ159 1 j160) ≤ 0 → (∃ j188, (((10 : Int32) * ((mI σ139 2 j151) &&& (7 : Int32))) + (2 : Int32)) = nI j188 ∧ (j188 < 60 ∧ (∃ j190, (((10 : Int32) * ((mI σ139 2 j151) &&& (7 : Int32))) + (1 : Int32)) = nI j190 ∧ (j190 < 60 ∧ (¬ (mI σ159 1 j190) = 0 ∧ ((¬ ((mI σ159 1 j188) - (mI σ159 1 j188) / (mI σ159 1 j190) * (mI σ159 1 j190)) = 0 → (J193  σ159)) ∧ (((mI σ159 1 j188) - (mI σ159 1 j188) / (mI σ159 1 j190) * (mI σ159 1 j190)) = 0 → w_L_end x8_81 (4 : Int32) σ159 (fun σ194 => (∃ j197, x8_81 = nI j197 ∧ (j197 < 60 ∧ w_L_fault ((mI σ194 2 j197) &&& (7 : Int32)) σ194 (fun σ199 => (∃ k203, k203 < n81 ∧ I81 k203 (x8_81 + 1) σ199))))))))))))))))))))))))) ∧ (¬ (mI σ139 5 j146) ≤ (mI σ139 0 j148) → (∃ k205, k205 < n81 ∧ I81 k205 (x8_81 + 1) σ139))))))))))))))) ∧ ∃ n, I81 n (0 : Int32) σ_11)) ∧ (¬ (mI σ_11 0 j8) ≤ x8_11 → w_L_get x8_11 (3 : Int32) (3 : Int32) σ_11 (fun x209 σ206 => (((2 : Int32) < x209 → (∃ k212, k212 < n11 ∧ I11 k212 (x8_11 + 1) σ206)) ∧ (¬ (2 : Int32) < x209 → (∃ j213, x8_11 = nI j213 ∧ (j213 < 60 ∧ (∃ j215, (0 : Int32) = nI j215 ∧ (j215 < 3 ∧ (((mI σ206 3 j213) ≤ (mI σ206 0 j215) → w_L_end x8_11 (5 : Int32) σ206 (fun σ218 => (∃ j221, x8_11 = nI j221 ∧ (j221 < 60 ∧ w_L_fault ((mI σ218 2 j221) &&& (7 : Int32)) σ218 (fun σ223 => (∃ k227, k227 < n11 ∧ I11 k227 (x8_11 + 1) σ223)))))) ∧ (¬ (mI σ206 3 j213) ≤ (mI σ206 0 j215) → (∃ k229, k229 < n11 ∧ I11 k229 (x8_11 + 1) σ206))))))))))))))) ∧ ∃ n, I11 n (0 : Int32) σ6))))))
set_option maxRecDepth 100000 in
set_option maxHeartbeats 4000000 in
theorem c_L_tick (l : Launch) (G : mG) (ad : Nat → Nat)  (σ0 : mS) (Q : mS → Prop) (h : w_L_tick  σ0 Q) : mKv l yL_tick cL_tick 11 3 85 G kdL ad σ0 [mV ad (some 1), mV ad (some 2), mV ad (some 3), mV ad (some 4), mV ad (some 5), mV ad (some 6), mV ad (some 7), mV ad (some 0)] Q := by
  refine mr_start (lst := [(0, mV ad (some 1)), (1, mV ad (some 2)), (2, mV ad (some 3)), (3, mV ad (some 4)), (4, mV ad (some 5)), (5, mV ad (some 6)), (6, mV ad (some 7)), (7, mV ad (some 0))]) (by decide) (m_cR (m_cR (m_cR (m_cR (m_cR (m_cR (m_cR (m_cR m_c0)))))))) rfl (Nat.le_of_ble_eq_true rfl) (fun p e s m below meth c C hM hr hlk ls hl => ?_)
  have hx := C.1.1
  have hb := C.1.2.1
  unfold w_L_tick at h
  refine mr_aload C dL_tick_0 (ml_at hl 7 rfl) ?_
  refine lv_iconst (v := 0) hx hb dL_tick_2 (by decide) ?_
  refine lv_dup2_11 hx hb dL_tick_3 rfl (mV_cat _ _) ?_
  obtain ⟨j1, ej2, ej2b, h⟩ := h
  refine mr_iald C hM (mB_fix hM rfl (by decide) (by decide) (by decide)) ej2 ej2b (by decide) dL_tick_4 ?_
  refine lv_iconst (v := 1) hx hb dL_tick_5 (by decide) ?_
  refine lv_iadd hx hb dL_tick_6 ?_
  obtain ⟨j3, ej4, ej4b, h⟩ := h
  refine mr_iast C hM (mB_fix hM rfl (by decide) (by decide) (by decide)) ej4 ej4b (by decide) dL_tick_7 (fun H locs hM5 => ?_)
  clear hM
  obtain ⟨σ6, eσ6⟩ : ∃ y, y = sI σ0 0 j3 ((mI σ0 0 j1) + (1 : Int32)) := ⟨_, rfl⟩
  rw [← eσ6] at hM5
  replace h := h σ6 eσ6
  refine lv_iconst (v := 0) hx hb dL_tick_8 (by decide) ?_
  refine mr_istore (lv' := [(8, .int (0 : Int32)), (0, mV ad (some 1)), (1, mV ad (some 2)), (2, mV ad (some 3)), (3, mV ad (some 4)), (4, mV ad (some 5)), (5, mV ad (some 6)), (6, mV ad (some 7)), (7, mV ad (some 0))]) C hl dL_tick_9 (by decide) rfl (fun ls hl7 => ?_)
  clear hl
  obtain ⟨I11, hI11, nn11, h⟩ := h
  have hL11 : ∀ (n11 : Nat) (x8_11 : Int32) (σ_11 : mS) (H : Heap) (locs : List Loc) (ls : Array Slot), I11 n11 x8_11 σ_11 → mM G kdL ad s σ_11 H locs → ml_has ls 11 [(0, mV ad (some 1)), (1, mV ad (some 2)), (2, mV ad (some 3)), (3, mV ad (some 4)), (4, mV ad (some 5)), (5, mV ad (some 6)), (6, mV ad (some 7)), (7, mV ad (some 0)), (8, .int x8_11)] → W p l e (mRm 3 85) s m ([mV ad (some 1), mV ad (some 2), mV ad (some 3), mV ad (some 4), mV ad (some 5), mV ad (some 6), mV ad (some 7), mV ad (some 0)] : List Value).toArray below meth c H locs 0 0 (MQ below (va_Qv Q (mPost G kdL ad) (mA ad)) ([mV ad (some 1), mV ad (some 2), mV ad (some 3), mV ad (some 4), mV ad (some 5), mV ad (some 6), mV ad (some 7), mV ad (some 0)] : List Value).toArray s 0 0 (mA ad)) (F0 m 11 ls []) := by
    refine m_loop (fun n11 ih11 => ?_)
    intro x8_11 σ_11 H locs ls h_11 hM_11 hl_11
    replace h_11 := hI11 n11 x8_11 σ_11 h_11
    refine lv_iload hx hb dL_tick_11 (ml_at hl_11 8 rfl) ?_
    refine mr_aload C dL_tick_13 (ml_at hl_11 7 rfl) ?_
    refine lv_iconst (v := 1) hx hb dL_tick_15 (by decide) ?_
    obtain ⟨j8, ej9, ej9b, h_11⟩ := h_11
    refine mr_iald C hM_11 (mB_fix hM_11 rfl (by decide) (by decide) (by decide)) ej9 ej9b (by decide) dL_tick_16 ?_
    refine lv_icmp_ge (tgt := 78) hx hb dL_tick_17 (by decide) (fun hc10 => ?_) (fun hc10 => ?_)
    · replace h_11 := h_11.1 hc10
      refine lv_iconst (v := 0) hx hb dL_tick_78 (by decide) ?_
      refine mr_istore (lv' := [(8, .int (0 : Int32)), (0, mV ad (some 1)), (1, mV ad (some 2)), (2, mV ad (some 3)), (3, mV ad (some 4)), (4, mV ad (some 5)), (5, mV ad (some 6)), (6, mV ad (some 7)), (7, mV ad (some 0))]) C hl_11 dL_tick_79 (by decide) rfl (fun ls hl11 => ?_)
      clear hl_11
      obtain ⟨I81, hI81, nn81, h_11⟩ := h_11
      have hL81 : ∀ (n81 : Nat) (x8_81 : Int32) (σ_81 : mS) (H : Heap) (locs : List Loc) (ls : Array Slot), I81 n81 x8_81 σ_81 → mM G kdL ad s σ_81 H locs → ml_has ls 11 [(0, mV ad (some 1)), (1, mV ad (some 2)), (2, mV ad (some 3)), (3, mV ad (some 4)), (4, mV ad (some 5)), (5, mV ad (some 6)), (6, mV ad (some 7)), (7, mV ad (some 0)), (8, .int x8_81)] → W p l e (mRm 3 85) s m ([mV ad (some 1), mV ad (some 2), mV ad (some 3), mV ad (some 4), mV ad (some 5), mV ad (some 6), mV ad (some 7), mV ad (some 0)] : List Value).toArray below meth c H locs 0 0 (MQ below (va_Qv Q (mPost G kdL ad) (mA ad)) ([mV ad (some 1), mV ad (some 2), mV ad (some 3), mV ad (some 4), mV ad (some 5), mV ad (some 6), mV ad (some 7), mV ad (some 0)] : List Value).toArray s 0 0 (mA ad)) (F0 m 81 ls []) := by
        refine m_loop (fun n81 ih81 => ?_)
        intro x8_81 σ_81 H locs ls h_81 hM_81 hl_81
        replace h_81 := hI81 n81 x8_81 σ_81 h_81
        refine lv_iload hx hb dL_tick_81 (ml_at hl_81 8 rfl) ?_
        refine mr_aload C dL_tick_83 (ml_at hl_81 7 rfl) ?_
        refine lv_iconst (v := 1) hx hb dL_tick_85 (by decide) ?_
        obtain ⟨j12, ej13, ej13b, h_81⟩ := h_81
        refine mr_iald C hM_81 (mB_fix hM_81 rfl (by decide) (by decide) (by decide)) ej13 ej13b (by decide) dL_tick_86 ?_
        refine lv_icmp_ge (tgt := 265) hx hb dL_tick_87 (by decide) (fun hc14 => ?_) (fun hc14 => ?_)
        · replace h_81 := h_81.1 hc14
          refine mr_aload C dL_tick_265 (ml_at hl_81 7 rfl) ?_
          refine lv_iconst (v := 1) hx hb dL_tick_267 (by decide) ?_
          obtain ⟨j15, ej16, ej16b, h_81⟩ := h_81
          refine mr_iald C hM_81 (mB_fix hM_81 rfl (by decide) (by decide) (by decide)) ej16 ej16b (by decide) dL_tick_268 ?_
          refine lv_iconst (v := 1) hx hb dL_tick_269 (by decide) ?_
          refine lv_isub hx hb dL_tick_270 ?_
          refine mr_istore (lv' := [(8, .int ((mI σ_81 0 j15) - (1 : Int32))), (0, mV ad (some 1)), (1, mV ad (some 2)), (2, mV ad (some 3)), (3, mV ad (some 4)), (4, mV ad (some 5)), (5, mV ad (some 6)), (6, mV ad (some 7)), (7, mV ad (some 0))]) C hl_81 dL_tick_271 (by decide) rfl (fun ls hl17 => ?_)
          clear hl_81
          obtain ⟨I273, hI273, nn273, h_81⟩ := h_81
          have hL273 : ∀ (n273 : Nat) (x8_273 : Int32) (σ_273 : mS) (H : Heap) (locs : List Loc) (ls : Array Slot), I273 n273 x8_273 σ_273 → mM G kdL ad s σ_273 H locs → ml_has ls 11 [(0, mV ad (some 1)), (1, mV ad (some 2)), (2, mV ad (some 3)), (3, mV ad (some 4)), (4, mV ad (some 5)), (5, mV ad (some 6)), (6, mV ad (some 7)), (7, mV ad (some 0)), (8, .int x8_273)] → W p l e (mRm 3 85) s m ([mV ad (some 1), mV ad (some 2), mV ad (some 3), mV ad (some 4), mV ad (some 5), mV ad (some 6), mV ad (some 7), mV ad (some 0)] : List Value).toArray below meth c H locs 0 0 (MQ below (va_Qv Q (mPost G kdL ad) (mA ad)) ([mV ad (some 1), mV ad (some 2), mV ad (some 3), mV ad (some 4), mV ad (some 5), mV ad (some 6), mV ad (some 7), mV ad (some 0)] : List Value).toArray s 0 0 (mA ad)) (F0 m 273 ls []) := by
            refine m_loop (fun n273 ih273 => ?_)
            intro x8_273 σ_273 H locs ls h_273 hM_273 hl_273
            replace h_273 := hI273 n273 x8_273 σ_273 h_273
            refine lv_iload hx hb dL_tick_273 (ml_at hl_273 8 rfl) ?_
            refine lv_if_lt (tgt := 324) hx hb dL_tick_275 (by decide) (fun hc18 => ?_) (fun hc18 => ?_)
            · replace h_273 := h_273.1 hc18
              refine mr_aload C dL_tick_324 (ml_at hl_273 7 rfl) ?_
              refine lv_iconst (v := 1) hx hb dL_tick_326 (by decide) ?_
              obtain ⟨j19, ej20, ej20b, h_273⟩ := h_273
              refine mr_iald C hM_273 (mB_fix hM_273 rfl (by decide) (by decide) (by decide)) ej20 ej20b (by decide) dL_tick_327 ?_
              refine mr_istore (lv' := [(8, .int (mI σ_273 0 j19)), (0, mV ad (some 1)), (1, mV ad (some 2)), (2, mV ad (some 3)), (3, mV ad (some 4)), (4, mV ad (some 5)), (5, mV ad (some 6)), (6, mV ad (some 7)), (7, mV ad (some 0))]) C hl_273 dL_tick_328 (by decide) rfl (fun ls hl21 => ?_)
              clear hl_273
              refine lv_iconst (v := 0) hx hb dL_tick_330 (by decide) ?_
              refine mr_istore (lv' := [(9, .int (0 : Int32)), (8, .int (mI σ_273 0 j19)), (0, mV ad (some 1)), (1, mV ad (some 2)), (2, mV ad (some 3)), (3, mV ad (some 4)), (4, mV ad (some 5)), (5, mV ad (some 6)), (6, mV ad (some 7)), (7, mV ad (some 0))]) C hl21 dL_tick_331 (by decide) rfl (fun ls hl22 => ?_)
              clear hl21
              obtain ⟨I333, hI333, nn333, h_273⟩ := h_273
              have hL333 : ∀ (n333 : Nat) (x9_333 : Int32) (σ_333 : mS) (H : Heap) (locs : List Loc) (ls : Array Slot), I333 n333 x9_333 σ_333 → mM G kdL ad s σ_333 H locs → ml_has ls 11 [(0, mV ad (some 1)), (1, mV ad (some 2)), (2, mV ad (some 3)), (3, mV ad (some 4)), (4, mV ad (some 5)), (5, mV ad (some 6)), (6, mV ad (some 7)), (7, mV ad (some 0)), (8, .int (mI σ_273 0 j19)), (9, .int x9_333)] → W p l e (mRm 3 85) s m ([mV ad (some 1), mV ad (some 2), mV ad (some 3), mV ad (some 4), mV ad (some 5), mV ad (some 6), mV ad (some 7), mV ad (some 0)] : List Value).toArray below meth c H locs 0 0 (MQ below (va_Qv Q (mPost G kdL ad) (mA ad)) ([mV ad (some 1), mV ad (some 2), mV ad (some 3), mV ad (some 4), mV ad (some 5), mV ad (some 6), mV ad (some 7), mV ad (some 0)] : List Value).toArray s 0 0 (mA ad)) (F0 m 333 ls []) := by
                refine m_loop (fun n333 ih333 => ?_)
                intro x9_333 σ_333 H locs ls h_333 hM_333 hl_333
                replace h_333 := hI333 n333 x9_333 σ_333 h_333
                refine lv_iload hx hb dL_tick_333 (ml_at hl_333 9 rfl) ?_
                refine lv_iload hx hb dL_tick_335 (ml_at hl_333 8 rfl) ?_
                refine lv_icmp_ge (tgt := 475) hx hb dL_tick_337 (by decide) (fun hc23 => ?_) (fun hc23 => ?_)
                · replace h_333 := h_333.1 hc23
                  refine lv_iconst (v := 0) hx hb dL_tick_475 (by decide) ?_
                  refine mr_istore (lv' := [(9, .int (0 : Int32)), (0, mV ad (some 1)), (1, mV ad (some 2)), (2, mV ad (some 3)), (3, mV ad (some 4)), (4, mV ad (some 5)), (5, mV ad (some 6)), (6, mV ad (some 7)), (7, mV ad (some 0)), (8, .int (mI σ_273 0 j19))]) C hl_333 dL_tick_476 (by decide) rfl (fun ls hl24 => ?_)
                  clear hl_333
                  obtain ⟨I478, hI478, nn478, h_333⟩ := h_333
                  have hL478 : ∀ (n478 : Nat) (x9_478 : Int32) (σ_478 : mS) (H : Heap) (locs : List Loc) (ls : Array Slot), I478 n478 x9_478 σ_478 → mM G kdL ad s σ_478 H locs → ml_has ls 11 [(0, mV ad (some 1)), (1, mV ad (some 2)), (2, mV ad (some 3)), (3, mV ad (some 4)), (4, mV ad (some 5)), (5, mV ad (some 6)), (7, mV ad (some 0)), (9, .int x9_478)] → W p l e (mRm 3 85) s m ([mV ad (some 1), mV ad (some 2), mV ad (some 3), mV ad (some 4), mV ad (some 5), mV ad (some 6), mV ad (some 7), mV ad (some 0)] : List Value).toArray below meth c H locs 0 0 (MQ below (va_Qv Q (mPost G kdL ad) (mA ad)) ([mV ad (some 1), mV ad (some 2), mV ad (some 3), mV ad (some 4), mV ad (some 5), mV ad (some 6), mV ad (some 7), mV ad (some 0)] : List Value).toArray s 0 0 (mA ad)) (F0 m 478 ls []) := by
                    refine m_loop (fun n478 ih478 => ?_)
                    intro x9_478 σ_478 H locs ls h_478 hM_478 hl_478
                    replace h_478 := hI478 n478 x9_478 σ_478 h_478
                    refine lv_iload hx hb dL_tick_478 (ml_at hl_478 7 rfl) ?_
                    refine lv_bipush (v := 6) hx hb dL_tick_480 (by decide) ?_
                    refine lv_icmp_ge (tgt := 600) hx hb dL_tick_482 (by decide) (fun hc25 => ?_) (fun hc25 => ?_)
                    · replace h_478 := h_478.1 hc25
                      exact mr_vret C hM_478 hr hlk h_478 dL_tick_600
                    · replace h_478 := h_478.2 hc25
                      refine lv_iconst (v := 0) hx hb dL_tick_485 (by decide) ?_
                      refine mr_istore (lv' := [(10, .int (0 : Int32)), (0, mV ad (some 1)), (1, mV ad (some 2)), (2, mV ad (some 3)), (3, mV ad (some 4)), (4, mV ad (some 5)), (5, mV ad (some 6)), (7, mV ad (some 0)), (9, .int x9_478)]) C hl_478 dL_tick_486 (by decide) rfl (fun ls hl26 => ?_)
                      clear hl_478
                      obtain ⟨I488, hI488, nn488, h_478⟩ := h_478
                      have hL488 : ∀ (n488 : Nat) (x10_488 : Int32) (σ_488 : mS) (H : Heap) (locs : List Loc) (ls : Array Slot), I488 n488 x10_488 σ_488 → mM G kdL ad s σ_488 H locs → ml_has ls 11 [(0, mV ad (some 1)), (1, mV ad (some 2)), (2, mV ad (some 3)), (3, mV ad (some 4)), (4, mV ad (some 5)), (5, mV ad (some 6)), (7, mV ad (some 0)), (9, .int x9_478), (10, .int x10_488)] → W p l e (mRm 3 85) s m ([mV ad (some 1), mV ad (some 2), mV ad (some 3), mV ad (some 4), mV ad (some 5), mV ad (some 6), mV ad (some 7), mV ad (some 0)] : List Value).toArray below meth c H locs 0 0 (MQ below (va_Qv Q (mPost G kdL ad) (mA ad)) ([mV ad (some 1), mV ad (some 2), mV ad (some 3), mV ad (some 4), mV ad (some 5), mV ad (some 6), mV ad (some 7), mV ad (some 0)] : List Value).toArray s 0 0 (mA ad)) (F0 m 488 ls []) := by
                        refine m_loop (fun n488 ih488 => ?_)
                        intro x10_488 σ_488 H locs ls h_488 hM_488 hl_488
                        replace h_488 := hI488 n488 x10_488 σ_488 h_488
                        refine lv_iload hx hb dL_tick_488 (ml_at hl_488 8 rfl) ?_
                        refine mr_aload C dL_tick_490 (ml_at hl_488 6 rfl) ?_
                        refine lv_iconst (v := 1) hx hb dL_tick_492 (by decide) ?_
                        obtain ⟨j27, ej28, ej28b, h_488⟩ := h_488
                        refine mr_iald C hM_488 (mB_fix hM_488 rfl (by decide) (by decide) (by decide)) ej28 ej28b (by decide) dL_tick_493 ?_
                        refine lv_icmp_ge (tgt := 594) hx hb dL_tick_494 (by decide) (fun hc29 => ?_) (fun hc29 => ?_)
                        · replace h_488 := h_488.1 hc29
                          refine mr_iinc (v := (x9_478 + 1)) (lv' := [(9, .int (x9_478 + 1)), (0, mV ad (some 1)), (1, mV ad (some 2)), (2, mV ad (some 3)), (3, mV ad (some 4)), (4, mV ad (some 5)), (5, mV ad (some 6)), (7, mV ad (some 0)), (10, .int x10_488)]) C hl_488 dL_tick_594 (k := 7) rfl rfl (by decide) rfl (fun ls hl30 => ?_)
                          clear hl_488
                          refine lv_goto (tgt := 478) hx hb dL_tick_597 (by decide) ?_
                          obtain ⟨k31, hk31, h_488⟩ := h_488
                          exact ih478 k31 hk31 (x9_478 + 1) σ_488 _ _ _ h_488 hM_488 (ml_sub hl30 [1, 2, 3, 4, 5, 6, 7, 0] rfl)
                        · replace h_488 := h_488.2 hc29
                          refine mr_aload_n C dL_tick_497 rfl (ml_at hl_488 1 rfl) ?_
                          refine lv_iload hx hb dL_tick_498 (ml_at hl_488 8 rfl) ?_
                          obtain ⟨j32, ej33, ej33b, h_488⟩ := h_488
                          refine mr_iald C hM_488 (mB_fix hM_488 rfl (by decide) (by decide) (by decide)) ej33 ej33b (by decide) dL_tick_500 ?_
                          refine lv_bipush (v := 63) hx hb dL_tick_501 (by decide) ?_
                          refine lv_iand hx hb dL_tick_503 ?_
                          refine lv_iload hx hb dL_tick_504 (ml_at hl_488 7 rfl) ?_
                          refine lv_icmp_ne (tgt := 588) hx hb dL_tick_506 (by decide) (fun hc34 => ?_) (fun hc34 => ?_)
                          · replace h_488 := h_488.1 hc34
                            refine mr_iinc (v := (x10_488 + 1)) (lv' := [(10, .int (x10_488 + 1)), (0, mV ad (some 1)), (1, mV ad (some 2)), (2, mV ad (some 3)), (3, mV ad (some 4)), (4, mV ad (some 5)), (5, mV ad (some 6)), (7, mV ad (some 0)), (9, .int x9_478)]) C hl_488 dL_tick_588 (k := 8) rfl rfl (by decide) rfl (fun ls hl35 => ?_)
                            clear hl_488
                            refine lv_goto (tgt := 488) hx hb dL_tick_591 (by decide) ?_
                            obtain ⟨k36, hk36, h_488⟩ := h_488
                            exact ih488 k36 hk36 (x10_488 + 1) σ_488 _ _ _ h_488 hM_488 (ml_sub hl35 [1, 2, 3, 4, 5, 6, 7, 8, 0] rfl)
                          · replace h_488 := h_488.2 hc34
                            refine mr_aload_n C dL_tick_509 rfl (ml_at hl_488 1 rfl) ?_
                            refine mr_aload C dL_tick_510 (ml_at hl_488 6 rfl) ?_
                            refine lv_iload hx hb dL_tick_512 (ml_at hl_488 7 rfl) ?_
                            refine lv_iconst (v := 1) hx hb dL_tick_514 (by decide) ?_
                            refine mr_ci hM_488 (mr_runS (As := [mV ad (some 2), mV ad (some 0), .int x9_478, .int (1 : Int32)]) C hM_488 hl_488.1.1 (c_L_many l G ad x9_478 (1 : Int32) σ_488 _ h_488) cw_L_63 (n := 4) ⟨rfl, by decide, by decide, by decide +kernel⟩ rfl rfl ⟨Nat.le_of_ble_eq_true rfl, Nat.le_of_ble_eq_true rfl⟩ m_c0 (Nat.le_of_ble_eq_true rfl) dL_tick_515 ⟨Nat.zero_le _, Nat.zero_le _⟩) (fun x40 σ37 H locs h38 hM39 => ?_)
                            clear h_488 hM_488
                            refine mr_aload_n C dL_tick_518 rfl (ml_at hl_488 0 rfl) ?_
                            refine lv_bipush (v := 10) hx hb dL_tick_519 (by decide) ?_
                            refine lv_iload hx hb dL_tick_521 (ml_at hl_488 7 rfl) ?_
                            refine lv_imul hx hb dL_tick_523 ?_
                            refine lv_iconst (v := 4) hx hb dL_tick_524 (by decide) ?_
                            refine lv_iadd hx hb dL_tick_525 ?_
                            obtain ⟨j41, ej42, ej42b, h38⟩ := h38
                            refine mr_iald C hM39 (mB_fix hM39 rfl (by decide) (by decide) (by decide)) ej42 ej42b (by decide) dL_tick_526 ?_
                            refine lv_icmp_lt (tgt := 533) hx hb dL_tick_527 (by decide) (fun hc43 => ?_) (fun hc43 => ?_)
                            · replace h38 := h38.1 hc43
                              refine mr_aload C dL_tick_533 (ml_at hl_488 4 rfl) ?_
                              refine lv_iload hx hb dL_tick_535 (ml_at hl_488 8 rfl) ?_
                              refine mr_aload C dL_tick_537 (ml_at hl_488 6 rfl) ?_
                              refine lv_iconst (v := 0) hx hb dL_tick_539 (by decide) ?_
                              obtain ⟨j44, ej45, ej45b, h38⟩ := h38
                              refine mr_iald C hM39 (mB_fix hM39 rfl (by decide) (by decide) (by decide)) ej45 ej45b (by decide) dL_tick_540 ?_
                              refine mr_aload_n C dL_tick_541 rfl (ml_at hl_488 0 rfl) ?_
                              refine lv_bipush (v := 10) hx hb dL_tick_542 (by decide) ?_
                              refine lv_iload hx hb dL_tick_544 (ml_at hl_488 7 rfl) ?_
                              refine lv_imul hx hb dL_tick_546 ?_
                              obtain ⟨j46, ej47, ej47b, h38⟩ := h38
                              refine mr_iald C hM39 (mB_fix hM39 rfl (by decide) (by decide) (by decide)) ej47 ej47b (by decide) dL_tick_547 ?_
                              refine lv_iadd hx hb dL_tick_548 ?_
                              obtain ⟨j48, ej49, ej49b, h38⟩ := h38
                              refine mr_iast C hM39 (mB_fix hM39 rfl (by decide) (by decide) (by decide)) ej49 ej49b (by decide) dL_tick_549 (fun H locs hM50 => ?_)
                              clear hM39
                              obtain ⟨σ51, eσ51⟩ : ∃ y, y = sI σ37 5 j48 ((mI σ37 0 j44) + (mI σ37 1 j46)) := ⟨_, rfl⟩
                              rw [← eσ51] at hM50
                              replace h38 := h38 σ51 eσ51
                              refine mr_aload C dL_tick_550 (ml_at hl_488 4 rfl) ?_
                              refine lv_iload hx hb dL_tick_552 (ml_at hl_488 8 rfl) ?_
                              obtain ⟨j52, ej53, ej53b, h38⟩ := h38
                              refine mr_iald C hM50 (mB_fix hM50 rfl (by decide) (by decide) (by decide)) ej53 ej53b (by decide) dL_tick_554 ?_
                              refine mr_aload_n C dL_tick_555 rfl (ml_at hl_488 2 rfl) ?_
                              refine lv_iload hx hb dL_tick_556 (ml_at hl_488 8 rfl) ?_
                              obtain ⟨j54, ej55, ej55b, h38⟩ := h38
                              refine mr_iald C hM50 (mB_fix hM50 rfl (by decide) (by decide) (by decide)) ej55 ej55b (by decide) dL_tick_558 ?_
                              refine lv_icmp_le (tgt := 579) hx hb dL_tick_559 (by decide) (fun hc56 => ?_) (fun hc56 => ?_)
                              · replace h38 := h38.1 hc56
                                refine mr_aload_n C dL_tick_579 rfl (ml_at hl_488 1 rfl) ?_
                                refine lv_iload hx hb dL_tick_580 (ml_at hl_488 8 rfl) ?_
                                refine lv_iconst (v := 3) hx hb dL_tick_582 (by decide) ?_
                                refine lv_iconst (v := 3) hx hb dL_tick_583 (by decide) ?_
                                refine lv_iconst (v := 1) hx hb dL_tick_584 (by decide) ?_
                                refine mr_cv hM50 (mr_runS (As := [mV ad (some 2), .int x10_488, .int (3 : Int32), .int (3 : Int32), .int (1 : Int32)]) C hM50 hl_488.1.1 (c_L_put l G ad x10_488 (3 : Int32) (3 : Int32) (1 : Int32) σ51 _ h38) cw_L_53 (n := 5) ⟨rfl, by decide, by decide, by decide +kernel⟩ rfl rfl ⟨Nat.le_of_ble_eq_true rfl, Nat.le_of_ble_eq_true rfl⟩ m_c0 (Nat.le_of_ble_eq_true rfl) dL_tick_585 ⟨Nat.zero_le _, Nat.zero_le _⟩) (fun σ57 H locs h58 hM59 => ?_)
                                clear h38 hM50
                                refine mr_iinc (v := (x10_488 + 1)) (lv' := [(10, .int (x10_488 + 1)), (0, mV ad (some 1)), (1, mV ad (some 2)), (2, mV ad (some 3)), (3, mV ad (some 4)), (4, mV ad (some 5)), (5, mV ad (some 6)), (7, mV ad (some 0)), (9, .int x9_478)]) C hl_488 dL_tick_588 (k := 8) rfl rfl (by decide) rfl (fun ls hl60 => ?_)
                                clear hl_488
                                refine lv_goto (tgt := 488) hx hb dL_tick_591 (by decide) ?_
                                obtain ⟨k61, hk61, h58⟩ := h58
                                exact ih488 k61 hk61 (x10_488 + 1) σ57 _ _ _ h58 hM59 (ml_sub hl60 [1, 2, 3, 4, 5, 6, 7, 8, 0] rfl)
                              · replace h38 := h38.2 hc56
                                refine lv_iload hx hb dL_tick_562 (ml_at hl_488 8 rfl) ?_
                                refine lv_bipush (v := 6) hx hb dL_tick_564 (by decide) ?_
                                refine mr_aload_n C dL_tick_566 rfl (ml_at hl_488 0 rfl) ?_
                                refine mr_aload_n C dL_tick_567 rfl (ml_at hl_488 1 rfl) ?_
                                refine mr_aload_n C dL_tick_568 rfl (ml_at hl_488 3 rfl) ?_
                                refine mr_aload C dL_tick_569 (ml_at hl_488 5 rfl) ?_
                                refine mr_aload C dL_tick_571 (ml_at hl_488 6 rfl) ?_
                                refine mr_cv hM50 (mr_runS (As := [.int x10_488, .int (6 : Int32), mV ad (some 1), mV ad (some 2), mV ad (some 4), mV ad (some 6), mV ad (some 0)]) C hM50 hl_488.1.1 (c_L_end l G ad x10_488 (6 : Int32) σ51 _ h38) cw_L_67 (n := 7) ⟨rfl, by decide, by decide, by decide +kernel⟩ rfl rfl ⟨Nat.le_of_ble_eq_true rfl, Nat.le_of_ble_eq_true rfl⟩ m_c0 (Nat.le_of_ble_eq_true rfl) dL_tick_573 ⟨Nat.zero_le _, Nat.zero_le _⟩) (fun σ62 H locs h63 hM64 => ?_)
                                clear h38 hM50
                                refine lv_goto (tgt := 588) hx hb dL_tick_576 (by decide) ?_
                                refine mr_iinc (v := (x10_488 + 1)) (lv' := [(10, .int (x10_488 + 1)), (0, mV ad (some 1)), (1, mV ad (some 2)), (2, mV ad (some 3)), (3, mV ad (some 4)), (4, mV ad (some 5)), (5, mV ad (some 6)), (7, mV ad (some 0)), (9, .int x9_478)]) C hl_488 dL_tick_588 (k := 8) rfl rfl (by decide) rfl (fun ls hl65 => ?_)
                                clear hl_488
                                refine lv_goto (tgt := 488) hx hb dL_tick_591 (by decide) ?_
                                obtain ⟨k66, hk66, h63⟩ := h63
                                exact ih488 k66 hk66 (x10_488 + 1) σ62 _ _ _ h63 hM64 (ml_sub hl65 [1, 2, 3, 4, 5, 6, 7, 8, 0] rfl)
                            · replace h38 := h38.2 hc43
                              refine lv_goto (tgt := 588) hx hb dL_tick_530 (by decide) ?_
                              refine mr_iinc (v := (x10_488 + 1)) (lv' := [(10, .int (x10_488 + 1)), (0, mV ad (some 1)), (1, mV ad (some 2)), (2, mV ad (some 3)), (3, mV ad (some 4)), (4, mV ad (some 5)), (5, mV ad (some 6)), (7, mV ad (some 0)), (9, .int x9_478)]) C hl_488 dL_tick_588 (k := 8) rfl rfl (by decide) rfl (fun ls hl67 => ?_)
                              clear hl_488
                              refine lv_goto (tgt := 488) hx hb dL_tick_591 (by decide) ?_
                              obtain ⟨k68, hk68, h38⟩ := h38
                              exact ih488 k68 hk68 (x10_488 + 1) σ37 _ _ _ h38 hM39 (ml_sub hl67 [1, 2, 3, 4, 5, 6, 7, 8, 0] rfl)
                      exact hL488 nn488 (0 : Int32) σ_478 _ _ _ h_478 hM_478 (ml_sub hl26 [1, 2, 3, 4, 5, 6, 7, 8, 0] rfl)
                  exact hL478 nn478 (0 : Int32) σ_333 _ _ _ h_333 hM_333 (ml_sub hl24 [1, 2, 3, 4, 5, 6, 8, 0] rfl)
                · replace h_333 := h_333.2 hc23
                  refine mr_aload_n C dL_tick_340 rfl (ml_at hl_333 1 rfl) ?_
                  refine lv_iload hx hb dL_tick_341 (ml_at hl_333 9 rfl) ?_
                  refine lv_iconst (v := 3) hx hb dL_tick_343 (by decide) ?_
                  refine lv_iconst (v := 3) hx hb dL_tick_344 (by decide) ?_
                  refine mr_ci hM_333 (mr_runS (As := [mV ad (some 2), .int x9_333, .int (3 : Int32), .int (3 : Int32)]) C hM_333 hl_333.1.1 (c_L_get l G ad x9_333 (3 : Int32) (3 : Int32) σ_333 _ h_333) cw_L_59 (n := 4) ⟨rfl, by decide, by decide, by decide +kernel⟩ rfl rfl ⟨Nat.le_of_ble_eq_true rfl, Nat.le_of_ble_eq_true rfl⟩ m_c0 (Nat.le_of_ble_eq_true rfl) dL_tick_345 ⟨Nat.zero_le _, Nat.zero_le _⟩) (fun x72 σ69 H locs h70 hM71 => ?_)
                  clear h_333 hM_333
                  refine lv_iconst (v := 2) hx hb dL_tick_348 (by decide) ?_
                  refine lv_icmp_ne (tgt := 469) hx hb dL_tick_349 (by decide) (fun hc73 => ?_) (fun hc73 => ?_)
                  · replace h70 := h70.1 hc73
                    refine mr_iinc (v := (x9_333 + 1)) (lv' := [(9, .int (x9_333 + 1)), (0, mV ad (some 1)), (1, mV ad (some 2)), (2, mV ad (some 3)), (3, mV ad (some 4)), (4, mV ad (some 5)), (5, mV ad (some 6)), (6, mV ad (some 7)), (7, mV ad (some 0)), (8, .int (mI σ_273 0 j19))]) C hl_333 dL_tick_469 (k := 9) rfl rfl (by decide) rfl (fun ls hl74 => ?_)
                    clear hl_333
                    refine lv_goto (tgt := 333) hx hb dL_tick_472 (by decide) ?_
                    obtain ⟨k75, hk75, h70⟩ := h70
                    exact ih333 k75 hk75 (x9_333 + 1) σ69 _ _ _ h70 hM71 (ml_sub hl74 [1, 2, 3, 4, 5, 6, 7, 8, 9, 0] rfl)
                  · replace h70 := h70.2 hc73
                    refine mr_aload_n C dL_tick_352 rfl (ml_at hl_333 1 rfl) ?_
                    refine lv_iload hx hb dL_tick_353 (ml_at hl_333 9 rfl) ?_
                    refine lv_bipush (v := 10) hx hb dL_tick_355 (by decide) ?_
                    refine lv_iconst (v := 1) hx hb dL_tick_357 (by decide) ?_
                    refine mr_ci hM71 (mr_runS (As := [mV ad (some 2), .int x9_333, .int (10 : Int32), .int (1 : Int32)]) C hM71 hl_333.1.1 (c_L_get l G ad x9_333 (10 : Int32) (1 : Int32) σ69 _ h70) cw_L_59 (n := 4) ⟨rfl, by decide, by decide, by decide +kernel⟩ rfl rfl ⟨Nat.le_of_ble_eq_true rfl, Nat.le_of_ble_eq_true rfl⟩ m_c0 (Nat.le_of_ble_eq_true rfl) dL_tick_358 ⟨Nat.zero_le _, Nat.zero_le _⟩) (fun x79 σ76 H locs h77 hM78 => ?_)
                    clear h70 hM71
                    refine lv_if_ne (tgt := 367) hx hb dL_tick_361 (by decide) (fun hc80 => ?_) (fun hc80 => ?_)
                    · replace h77 := h77.1 hc80
                      refine mr_aload_n C dL_tick_367 rfl (ml_at hl_333 1 rfl) ?_
                      refine lv_iload hx hb dL_tick_368 (ml_at hl_333 9 rfl) ?_
                      refine lv_bipush (v := 10) hx hb dL_tick_370 (by decide) ?_
                      refine lv_iconst (v := 1) hx hb dL_tick_372 (by decide) ?_
                      refine lv_iconst (v := 0) hx hb dL_tick_373 (by decide) ?_
                      refine mr_cv hM78 (mr_runS (As := [mV ad (some 2), .int x9_333, .int (10 : Int32), .int (1 : Int32), .int (0 : Int32)]) C hM78 hl_333.1.1 (c_L_put l G ad x9_333 (10 : Int32) (1 : Int32) (0 : Int32) σ76 _ h77) cw_L_53 (n := 5) ⟨rfl, by decide, by decide, by decide +kernel⟩ rfl rfl ⟨Nat.le_of_ble_eq_true rfl, Nat.le_of_ble_eq_true rfl⟩ m_c0 (Nat.le_of_ble_eq_true rfl) dL_tick_374 ⟨Nat.zero_le _, Nat.zero_le _⟩) (fun σ81 H locs h82 hM83 => ?_)
                      clear h77 hM78
                      refine mr_aload_n C dL_tick_377 rfl (ml_at hl_333 1 rfl) ?_
                      refine lv_iload hx hb dL_tick_378 (ml_at hl_333 9 rfl) ?_
                      refine lv_bipush (v := 11) hx hb dL_tick_380 (by decide) ?_
                      refine lv_iconst (v := 3) hx hb dL_tick_382 (by decide) ?_
                      refine mr_ci hM83 (mr_runS (As := [mV ad (some 2), .int x9_333, .int (11 : Int32), .int (3 : Int32)]) C hM83 hl_333.1.1 (c_L_get l G ad x9_333 (11 : Int32) (3 : Int32) σ81 _ h82) cw_L_59 (n := 4) ⟨rfl, by decide, by decide, by decide +kernel⟩ rfl rfl ⟨Nat.le_of_ble_eq_true rfl, Nat.le_of_ble_eq_true rfl⟩ m_c0 (Nat.le_of_ble_eq_true rfl) dL_tick_383 ⟨Nat.zero_le _, Nat.zero_le _⟩) (fun x87 σ84 H locs h85 hM86 => ?_)
                      clear h82 hM83
                      obtain ⟨J398, hJ398, h85⟩ := h85
                      have hj398 : ∀  (σ_398 : mS) (H : Heap) (locs : List Loc) (ls : Array Slot), J398  σ_398 → mM G kdL ad s σ_398 H locs → ml_has ls 11 [(0, mV ad (some 1)), (1, mV ad (some 2)), (2, mV ad (some 3)), (3, mV ad (some 4)), (4, mV ad (some 5)), (5, mV ad (some 6)), (6, mV ad (some 7)), (7, mV ad (some 0)), (8, .int (mI σ_273 0 j19)), (9, .int x9_333)] → W p l e (mRm 3 85) s m ([mV ad (some 1), mV ad (some 2), mV ad (some 3), mV ad (some 4), mV ad (some 5), mV ad (some 6), mV ad (some 7), mV ad (some 0)] : List Value).toArray below meth c H locs 0 0 (MQ below (va_Qv Q (mPost G kdL ad) (mA ad)) ([mV ad (some 1), mV ad (some 2), mV ad (some 3), mV ad (some 4), mV ad (some 5), mV ad (some 6), mV ad (some 7), mV ad (some 0)] : List Value).toArray s 0 0 (mA ad)) (F0 m 398 ls []) := by
                        intro  σ_398 H locs ls h_398 hM_398 hl_398
                        replace h_398 := hJ398  σ_398 h_398
                        refine mr_aload_n C dL_tick_398 rfl (ml_at hl_398 1 rfl) ?_
                        refine lv_iload hx hb dL_tick_399 (ml_at hl_398 9 rfl) ?_
                        refine lv_bipush (v := 11) hx hb dL_tick_401 (by decide) ?_
                        refine lv_iconst (v := 3) hx hb dL_tick_403 (by decide) ?_
                        refine mr_aload_n C dL_tick_404 rfl (ml_at hl_398 1 rfl) ?_
                        refine lv_iload hx hb dL_tick_405 (ml_at hl_398 9 rfl) ?_
                        refine lv_bipush (v := 11) hx hb dL_tick_407 (by decide) ?_
                        refine lv_iconst (v := 3) hx hb dL_tick_409 (by decide) ?_
                        refine mr_ci hM_398 (mr_runS (As := [mV ad (some 2), .int x9_333, .int (11 : Int32), .int (3 : Int32)]) C hM_398 hl_398.1.1 (c_L_get l G ad x9_333 (11 : Int32) (3 : Int32) σ_398 _ h_398) cw_L_59 (n := 4) ⟨rfl, by decide, by decide, by decide +kernel⟩ rfl rfl ⟨Nat.le_of_ble_eq_true rfl, Nat.le_of_ble_eq_true rfl⟩ (m_cI (m_cI (m_cI (m_cR m_c0)))) (Nat.le_of_ble_eq_true rfl) dL_tick_410 ⟨Nat.zero_le _, Nat.zero_le _⟩) (fun x91 σ88 H locs h89 hM90 => ?_)
                        clear h_398 hM_398
                        refine lv_iconst (v := 1) hx hb dL_tick_413 (by decide) ?_
                        refine lv_iadd hx hb dL_tick_414 ?_
                        refine mr_cv hM90 (mr_runS (As := [mV ad (some 2), .int x9_333, .int (11 : Int32), .int (3 : Int32), .int (x91 + (1 : Int32))]) C hM90 hl_398.1.1 (c_L_put l G ad x9_333 (11 : Int32) (3 : Int32) (x91 + (1 : Int32)) σ88 _ h89) cw_L_53 (n := 5) ⟨rfl, by decide, by decide, by decide +kernel⟩ rfl rfl ⟨Nat.le_of_ble_eq_true rfl, Nat.le_of_ble_eq_true rfl⟩ m_c0 (Nat.le_of_ble_eq_true rfl) dL_tick_415 ⟨Nat.zero_le _, Nat.zero_le _⟩) (fun σ92 H locs h93 hM94 => ?_)
                        clear h89 hM90
                        refine mr_aload_n C dL_tick_418 rfl (ml_at hl_398 1 rfl) ?_
                        refine lv_iload hx hb dL_tick_419 (ml_at hl_398 9 rfl) ?_
                        refine lv_bipush (v := 14) hx hb dL_tick_421 (by decide) ?_
                        refine lv_iconst (v := 3) hx hb dL_tick_423 (by decide) ?_
                        refine mr_aload_n C dL_tick_424 rfl (ml_at hl_398 1 rfl) ?_
                        refine lv_iload hx hb dL_tick_425 (ml_at hl_398 9 rfl) ?_
                        refine lv_bipush (v := 14) hx hb dL_tick_427 (by decide) ?_
                        refine lv_iconst (v := 3) hx hb dL_tick_429 (by decide) ?_
                        refine mr_ci hM94 (mr_runS (As := [mV ad (some 2), .int x9_333, .int (14 : Int32), .int (3 : Int32)]) C hM94 hl_398.1.1 (c_L_get l G ad x9_333 (14 : Int32) (3 : Int32) σ92 _ h93) cw_L_59 (n := 4) ⟨rfl, by decide, by decide, by decide +kernel⟩ rfl rfl ⟨Nat.le_of_ble_eq_true rfl, Nat.le_of_ble_eq_true rfl⟩ (m_cI (m_cI (m_cI (m_cR m_c0)))) (Nat.le_of_ble_eq_true rfl) dL_tick_430 ⟨Nat.zero_le _, Nat.zero_le _⟩) (fun x98 σ95 H locs h96 hM97 => ?_)
                        clear h93 hM94
                        refine lv_iconst (v := 1) hx hb dL_tick_433 (by decide) ?_
                        refine lv_iadd hx hb dL_tick_434 ?_
                        refine mr_cv hM97 (mr_runS (As := [mV ad (some 2), .int x9_333, .int (14 : Int32), .int (3 : Int32), .int (x98 + (1 : Int32))]) C hM97 hl_398.1.1 (c_L_put l G ad x9_333 (14 : Int32) (3 : Int32) (x98 + (1 : Int32)) σ95 _ h96) cw_L_53 (n := 5) ⟨rfl, by decide, by decide, by decide +kernel⟩ rfl rfl ⟨Nat.le_of_ble_eq_true rfl, Nat.le_of_ble_eq_true rfl⟩ m_c0 (Nat.le_of_ble_eq_true rfl) dL_tick_435 ⟨Nat.zero_le _, Nat.zero_le _⟩) (fun σ99 H locs h100 hM101 => ?_)
                        clear h96 hM97
                        refine mr_aload C dL_tick_438 (ml_at hl_398 6 rfl) ?_
                        refine lv_iload hx hb dL_tick_440 (ml_at hl_398 9 rfl) ?_
                        obtain ⟨j102, ej103, ej103b, h100⟩ := h100
                        refine mr_iald C hM101 (mB_fix hM101 rfl (by decide) (by decide) (by decide)) ej103 ej103b (by decide) dL_tick_442 ?_
                        refine lv_bipush (v := 7) hx hb dL_tick_443 (by decide) ?_
                        refine lv_iand hx hb dL_tick_445 ?_
                        refine lv_iconst (v := 1) hx hb dL_tick_446 (by decide) ?_
                        refine lv_isub hx hb dL_tick_447 ?_
                        refine mr_aload_n C dL_tick_448 rfl (ml_at hl_398 2 rfl) ?_
                        refine lv_iload hx hb dL_tick_449 (ml_at hl_398 9 rfl) ?_
                        obtain ⟨j104, ej105, ej105b, h100⟩ := h100
                        refine mr_iald C hM101 (mB_fix hM101 rfl (by decide) (by decide) (by decide)) ej105 ej105b (by decide) dL_tick_451 ?_
                        refine lv_iconst (v := 1) hx hb dL_tick_452 (by decide) ?_
                        refine lv_isub hx hb dL_tick_453 ?_
                        refine lv_iload hx hb dL_tick_454 (ml_at hl_398 9 rfl) ?_
                        refine mr_aload_n C dL_tick_456 rfl (ml_at hl_398 0 rfl) ?_
                        refine mr_aload_n C dL_tick_457 rfl (ml_at hl_398 1 rfl) ?_
                        refine mr_aload_n C dL_tick_458 rfl (ml_at hl_398 2 rfl) ?_
                        refine mr_aload_n C dL_tick_459 rfl (ml_at hl_398 3 rfl) ?_
                        refine mr_aload C dL_tick_460 (ml_at hl_398 4 rfl) ?_
                        refine mr_aload C dL_tick_462 (ml_at hl_398 5 rfl) ?_
                        refine mr_aload C dL_tick_464 (ml_at hl_398 7 rfl) ?_
                        refine mr_cv hM101 (mr_runS (As := [.int (((mI σ99 7 j102) &&& (7 : Int32)) - (1 : Int32)), .int ((mI σ99 3 j104) - (1 : Int32)), .int x9_333, mV ad (some 1), mV ad (some 2), mV ad (some 3), mV ad (some 4), mV ad (some 5), mV ad (some 6), mV ad (some 0)]) C hM101 hl_398.1.1 (c_L_begin l G ad (((mI σ99 7 j102) &&& (7 : Int32)) - (1 : Int32)) ((mI σ99 3 j104) - (1 : Int32)) x9_333 σ99 _ h100) cw_L_79 (n := 10) ⟨rfl, by decide, by decide, by decide +kernel⟩ rfl rfl ⟨Nat.le_of_ble_eq_true rfl, Nat.le_of_ble_eq_true rfl⟩ m_c0 (Nat.le_of_ble_eq_true rfl) dL_tick_466 ⟨Nat.zero_le _, Nat.zero_le _⟩) (fun σ106 H locs h107 hM108 => ?_)
                        clear h100 hM101
                        refine mr_iinc (v := (x9_333 + 1)) (lv' := [(9, .int (x9_333 + 1)), (0, mV ad (some 1)), (1, mV ad (some 2)), (2, mV ad (some 3)), (3, mV ad (some 4)), (4, mV ad (some 5)), (5, mV ad (some 6)), (6, mV ad (some 7)), (7, mV ad (some 0)), (8, .int (mI σ_273 0 j19))]) C hl_398 dL_tick_469 (k := 9) rfl rfl (by decide) rfl (fun ls hl109 => ?_)
                        clear hl_398
                        refine lv_goto (tgt := 333) hx hb dL_tick_472 (by decide) ?_
                        obtain ⟨k110, hk110, h107⟩ := h107
                        exact ih333 k110 hk110 (x9_333 + 1) σ106 _ _ _ h107 hM108 (ml_sub hl109 [1, 2, 3, 4, 5, 6, 7, 8, 9, 0] rfl)
                      refine lv_if_ne (tgt := 398) hx hb dL_tick_386 (by decide) (fun hc111 => ?_) (fun hc111 => ?_)
                      · replace h85 := h85.1 hc111
                        exact hj398  σ84 _ _ _ h85 hM86 (ml_sub hl_333 [0, 1, 2, 3, 4, 5, 6, 7, 8, 9] rfl)
                      · replace h85 := h85.2 hc111
                        refine mr_aload C dL_tick_389 (ml_at hl_333 4 rfl) ?_
                        refine lv_iload hx hb dL_tick_391 (ml_at hl_333 9 rfl) ?_
                        refine mr_aload C dL_tick_393 (ml_at hl_333 7 rfl) ?_
                        refine lv_iconst (v := 0) hx hb dL_tick_395 (by decide) ?_
                        obtain ⟨j112, ej113, ej113b, h85⟩ := h85
                        refine mr_iald C hM86 (mB_fix hM86 rfl (by decide) (by decide) (by decide)) ej113 ej113b (by decide) dL_tick_396 ?_
                        obtain ⟨j114, ej115, ej115b, h85⟩ := h85
                        refine mr_iast C hM86 (mB_fix hM86 rfl (by decide) (by decide) (by decide)) ej115 ej115b (by decide) dL_tick_397 (fun H locs hM116 => ?_)
                        clear hM86
                        obtain ⟨σ117, eσ117⟩ : ∃ y, y = sI σ84 5 j114 (mI σ84 0 j112) := ⟨_, rfl⟩
                        rw [← eσ117] at hM116
                        replace h85 := h85 σ117 eσ117
                        exact hj398  σ117 _ _ _ h85 hM116 (ml_sub hl_333 [0, 1, 2, 3, 4, 5, 6, 7, 8, 9] rfl)
                    · replace h77 := h77.2 hc80
                      refine lv_goto (tgt := 469) hx hb dL_tick_364 (by decide) ?_
                      refine mr_iinc (v := (x9_333 + 1)) (lv' := [(9, .int (x9_333 + 1)), (0, mV ad (some 1)), (1, mV ad (some 2)), (2, mV ad (some 3)), (3, mV ad (some 4)), (4, mV ad (some 5)), (5, mV ad (some 6)), (6, mV ad (some 7)), (7, mV ad (some 0)), (8, .int (mI σ_273 0 j19))]) C hl_333 dL_tick_469 (k := 9) rfl rfl (by decide) rfl (fun ls hl118 => ?_)
                      clear hl_333
                      refine lv_goto (tgt := 333) hx hb dL_tick_472 (by decide) ?_
                      obtain ⟨k119, hk119, h77⟩ := h77
                      exact ih333 k119 hk119 (x9_333 + 1) σ76 _ _ _ h77 hM78 (ml_sub hl118 [1, 2, 3, 4, 5, 6, 7, 8, 9, 0] rfl)
              exact hL333 nn333 (0 : Int32) σ_273 _ _ _ h_273 hM_273 (ml_sub hl22 [2, 3, 4, 5, 6, 7, 8, 9, 1, 0] rfl)
            · replace h_273 := h_273.2 hc18
              refine mr_aload_n C dL_tick_278 rfl (ml_at hl_273 1 rfl) ?_
              refine lv_iload hx hb dL_tick_279 (ml_at hl_273 8 rfl) ?_
              refine lv_iconst (v := 3) hx hb dL_tick_281 (by decide) ?_
              refine lv_iconst (v := 3) hx hb dL_tick_282 (by decide) ?_
              refine mr_ci hM_273 (mr_runS (As := [mV ad (some 2), .int x8_273, .int (3 : Int32), .int (3 : Int32)]) C hM_273 hl_273.1.1 (c_L_get l G ad x8_273 (3 : Int32) (3 : Int32) σ_273 _ h_273) cw_L_59 (n := 4) ⟨rfl, by decide, by decide, by decide +kernel⟩ rfl rfl ⟨Nat.le_of_ble_eq_true rfl, Nat.le_of_ble_eq_true rfl⟩ m_c0 (Nat.le_of_ble_eq_true rfl) dL_tick_283 ⟨Nat.zero_le _, Nat.zero_le _⟩) (fun x123 σ120 H locs h121 hM122 => ?_)
              clear h_273 hM_273
              refine lv_iconst (v := 2) hx hb dL_tick_286 (by decide) ?_
              refine lv_icmp_ne (tgt := 318) hx hb dL_tick_287 (by decide) (fun hc124 => ?_) (fun hc124 => ?_)
              · replace h121 := h121.1 hc124
                refine mr_iinc (v := (x8_273 + (-1))) (lv' := [(8, .int (x8_273 + (-1))), (0, mV ad (some 1)), (1, mV ad (some 2)), (2, mV ad (some 3)), (3, mV ad (some 4)), (4, mV ad (some 5)), (5, mV ad (some 6)), (6, mV ad (some 7)), (7, mV ad (some 0))]) C hl_273 dL_tick_318 (k := 8) rfl rfl (by decide) rfl (fun ls hl125 => ?_)
                clear hl_273
                refine lv_goto (tgt := 273) hx hb dL_tick_321 (by decide) ?_
                obtain ⟨k126, hk126, h121⟩ := h121
                exact ih273 k126 hk126 (x8_273 + (-1)) σ120 _ _ _ h121 hM122 (ml_sub hl125 [1, 2, 3, 4, 5, 6, 7, 8, 0] rfl)
              · replace h121 := h121.2 hc124
                refine mr_aload_n C dL_tick_290 rfl (ml_at hl_273 1 rfl) ?_
                refine lv_iload hx hb dL_tick_291 (ml_at hl_273 8 rfl) ?_
                refine lv_bipush (v := 10) hx hb dL_tick_293 (by decide) ?_
                refine lv_iconst (v := 1) hx hb dL_tick_295 (by decide) ?_
                refine mr_ci hM122 (mr_runS (As := [mV ad (some 2), .int x8_273, .int (10 : Int32), .int (1 : Int32)]) C hM122 hl_273.1.1 (c_L_get l G ad x8_273 (10 : Int32) (1 : Int32) σ120 _ h121) cw_L_59 (n := 4) ⟨rfl, by decide, by decide, by decide +kernel⟩ rfl rfl ⟨Nat.le_of_ble_eq_true rfl, Nat.le_of_ble_eq_true rfl⟩ m_c0 (Nat.le_of_ble_eq_true rfl) dL_tick_296 ⟨Nat.zero_le _, Nat.zero_le _⟩) (fun x130 σ127 H locs h128 hM129 => ?_)
                clear h121 hM122
                refine lv_if_ne (tgt := 318) hx hb dL_tick_299 (by decide) (fun hc131 => ?_) (fun hc131 => ?_)
                · replace h128 := h128.1 hc131
                  refine mr_iinc (v := (x8_273 + (-1))) (lv' := [(8, .int (x8_273 + (-1))), (0, mV ad (some 1)), (1, mV ad (some 2)), (2, mV ad (some 3)), (3, mV ad (some 4)), (4, mV ad (some 5)), (5, mV ad (some 6)), (6, mV ad (some 7)), (7, mV ad (some 0))]) C hl_273 dL_tick_318 (k := 8) rfl rfl (by decide) rfl (fun ls hl132 => ?_)
                  clear hl_273
                  refine lv_goto (tgt := 273) hx hb dL_tick_321 (by decide) ?_
                  obtain ⟨k133, hk133, h128⟩ := h128
                  exact ih273 k133 hk133 (x8_273 + (-1)) σ127 _ _ _ h128 hM129 (ml_sub hl132 [1, 2, 3, 4, 5, 6, 7, 8, 0] rfl)
                · replace h128 := h128.2 hc131
                  refine lv_iload hx hb dL_tick_302 (ml_at hl_273 8 rfl) ?_
                  refine mr_aload_n C dL_tick_304 rfl (ml_at hl_273 0 rfl) ?_
                  refine mr_aload_n C dL_tick_305 rfl (ml_at hl_273 1 rfl) ?_
                  refine mr_aload_n C dL_tick_306 rfl (ml_at hl_273 3 rfl) ?_
                  refine mr_aload C dL_tick_307 (ml_at hl_273 4 rfl) ?_
                  refine mr_aload C dL_tick_309 (ml_at hl_273 5 rfl) ?_
                  refine mr_aload C dL_tick_311 (ml_at hl_273 6 rfl) ?_
                  refine mr_aload C dL_tick_313 (ml_at hl_273 7 rfl) ?_
                  refine mr_cv hM129 (mr_runS (As := [.int x8_273, mV ad (some 1), mV ad (some 2), mV ad (some 4), mV ad (some 5), mV ad (some 6), mV ad (some 7), mV ad (some 0)]) C hM129 hl_273.1.1 (c_L_look l G ad x8_273 σ127 _ h128) cw_L_75 (n := 8) ⟨rfl, by decide, by decide, by decide +kernel⟩ rfl rfl ⟨Nat.le_of_ble_eq_true rfl, Nat.le_of_ble_eq_true rfl⟩ m_c0 (Nat.le_of_ble_eq_true rfl) dL_tick_315 ⟨Nat.zero_le _, Nat.zero_le _⟩) (fun σ134 H locs h135 hM136 => ?_)
                  clear h128 hM129
                  refine mr_iinc (v := (x8_273 + (-1))) (lv' := [(8, .int (x8_273 + (-1))), (0, mV ad (some 1)), (1, mV ad (some 2)), (2, mV ad (some 3)), (3, mV ad (some 4)), (4, mV ad (some 5)), (5, mV ad (some 6)), (6, mV ad (some 7)), (7, mV ad (some 0))]) C hl_273 dL_tick_318 (k := 8) rfl rfl (by decide) rfl (fun ls hl137 => ?_)
                  clear hl_273
                  refine lv_goto (tgt := 273) hx hb dL_tick_321 (by decide) ?_
                  obtain ⟨k138, hk138, h135⟩ := h135
                  exact ih273 k138 hk138 (x8_273 + (-1)) σ134 _ _ _ h135 hM136 (ml_sub hl137 [1, 2, 3, 4, 5, 6, 7, 8, 0] rfl)
          exact hL273 nn273 ((mI σ_81 0 j15) - (1 : Int32)) σ_81 _ _ _ h_81 hM_81 (ml_sub hl17 [1, 2, 3, 4, 5, 6, 7, 8, 0] rfl)
        · replace h_81 := h_81.2 hc14
          refine mr_aload_n C dL_tick_90 rfl (ml_at hl_81 1 rfl) ?_
          refine lv_iload hx hb dL_tick_91 (ml_at hl_81 8 rfl) ?_
          refine lv_iconst (v := 3) hx hb dL_tick_93 (by decide) ?_
          refine lv_iconst (v := 3) hx hb dL_tick_94 (by decide) ?_
          refine mr_ci hM_81 (mr_runS (As := [mV ad (some 2), .int x8_81, .int (3 : Int32), .int (3 : Int32)]) C hM_81 hl_81.1.1 (c_L_get l G ad x8_81 (3 : Int32) (3 : Int32) σ_81 _ h_81) cw_L_59 (n := 4) ⟨rfl, by decide, by decide, by decide +kernel⟩ rfl rfl ⟨Nat.le_of_ble_eq_true rfl, Nat.le_of_ble_eq_true rfl⟩ m_c0 (Nat.le_of_ble_eq_true rfl) dL_tick_95 ⟨Nat.zero_le _, Nat.zero_le _⟩) (fun x142 σ139 H locs h140 hM141 => ?_)
          clear h_81 hM_81
          refine lv_iconst (v := 1) hx hb dL_tick_98 (by decide) ?_
          refine lv_icmp_ne (tgt := 259) hx hb dL_tick_99 (by decide) (fun hc143 => ?_) (fun hc143 => ?_)
          · replace h140 := h140.1 hc143
            refine mr_iinc (v := (x8_81 + 1)) (lv' := [(8, .int (x8_81 + 1)), (0, mV ad (some 1)), (1, mV ad (some 2)), (2, mV ad (some 3)), (3, mV ad (some 4)), (4, mV ad (some 5)), (5, mV ad (some 6)), (6, mV ad (some 7)), (7, mV ad (some 0))]) C hl_81 dL_tick_259 (k := 8) rfl rfl (by decide) rfl (fun ls hl144 => ?_)
            clear hl_81
            refine lv_goto (tgt := 81) hx hb dL_tick_262 (by decide) ?_
            obtain ⟨k145, hk145, h140⟩ := h140
            exact ih81 k145 hk145 (x8_81 + 1) σ139 _ _ _ h140 hM141 (ml_sub hl144 [1, 2, 3, 4, 5, 6, 7, 8, 0] rfl)
          · replace h140 := h140.2 hc143
            refine mr_aload C dL_tick_102 (ml_at hl_81 4 rfl) ?_
            refine lv_iload hx hb dL_tick_104 (ml_at hl_81 8 rfl) ?_
            obtain ⟨j146, ej147, ej147b, h140⟩ := h140
            refine mr_iald C hM141 (mB_fix hM141 rfl (by decide) (by decide) (by decide)) ej147 ej147b (by decide) dL_tick_106 ?_
            refine mr_aload C dL_tick_107 (ml_at hl_81 7 rfl) ?_
            refine lv_iconst (v := 0) hx hb dL_tick_109 (by decide) ?_
            obtain ⟨j148, ej149, ej149b, h140⟩ := h140
            refine mr_iald C hM141 (mB_fix hM141 rfl (by decide) (by decide) (by decide)) ej149 ej149b (by decide) dL_tick_110 ?_
            refine lv_icmp_le (tgt := 117) hx hb dL_tick_111 (by decide) (fun hc150 => ?_) (fun hc150 => ?_)
            · replace h140 := h140.1 hc150
              refine lv_bipush (v := 10) hx hb dL_tick_117 (by decide) ?_
              refine mr_aload_n C dL_tick_119 rfl (ml_at hl_81 1 rfl) ?_
              refine lv_iload hx hb dL_tick_120 (ml_at hl_81 8 rfl) ?_
              obtain ⟨j151, ej152, ej152b, h140⟩ := h140
              refine mr_iald C hM141 (mB_fix hM141 rfl (by decide) (by decide) (by decide)) ej152 ej152b (by decide) dL_tick_122 ?_
              refine lv_bipush (v := 7) hx hb dL_tick_123 (by decide) ?_
              refine lv_iand hx hb dL_tick_125 ?_
              refine lv_imul hx hb dL_tick_126 ?_
              refine mr_istore (lv' := [(9, .int ((10 : Int32) * ((mI σ139 2 j151) &&& (7 : Int32)))), (0, mV ad (some 1)), (1, mV ad (some 2)), (2, mV ad (some 3)), (3, mV ad (some 4)), (4, mV ad (some 5)), (5, mV ad (some 6)), (6, mV ad (some 7)), (7, mV ad (some 0)), (8, .int x8_81)]) C hl_81 dL_tick_127 (by decide) rfl (fun ls hl153 => ?_)
              clear hl_81
              refine mr_aload_n C dL_tick_129 rfl (ml_at hl153 1 rfl) ?_
              refine lv_iload hx hb dL_tick_130 (ml_at hl153 0 rfl) ?_
              refine lv_iconst (v := 2) hx hb dL_tick_132 (by decide) ?_
              refine lv_iadd hx hb dL_tick_133 ?_
              refine lv_dup2_11 hx hb dL_tick_134 rfl (mV_cat _ _) ?_
              obtain ⟨j154, ej155, ej155b, h140⟩ := h140
              refine mr_iald C hM141 (mB_fix hM141 rfl (by decide) (by decide) (by decide)) ej155 ej155b (by decide) dL_tick_135 ?_
              refine lv_iconst (v := 1) hx hb dL_tick_136 (by decide) ?_
              refine lv_iadd hx hb dL_tick_137 ?_
              obtain ⟨j156, ej157, ej157b, h140⟩ := h140
              refine mr_iast C hM141 (mB_fix hM141 rfl (by decide) (by decide) (by decide)) ej157 ej157b (by decide) dL_tick_138 (fun H locs hM158 => ?_)
              clear hM141
              obtain ⟨σ159, eσ159⟩ : ∃ y, y = sI σ139 1 j156 ((mI σ139 1 j154) + (1 : Int32)) := ⟨_, rfl⟩
              rw [← eσ159] at hM158
              replace h140 := h140 σ159 eσ159
              refine mr_aload_n C dL_tick_139 rfl (ml_at hl153 1 rfl) ?_
              refine lv_iload hx hb dL_tick_140 (ml_at hl153 0 rfl) ?_
              refine lv_iconst (v := 1) hx hb dL_tick_142 (by decide) ?_
              refine lv_iadd hx hb dL_tick_143 ?_
              obtain ⟨j160, ej161, ej161b, h140⟩ := h140
              refine mr_iald C hM158 (mB_fix hM158 rfl (by decide) (by decide) (by decide)) ej161 ej161b (by decide) dL_tick_144 ?_
              obtain ⟨J193, hJ193, h140⟩ := h140
              have hj193 : ∀  (σ_193 : mS) (H : Heap) (locs : List Loc) (ls : Array Slot), J193  σ_193 → mM G kdL ad s σ_193 H locs → ml_has ls 11 [(0, mV ad (some 1)), (1, mV ad (some 2)), (2, mV ad (some 3)), (3, mV ad (some 4)), (4, mV ad (some 5)), (5, mV ad (some 6)), (6, mV ad (some 7)), (7, mV ad (some 0)), (8, .int x8_81), (9, .int ((10 : Int32) * ((mI σ139 2 j151) &&& (7 : Int32))))] → W p l e (mRm 3 85) s m ([mV ad (some 1), mV ad (some 2), mV ad (some 3), mV ad (some 4), mV ad (some 5), mV ad (some 6), mV ad (some 7), mV ad (some 0)] : List Value).toArray below meth c H locs 0 0 (MQ below (va_Qv Q (mPost G kdL ad) (mA ad)) ([mV ad (some 1), mV ad (some 2), mV ad (some 3), mV ad (some 4), mV ad (some 5), mV ad (some 6), mV ad (some 7), mV ad (some 0)] : List Value).toArray s 0 0 (mA ad)) (F0 m 193 ls []) := by
                intro  σ_193 H locs ls h_193 hM_193 hl_193
                replace h_193 := hJ193  σ_193 h_193
                refine mr_aload_n C dL_tick_193 rfl (ml_at hl_193 0 rfl) ?_
                refine lv_iload hx hb dL_tick_194 (ml_at hl_193 9 rfl) ?_
                refine lv_iconst (v := 3) hx hb dL_tick_196 (by decide) ?_
                refine lv_iadd hx hb dL_tick_197 ?_
                obtain ⟨j162, ej163, ej163b, h_193⟩ := h_193
                refine mr_iald C hM_193 (mB_fix hM_193 rfl (by decide) (by decide) (by decide)) ej163 ej163b (by decide) dL_tick_198 ?_
                refine lv_if_ne (tgt := 218) hx hb dL_tick_199 (by decide) (fun hc164 => ?_) (fun hc164 => ?_)
                · replace h_193 := h_193.1 hc164
                  refine mr_aload C dL_tick_218 (ml_at hl_193 6 rfl) ?_
                  refine lv_iload hx hb dL_tick_220 (ml_at hl_193 8 rfl) ?_
                  refine mr_aload_n C dL_tick_222 rfl (ml_at hl_193 0 rfl) ?_
                  refine lv_iload hx hb dL_tick_223 (ml_at hl_193 9 rfl) ?_
                  refine lv_iconst (v := 3) hx hb dL_tick_225 (by decide) ?_
                  refine lv_iadd hx hb dL_tick_226 ?_
                  obtain ⟨j165, ej166, ej166b, h_193⟩ := h_193
                  refine mr_iald C hM_193 (mB_fix hM_193 rfl (by decide) (by decide) (by decide)) ej166 ej166b (by decide) dL_tick_227 ?_
                  obtain ⟨j167, ej168, ej168b, h_193⟩ := h_193
                  refine mr_iast C hM_193 (mB_fix hM_193 rfl (by decide) (by decide) (by decide)) ej168 ej168b (by decide) dL_tick_228 (fun H locs hM169 => ?_)
                  clear hM_193
                  obtain ⟨σ170, eσ170⟩ : ∃ y, y = sI σ_193 7 j167 (mI σ_193 1 j165) := ⟨_, rfl⟩
                  rw [← eσ170] at hM169
                  replace h_193 := h_193 σ170 eσ170
                  refine mr_aload_n C dL_tick_229 rfl (ml_at hl_193 1 rfl) ?_
                  refine lv_iload hx hb dL_tick_230 (ml_at hl_193 8 rfl) ?_
                  refine lv_iconst (v := 3) hx hb dL_tick_232 (by decide) ?_
                  refine lv_iconst (v := 3) hx hb dL_tick_233 (by decide) ?_
                  refine lv_iconst (v := 2) hx hb dL_tick_234 (by decide) ?_
                  refine mr_cv hM169 (mr_runS (As := [mV ad (some 2), .int x8_81, .int (3 : Int32), .int (3 : Int32), .int (2 : Int32)]) C hM169 hl_193.1.1 (c_L_put l G ad x8_81 (3 : Int32) (3 : Int32) (2 : Int32) σ170 _ h_193) cw_L_53 (n := 5) ⟨rfl, by decide, by decide, by decide +kernel⟩ rfl rfl ⟨Nat.le_of_ble_eq_true rfl, Nat.le_of_ble_eq_true rfl⟩ m_c0 (Nat.le_of_ble_eq_true rfl) dL_tick_235 ⟨Nat.zero_le _, Nat.zero_le _⟩) (fun σ171 H locs h172 hM173 => ?_)
                  clear h_193 hM169
                  refine mr_aload_n C dL_tick_238 rfl (ml_at hl_193 1 rfl) ?_
                  refine lv_iload hx hb dL_tick_239 (ml_at hl_193 8 rfl) ?_
                  refine lv_bipush (v := 6) hx hb dL_tick_241 (by decide) ?_
                  refine lv_bipush (v := 12) hx hb dL_tick_243 (by decide) ?_
                  refine lv_iconst (v := 0) hx hb dL_tick_245 (by decide) ?_
                  refine mr_cv hM173 (mr_runS (As := [mV ad (some 2), .int x8_81, .int (6 : Int32), .int (12 : Int32), .int (0 : Int32)]) C hM173 hl_193.1.1 (c_L_put l G ad x8_81 (6 : Int32) (12 : Int32) (0 : Int32) σ171 _ h172) cw_L_53 (n := 5) ⟨rfl, by decide, by decide, by decide +kernel⟩ rfl rfl ⟨Nat.le_of_ble_eq_true rfl, Nat.le_of_ble_eq_true rfl⟩ m_c0 (Nat.le_of_ble_eq_true rfl) dL_tick_246 ⟨Nat.zero_le _, Nat.zero_le _⟩) (fun σ174 H locs h175 hM176 => ?_)
                  clear h172 hM173
                  refine mr_aload_n C dL_tick_249 rfl (ml_at hl_193 1 rfl) ?_
                  refine lv_iload hx hb dL_tick_250 (ml_at hl_193 8 rfl) ?_
                  refine lv_bipush (v := 10) hx hb dL_tick_252 (by decide) ?_
                  refine lv_iconst (v := 1) hx hb dL_tick_254 (by decide) ?_
                  refine lv_iconst (v := 1) hx hb dL_tick_255 (by decide) ?_
                  refine mr_cv hM176 (mr_runS (As := [mV ad (some 2), .int x8_81, .int (10 : Int32), .int (1 : Int32), .int (1 : Int32)]) C hM176 hl_193.1.1 (c_L_put l G ad x8_81 (10 : Int32) (1 : Int32) (1 : Int32) σ174 _ h175) cw_L_53 (n := 5) ⟨rfl, by decide, by decide, by decide +kernel⟩ rfl rfl ⟨Nat.le_of_ble_eq_true rfl, Nat.le_of_ble_eq_true rfl⟩ m_c0 (Nat.le_of_ble_eq_true rfl) dL_tick_256 ⟨Nat.zero_le _, Nat.zero_le _⟩) (fun σ177 H locs h178 hM179 => ?_)
                  clear h175 hM176
                  refine mr_iinc (v := (x8_81 + 1)) (lv' := [(8, .int (x8_81 + 1)), (0, mV ad (some 1)), (1, mV ad (some 2)), (2, mV ad (some 3)), (3, mV ad (some 4)), (4, mV ad (some 5)), (5, mV ad (some 6)), (6, mV ad (some 7)), (7, mV ad (some 0)), (9, .int ((10 : Int32) * ((mI σ139 2 j151) &&& (7 : Int32))))]) C hl_193 dL_tick_259 (k := 8) rfl rfl (by decide) rfl (fun ls hl180 => ?_)
                  clear hl_193
                  refine lv_goto (tgt := 81) hx hb dL_tick_262 (by decide) ?_
                  obtain ⟨k181, hk181, h178⟩ := h178
                  exact ih81 k181 hk181 (x8_81 + 1) σ177 _ _ _ h178 hM179 (ml_sub hl180 [1, 2, 3, 4, 5, 6, 7, 8, 0] rfl)
                · replace h_193 := h_193.2 hc164
                  refine lv_iload hx hb dL_tick_202 (ml_at hl_193 8 rfl) ?_
                  refine lv_iconst (v := 3) hx hb dL_tick_204 (by decide) ?_
                  refine mr_aload_n C dL_tick_205 rfl (ml_at hl_193 0 rfl) ?_
                  refine mr_aload_n C dL_tick_206 rfl (ml_at hl_193 1 rfl) ?_
                  refine mr_aload_n C dL_tick_207 rfl (ml_at hl_193 3 rfl) ?_
                  refine mr_aload C dL_tick_208 (ml_at hl_193 5 rfl) ?_
                  refine mr_aload C dL_tick_210 (ml_at hl_193 7 rfl) ?_
                  refine mr_cv hM_193 (mr_runS (As := [.int x8_81, .int (3 : Int32), mV ad (some 1), mV ad (some 2), mV ad (some 4), mV ad (some 6), mV ad (some 0)]) C hM_193 hl_193.1.1 (c_L_end l G ad x8_81 (3 : Int32) σ_193 _ h_193) cw_L_67 (n := 7) ⟨rfl, by decide, by decide, by decide +kernel⟩ rfl rfl ⟨Nat.le_of_ble_eq_true rfl, Nat.le_of_ble_eq_true rfl⟩ m_c0 (Nat.le_of_ble_eq_true rfl) dL_tick_212 ⟨Nat.zero_le _, Nat.zero_le _⟩) (fun σ182 H locs h183 hM184 => ?_)
                  clear h_193 hM_193
                  refine lv_goto (tgt := 259) hx hb dL_tick_215 (by decide) ?_
                  refine mr_iinc (v := (x8_81 + 1)) (lv' := [(8, .int (x8_81 + 1)), (0, mV ad (some 1)), (1, mV ad (some 2)), (2, mV ad (some 3)), (3, mV ad (some 4)), (4, mV ad (some 5)), (5, mV ad (some 6)), (6, mV ad (some 7)), (7, mV ad (some 0)), (9, .int ((10 : Int32) * ((mI σ139 2 j151) &&& (7 : Int32))))]) C hl_193 dL_tick_259 (k := 8) rfl rfl (by decide) rfl (fun ls hl185 => ?_)
                  clear hl_193
                  refine lv_goto (tgt := 81) hx hb dL_tick_262 (by decide) ?_
                  obtain ⟨k186, hk186, h183⟩ := h183
                  exact ih81 k186 hk186 (x8_81 + 1) σ182 _ _ _ h183 hM184 (ml_sub hl185 [1, 2, 3, 4, 5, 6, 7, 8, 0] rfl)
              refine lv_if_le (tgt := 193) hx hb dL_tick_145 (by decide) (fun hc187 => ?_) (fun hc187 => ?_)
              · replace h140 := h140.1 hc187
                exact hj193  σ159 _ _ _ h140 hM158 (ml_sub hl153 [1, 2, 3, 4, 5, 6, 7, 8, 9, 0] rfl)
              · replace h140 := h140.2 hc187
                refine mr_aload_n C dL_tick_148 rfl (ml_at hl153 1 rfl) ?_
                refine lv_iload hx hb dL_tick_149 (ml_at hl153 0 rfl) ?_
                refine lv_iconst (v := 2) hx hb dL_tick_151 (by decide) ?_
                refine lv_iadd hx hb dL_tick_152 ?_
                obtain ⟨j188, ej189, ej189b, h140⟩ := h140
                refine mr_iald C hM158 (mB_fix hM158 rfl (by decide) (by decide) (by decide)) ej189 ej189b (by decide) dL_tick_153 ?_
                refine mr_aload_n C dL_tick_154 rfl (ml_at hl153 1 rfl) ?_
                refine lv_iload hx hb dL_tick_155 (ml_at hl153 0 rfl) ?_
                refine lv_iconst (v := 1) hx hb dL_tick_157 (by decide) ?_
                refine lv_iadd hx hb dL_tick_158 ?_
                obtain ⟨j190, ej191, ej191b, h140⟩ := h140
                refine mr_iald C hM158 (mB_fix hM158 rfl (by decide) (by decide) (by decide)) ej191 ej191b (by decide) dL_tick_159 ?_
                obtain ⟨hz192, h140⟩ := h140
                refine lv_irem hx hb dL_tick_160 hz192 ?_
                refine lv_if_ne (tgt := 193) hx hb dL_tick_161 (by decide) (fun hc193 => ?_) (fun hc193 => ?_)
                · replace h140 := h140.1 hc193
                  exact hj193  σ159 _ _ _ h140 hM158 (ml_sub hl153 [1, 2, 3, 4, 5, 6, 7, 8, 9, 0] rfl)
                · replace h140 := h140.2 hc193
                  refine lv_iload hx hb dL_tick_164 (ml_at hl153 9 rfl) ?_
                  refine lv_iconst (v := 4) hx hb dL_tick_166 (by decide) ?_
                  refine mr_aload_n C dL_tick_167 rfl (ml_at hl153 1 rfl) ?_
                  refine mr_aload_n C dL_tick_168 rfl (ml_at hl153 2 rfl) ?_
                  refine mr_aload_n C dL_tick_169 rfl (ml_at hl153 4 rfl) ?_
                  refine mr_aload C dL_tick_170 (ml_at hl153 6 rfl) ?_
                  refine mr_aload C dL_tick_172 (ml_at hl153 8 rfl) ?_
                  refine mr_cv hM158 (mr_runS (As := [.int x8_81, .int (4 : Int32), mV ad (some 1), mV ad (some 2), mV ad (some 4), mV ad (some 6), mV ad (some 0)]) C hM158 hl153.1.1 (c_L_end l G ad x8_81 (4 : Int32) σ159 _ h140) cw_L_67 (n := 7) ⟨rfl, by decide, by decide, by decide +kernel⟩ rfl rfl ⟨Nat.le_of_ble_eq_true rfl, Nat.le_of_ble_eq_true rfl⟩ m_c0 (Nat.le_of_ble_eq_true rfl) dL_tick_174 ⟨Nat.zero_le _, Nat.zero_le _⟩) (fun σ194 H locs h195 hM196 => ?_)
                  clear h140 hM158
                  refine mr_aload_n C dL_tick_177 rfl (ml_at hl153 2 rfl) ?_
                  refine lv_iload hx hb dL_tick_178 (ml_at hl153 9 rfl) ?_
                  obtain ⟨j197, ej198, ej198b, h195⟩ := h195
                  refine mr_iald C hM196 (mB_fix hM196 rfl (by decide) (by decide) (by decide)) ej198 ej198b (by decide) dL_tick_180 ?_
                  refine lv_bipush (v := 7) hx hb dL_tick_181 (by decide) ?_
                  refine lv_iand hx hb dL_tick_183 ?_
                  refine mr_aload_n C dL_tick_184 rfl (ml_at hl153 1 rfl) ?_
                  refine mr_aload C dL_tick_185 (ml_at hl153 8 rfl) ?_
                  refine mr_cv hM196 (mr_runS (As := [.int ((mI σ194 2 j197) &&& (7 : Int32)), mV ad (some 1), mV ad (some 0)]) C hM196 hl153.1.1 (c_L_fault l G ad ((mI σ194 2 j197) &&& (7 : Int32)) σ194 _ h195) cw_L_71 (n := 3) ⟨rfl, by decide, by decide, by decide +kernel⟩ rfl rfl ⟨Nat.le_of_ble_eq_true rfl, Nat.le_of_ble_eq_true rfl⟩ m_c0 (Nat.le_of_ble_eq_true rfl) dL_tick_187 ⟨Nat.zero_le _, Nat.zero_le _⟩) (fun σ199 H locs h200 hM201 => ?_)
                  clear h195 hM196
                  refine lv_goto (tgt := 259) hx hb dL_tick_190 (by decide) ?_
                  refine mr_iinc (v := (x8_81 + 1)) (lv' := [(8, .int (x8_81 + 1)), (9, .int ((10 : Int32) * ((mI σ139 2 j151) &&& (7 : Int32)))), (0, mV ad (some 1)), (1, mV ad (some 2)), (2, mV ad (some 3)), (3, mV ad (some 4)), (4, mV ad (some 5)), (5, mV ad (some 6)), (6, mV ad (some 7)), (7, mV ad (some 0))]) C hl153 dL_tick_259 (k := 9) rfl rfl (by decide) rfl (fun ls hl202 => ?_)
                  clear hl153
                  refine lv_goto (tgt := 81) hx hb dL_tick_262 (by decide) ?_
                  obtain ⟨k203, hk203, h200⟩ := h200
                  exact ih81 k203 hk203 (x8_81 + 1) σ199 _ _ _ h200 hM201 (ml_sub hl202 [2, 3, 4, 5, 6, 7, 8, 9, 0] rfl)
            · replace h140 := h140.2 hc150
              refine lv_goto (tgt := 259) hx hb dL_tick_114 (by decide) ?_
              refine mr_iinc (v := (x8_81 + 1)) (lv' := [(8, .int (x8_81 + 1)), (0, mV ad (some 1)), (1, mV ad (some 2)), (2, mV ad (some 3)), (3, mV ad (some 4)), (4, mV ad (some 5)), (5, mV ad (some 6)), (6, mV ad (some 7)), (7, mV ad (some 0))]) C hl_81 dL_tick_259 (k := 8) rfl rfl (by decide) rfl (fun ls hl204 => ?_)
              clear hl_81
              refine lv_goto (tgt := 81) hx hb dL_tick_262 (by decide) ?_
              obtain ⟨k205, hk205, h140⟩ := h140
              exact ih81 k205 hk205 (x8_81 + 1) σ139 _ _ _ h140 hM141 (ml_sub hl204 [1, 2, 3, 4, 5, 6, 7, 8, 0] rfl)
      exact hL81 nn81 (0 : Int32) σ_11 _ _ _ h_11 hM_11 (ml_sub hl11 [1, 2, 3, 4, 5, 6, 7, 8, 0] rfl)
    · replace h_11 := h_11.2 hc10
      refine mr_aload_n C dL_tick_20 rfl (ml_at hl_11 1 rfl) ?_
      refine lv_iload hx hb dL_tick_21 (ml_at hl_11 8 rfl) ?_
      refine lv_iconst (v := 3) hx hb dL_tick_23 (by decide) ?_
      refine lv_iconst (v := 3) hx hb dL_tick_24 (by decide) ?_
      refine mr_ci hM_11 (mr_runS (As := [mV ad (some 2), .int x8_11, .int (3 : Int32), .int (3 : Int32)]) C hM_11 hl_11.1.1 (c_L_get l G ad x8_11 (3 : Int32) (3 : Int32) σ_11 _ h_11) cw_L_59 (n := 4) ⟨rfl, by decide, by decide, by decide +kernel⟩ rfl rfl ⟨Nat.le_of_ble_eq_true rfl, Nat.le_of_ble_eq_true rfl⟩ m_c0 (Nat.le_of_ble_eq_true rfl) dL_tick_25 ⟨Nat.zero_le _, Nat.zero_le _⟩) (fun x209 σ206 H locs h207 hM208 => ?_)
      clear h_11 hM_11
      refine lv_iconst (v := 2) hx hb dL_tick_28 (by decide) ?_
      refine lv_icmp_gt (tgt := 72) hx hb dL_tick_29 (by decide) (fun hc210 => ?_) (fun hc210 => ?_)
      · replace h207 := h207.1 hc210
        refine mr_iinc (v := (x8_11 + 1)) (lv' := [(8, .int (x8_11 + 1)), (0, mV ad (some 1)), (1, mV ad (some 2)), (2, mV ad (some 3)), (3, mV ad (some 4)), (4, mV ad (some 5)), (5, mV ad (some 6)), (6, mV ad (some 7)), (7, mV ad (some 0))]) C hl_11 dL_tick_72 (k := 8) rfl rfl (by decide) rfl (fun ls hl211 => ?_)
        clear hl_11
        refine lv_goto (tgt := 11) hx hb dL_tick_75 (by decide) ?_
        obtain ⟨k212, hk212, h207⟩ := h207
        exact ih11 k212 hk212 (x8_11 + 1) σ206 _ _ _ h207 hM208 (ml_sub hl211 [1, 2, 3, 4, 5, 6, 7, 8, 0] rfl)
      · replace h207 := h207.2 hc210
        refine mr_aload_n C dL_tick_32 rfl (ml_at hl_11 2 rfl) ?_
        refine lv_iload hx hb dL_tick_33 (ml_at hl_11 8 rfl) ?_
        obtain ⟨j213, ej214, ej214b, h207⟩ := h207
        refine mr_iald C hM208 (mB_fix hM208 rfl (by decide) (by decide) (by decide)) ej214 ej214b (by decide) dL_tick_35 ?_
        refine mr_aload C dL_tick_36 (ml_at hl_11 7 rfl) ?_
        refine lv_iconst (v := 0) hx hb dL_tick_38 (by decide) ?_
        obtain ⟨j215, ej216, ej216b, h207⟩ := h207
        refine mr_iald C hM208 (mB_fix hM208 rfl (by decide) (by decide) (by decide)) ej216 ej216b (by decide) dL_tick_39 ?_
        refine lv_icmp_le (tgt := 46) hx hb dL_tick_40 (by decide) (fun hc217 => ?_) (fun hc217 => ?_)
        · replace h207 := h207.1 hc217
          refine lv_iload hx hb dL_tick_46 (ml_at hl_11 8 rfl) ?_
          refine lv_iconst (v := 5) hx hb dL_tick_48 (by decide) ?_
          refine mr_aload_n C dL_tick_49 rfl (ml_at hl_11 0 rfl) ?_
          refine mr_aload_n C dL_tick_50 rfl (ml_at hl_11 1 rfl) ?_
          refine mr_aload_n C dL_tick_51 rfl (ml_at hl_11 3 rfl) ?_
          refine mr_aload C dL_tick_52 (ml_at hl_11 5 rfl) ?_
          refine mr_aload C dL_tick_54 (ml_at hl_11 7 rfl) ?_
          refine mr_cv hM208 (mr_runS (As := [.int x8_11, .int (5 : Int32), mV ad (some 1), mV ad (some 2), mV ad (some 4), mV ad (some 6), mV ad (some 0)]) C hM208 hl_11.1.1 (c_L_end l G ad x8_11 (5 : Int32) σ206 _ h207) cw_L_67 (n := 7) ⟨rfl, by decide, by decide, by decide +kernel⟩ rfl rfl ⟨Nat.le_of_ble_eq_true rfl, Nat.le_of_ble_eq_true rfl⟩ m_c0 (Nat.le_of_ble_eq_true rfl) dL_tick_56 ⟨Nat.zero_le _, Nat.zero_le _⟩) (fun σ218 H locs h219 hM220 => ?_)
          clear h207 hM208
          refine mr_aload_n C dL_tick_59 rfl (ml_at hl_11 1 rfl) ?_
          refine lv_iload hx hb dL_tick_60 (ml_at hl_11 8 rfl) ?_
          obtain ⟨j221, ej222, ej222b, h219⟩ := h219
          refine mr_iald C hM220 (mB_fix hM220 rfl (by decide) (by decide) (by decide)) ej222 ej222b (by decide) dL_tick_62 ?_
          refine lv_bipush (v := 7) hx hb dL_tick_63 (by decide) ?_
          refine lv_iand hx hb dL_tick_65 ?_
          refine mr_aload_n C dL_tick_66 rfl (ml_at hl_11 0 rfl) ?_
          refine mr_aload C dL_tick_67 (ml_at hl_11 7 rfl) ?_
          refine mr_cv hM220 (mr_runS (As := [.int ((mI σ218 2 j221) &&& (7 : Int32)), mV ad (some 1), mV ad (some 0)]) C hM220 hl_11.1.1 (c_L_fault l G ad ((mI σ218 2 j221) &&& (7 : Int32)) σ218 _ h219) cw_L_71 (n := 3) ⟨rfl, by decide, by decide, by decide +kernel⟩ rfl rfl ⟨Nat.le_of_ble_eq_true rfl, Nat.le_of_ble_eq_true rfl⟩ m_c0 (Nat.le_of_ble_eq_true rfl) dL_tick_69 ⟨Nat.zero_le _, Nat.zero_le _⟩) (fun σ223 H locs h224 hM225 => ?_)
          clear h219 hM220
          refine mr_iinc (v := (x8_11 + 1)) (lv' := [(8, .int (x8_11 + 1)), (0, mV ad (some 1)), (1, mV ad (some 2)), (2, mV ad (some 3)), (3, mV ad (some 4)), (4, mV ad (some 5)), (5, mV ad (some 6)), (6, mV ad (some 7)), (7, mV ad (some 0))]) C hl_11 dL_tick_72 (k := 8) rfl rfl (by decide) rfl (fun ls hl226 => ?_)
          clear hl_11
          refine lv_goto (tgt := 11) hx hb dL_tick_75 (by decide) ?_
          obtain ⟨k227, hk227, h224⟩ := h224
          exact ih11 k227 hk227 (x8_11 + 1) σ223 _ _ _ h224 hM225 (ml_sub hl226 [1, 2, 3, 4, 5, 6, 7, 8, 0] rfl)
        · replace h207 := h207.2 hc217
          refine lv_goto (tgt := 72) hx hb dL_tick_43 (by decide) ?_
          refine mr_iinc (v := (x8_11 + 1)) (lv' := [(8, .int (x8_11 + 1)), (0, mV ad (some 1)), (1, mV ad (some 2)), (2, mV ad (some 3)), (3, mV ad (some 4)), (4, mV ad (some 5)), (5, mV ad (some 6)), (6, mV ad (some 7)), (7, mV ad (some 0))]) C hl_11 dL_tick_72 (k := 8) rfl rfl (by decide) rfl (fun ls hl228 => ?_)
          clear hl_11
          refine lv_goto (tgt := 11) hx hb dL_tick_75 (by decide) ?_
          obtain ⟨k229, hk229, h207⟩ := h207
          exact ih11 k229 hk229 (x8_11 + 1) σ206 _ _ _ h207 hM208 (ml_sub hl228 [1, 2, 3, 4, 5, 6, 7, 8, 0] rfl)
  exact hL11 nn11 (0 : Int32) σ6 _ _ _ h hM5 (ml_sub hl7 [1, 2, 3, 4, 5, 6, 7, 8, 0] rfl)
