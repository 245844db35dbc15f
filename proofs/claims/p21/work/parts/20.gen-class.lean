def w_X2_time  (σ0 : mS) (Q : Int32 → mS → Prop) : Prop := (Q (mI σ0 0 3) σ0)
set_option maxRecDepth 100000 in
set_option maxHeartbeats 4000000 in
theorem c_X2_time (l : Launch) (G : mG) (ad : Nat → Nat)  (σ0 : mS) (Q : Int32 → mS → Prop) (h : w_X2_time  σ0 Q) : mKi l yX2_time cX2_time 1 0 0 G kdC ad σ0 [mV ad (some 0)] Q := by
  refine mr_start (lst := [(0, mV ad (some 0))]) (by decide) (m_cR m_c0) rfl (Nat.le_of_ble_eq_true rfl) (fun p e s m below meth c C hM hr hlk ls hl => ?_)
  have hx := C.1.1
  have hb := C.1.2.1
  unfold w_X2_time at h
  refine mr_aload_n C dX2_time_0 rfl (ml_at hl 0 rfl) ?_
  refine fg_X2_76 C hM (mO_fix hM rfl (by decide) (by decide) (by decide)) dX2_time_1 ?_
  exact mr_iret C hM hr hlk h dX2_time_4
def w_X2_calls  (σ0 : mS) (Q : Int32 → mS → Prop) : Prop := (Q (mI σ0 0 2) σ0)
set_option maxRecDepth 100000 in
set_option maxHeartbeats 4000000 in
theorem c_X2_calls (l : Launch) (G : mG) (ad : Nat → Nat)  (σ0 : mS) (Q : Int32 → mS → Prop) (h : w_X2_calls  σ0 Q) : mKi l yX2_calls cX2_calls 1 0 0 G kdC ad σ0 [mV ad (some 0)] Q := by
  refine mr_start (lst := [(0, mV ad (some 0))]) (by decide) (m_cR m_c0) rfl (Nat.le_of_ble_eq_true rfl) (fun p e s m below meth c C hM hr hlk ls hl => ?_)
  have hx := C.1.1
  have hb := C.1.2.1
  unfold w_X2_calls at h
  refine mr_aload_n C dX2_calls_0 rfl (ml_at hl 0 rfl) ?_
  refine fg_X2_128 C hM (mO_fix hM rfl (by decide) (by decide) (by decide)) dX2_calls_1 ?_
  exact mr_iret C hM hr hlk h dX2_calls_4
def w_X2_isFull  (σ0 : mS) (Q : Int32 → mS → Prop) : Prop := (((mI σ0 0 2) < (200 : Int32) → (Q (0 : Int32) σ0)) ∧ (¬ (mI σ0 0 2) < (200 : Int32) → (Q (1 : Int32) σ0)))
set_option maxRecDepth 100000 in
set_option maxHeartbeats 4000000 in
theorem c_X2_isFull (l : Launch) (G : mG) (ad : Nat → Nat)  (σ0 : mS) (Q : Int32 → mS → Prop) (h : w_X2_isFull  σ0 Q) : mKz l yX2_isFull cX2_isFull 1 0 0 G kdC ad σ0 [mV ad (some 0)] Q := by
  refine mr_start (lst := [(0, mV ad (some 0))]) (by decide) (m_cR m_c0) rfl (Nat.le_of_ble_eq_true rfl) (fun p e s m below meth c C hM hr hlk ls hl => ?_)
  have hx := C.1.1
  have hb := C.1.2.1
  unfold w_X2_isFull at h
  refine mr_aload_n C dX2_isFull_0 rfl (ml_at hl 0 rfl) ?_
  refine fg_X2_128 C hM (mO_fix hM rfl (by decide) (by decide) (by decide)) dX2_isFull_1 ?_
  refine mr_aload_n C dX2_isFull_4 rfl (ml_at hl 0 rfl) ?_
  refine fg_X2_17 (i := 0) C hM (mO_fix hM rfl (by decide) (by decide) (by decide)) dX2_isFull_5 ?_
  refine mr_alen (v := 200) C hM (mB_fix hM rfl (by decide) (by decide) (by decide)) (by decide) (by decide) rfl dX2_isFull_8 ?_
  refine lv_icmp_lt (tgt := 16) hx hb dX2_isFull_9 (by decide) (fun hc1 => ?_) (fun hc1 => ?_)
  · replace h := h.1 hc1
    refine lv_iconst (v := 0) hx hb dX2_isFull_16 (by decide) ?_
    exact mr_zret C hM hr hlk rfl h dX2_isFull_17
  · replace h := h.2 hc1
    refine lv_iconst (v := 1) hx hb dX2_isFull_12 (by decide) ?_
    refine lv_goto (tgt := 17) hx hb dX2_isFull_13 (by decide) ?_
    exact mr_zret C hM hr hlk rfl h dX2_isFull_17
def w_X1_refusesAt (i0 : Nat) (y1 : Int32) (σ0 : mS) (Q : Int32 → mS → Prop) : Prop := (kdC i0 = (0, 1) ∧ (((mI σ0 i0 9) ≤ y1 → (Q (0 : Int32) σ0)) ∧ (¬ (mI σ0 i0 9) ≤ y1 → (Q (1 : Int32) σ0))))
set_option maxRecDepth 100000 in
set_option maxHeartbeats 4000000 in
theorem c_X1_refusesAt (l : Launch) (G : mG) (ad : Nat → Nat) (i0 : Nat) (y1 : Int32) (σ0 : mS) (Q : Int32 → mS → Prop) (h : w_X1_refusesAt i0 y1 σ0 Q) : mKz l yX1_refusesAt cX1_refusesAt 2 0 0 G kdC ad σ0 [mV ad (some i0), .int y1] Q := by
  refine mr_start (lst := [(0, mV ad (some i0)), (1, .int y1)]) (by decide) (m_cR (m_cI m_c0)) rfl (Nat.le_of_ble_eq_true rfl) (fun p e s m below meth c C hM hr hlk ls hl => ?_)
  have hx := C.1.1
  have hb := C.1.2.1
  unfold w_X1_refusesAt at h
  refine lv_iload_n hx hb dX1_refusesAt_0 rfl (ml_at hl 1 rfl) ?_
  refine mr_aload_n C dX1_refusesAt_1 rfl (ml_at hl 0 rfl) ?_
  obtain ⟨hk1, h⟩ := h
  refine fg_X1_42 C hM (mO_sv hM hk1) dX1_refusesAt_2 ?_
  refine lv_icmp_ge (tgt := 12) hx hb dX1_refusesAt_5 (by decide) (fun hc2 => ?_) (fun hc2 => ?_)
  · replace h := h.1 hc2
    refine lv_iconst (v := 0) hx hb dX1_refusesAt_12 (by decide) ?_
    exact mr_zret C hM hr hlk rfl h dX1_refusesAt_13
  · replace h := h.2 hc2
    refine lv_iconst (v := 1) hx hb dX1_refusesAt_8 (by decide) ?_
    refine lv_goto (tgt := 13) hx hb dX1_refusesAt_9 (by decide) ?_
    exact mr_zret C hM hr hlk rfl h dX1_refusesAt_13
def w_X0_become (i0 : Nat) (y1 : Int32) (σ0 : mS) (Q : mS → Prop) : Prop := (mO kdC 0 i0 σ0 ∧ (∀ r2, r2 = mR σ0 i0 1 → (∃ i3, r2 = some i3 ∧ (kdC i3 = (0, 1) ∧ (∃ J34 : mS → Prop, (∀  (σ_34 : mS), J34  σ_34 → ((y1 < 0 → (mO kdC 0 i0 σ_34 ∧ (∀ σ9, σ9 = sI σ_34 i0 4 y1 → (Q σ9)))) ∧ (¬ y1 < 0 → (((8 : Int32) ≤ y1 → (mO kdC 0 i0 σ_34 ∧ (∀ σ13, σ13 = sI σ_34 i0 4 y1 → (Q σ13)))) ∧ (¬ (8 : Int32) ≤ y1 → (∃ j14, y1 = nI j14 ∧ (j14 < 8 ∧ (∃ j16, y1 = nI j16 ∧ (j16 < 8 ∧ (∀ σ19, σ19 = sI σ_34 (i3 + 2) j16 ((mI σ_34 (i3 + 2) j14) + (1 : Int32)) → (mO kdC 0 i0 σ19 ∧ (∀ σ22, σ22 = sI σ19 i0 4 y1 → (Q σ22))))))))))))) ∧ (((mI σ0 i0 4) < 0 → (J34  σ0)) ∧ (¬ (mI σ0 i0 4) < 0 → (((8 : Int32) ≤ (mI σ0 i0 4) → (J34  σ0)) ∧ (¬ (8 : Int32) ≤ (mI σ0 i0 4) → (∃ j25, (mI σ0 i0 4) = nI j25 ∧ (j25 < 8 ∧ (∃ j27, (mI σ0 i0 4) = nI j27 ∧ (j27 < 8 ∧ (∀ σ30, σ30 = sI σ0 (i3 + 2) j27 ((mI σ0 (i3 + 2) j25) - (1 : Int32)) → (J34  σ30)))))))))))))))
set_option maxRecDepth 100000 in
set_option maxHeartbeats 4000000 in
theorem c_X0_become (l : Launch) (G : mG) (ad : Nat → Nat) (i0 : Nat) (y1 : Int32) (σ0 : mS) (Q : mS → Prop) (h : w_X0_become i0 y1 σ0 Q) : mKv l yX0_become cX0_become 3 0 0 G kdC ad σ0 [mV ad (some i0), .int y1] Q := by
  refine mr_start (lst := [(0, mV ad (some i0)), (1, .int y1)]) (by decide) (m_cR (m_cI m_c0)) rfl (Nat.le_of_ble_eq_true rfl) (fun p e s m below meth c C hM hr hlk ls hl => ?_)
  have hx := C.1.1
  have hb := C.1.2.1
  unfold w_X0_become at h
  refine mr_aload_n C dX0_become_0 rfl (ml_at hl 0 rfl) ?_
  obtain ⟨ho1, h⟩ := h
  refine fg_X0_21 C hM ho1 dX0_become_1 (fun r2 er2 => ?_)
  replace h := h r2 er2
  obtain ⟨i3, rfl, h⟩ := h
  obtain ⟨hk4, h⟩ := h
  refine fg_X0_37 (i := i3) C hM (mO_sv hM hk4) dX0_become_4 ?_
  refine mr_astore_n (lv' := [(2, mV ad (some (i3 + 2))), (0, mV ad (some i0)), (1, .int y1)]) C hl dX0_become_7 rfl (by decide) rfl (fun ls hl5 => ?_)
  clear hl
  refine mr_aload_n C dX0_become_8 rfl (ml_at hl5 1 rfl) ?_
  refine fg_X0_9 C hM ho1 dX0_become_9 ?_
  obtain ⟨J34, hJ34, h⟩ := h
  have hj34 : ∀  (σ_34 : mS) (H : Heap) (locs : List Loc) (ls : Array Slot), J34  σ_34 → mM G kdC ad s σ_34 H locs → ml_has ls 3 [(0, mV ad (some i0)), (1, .int y1), (2, mV ad (some (i3 + 2)))] → W p l e (mRm 0 0) s m ([mV ad (some i0), .int y1] : List Value).toArray below meth c H locs 0 0 (MQ below (va_Qv Q (mPost G kdC ad) (mA ad)) ([mV ad (some i0), .int y1] : List Value).toArray s 0 0 (mA ad)) (F0 m 34 ls []) := by
    intro  σ_34 H locs ls h_34 hM_34 hl_34
    replace h_34 := hJ34  σ_34 h_34
    refine lv_iload_n hx hb dX0_become_34 rfl (ml_at hl_34 1 rfl) ?_
    refine lv_if_lt (tgt := 51) hx hb dX0_become_35 (by decide) (fun hc6 => ?_) (fun hc6 => ?_)
    · replace h_34 := h_34.1 hc6
      refine mr_aload_n C dX0_become_51 rfl (ml_at hl_34 0 rfl) ?_
      refine lv_iload_n hx hb dX0_become_52 rfl (ml_at hl_34 1 rfl) ?_
      obtain ⟨ho7, h_34⟩ := h_34
      refine fp_X0_9 C hM_34 ho7 dX0_become_53 y1 (fun H locs hM8 => ?_)
      clear hM_34
      obtain ⟨σ9, eσ9⟩ : ∃ y, y = sI σ_34 i0 4 y1 := ⟨_, rfl⟩
      rw [← eσ9] at hM8
      replace h_34 := h_34 σ9 eσ9
      exact mr_vret C hM8 hr hlk h_34 dX0_become_56
    · replace h_34 := h_34.2 hc6
      refine lv_iload_n hx hb dX0_become_38 rfl (ml_at hl_34 1 rfl) ?_
      refine mr_aload_n C dX0_become_39 rfl (ml_at hl_34 2 rfl) ?_
      refine mr_alen (v := 8) C hM_34 (mB_cnt hM_34 hk4) (by decide) (by decide) rfl dX0_become_40 ?_
      refine lv_icmp_ge (tgt := 51) hx hb dX0_become_41 (by decide) (fun hc10 => ?_) (fun hc10 => ?_)
      · replace h_34 := h_34.1 hc10
        refine mr_aload_n C dX0_become_51 rfl (ml_at hl_34 0 rfl) ?_
        refine lv_iload_n hx hb dX0_become_52 rfl (ml_at hl_34 1 rfl) ?_
        obtain ⟨ho11, h_34⟩ := h_34
        refine fp_X0_9 C hM_34 ho11 dX0_become_53 y1 (fun H locs hM12 => ?_)
        clear hM_34
        obtain ⟨σ13, eσ13⟩ : ∃ y, y = sI σ_34 i0 4 y1 := ⟨_, rfl⟩
        rw [← eσ13] at hM12
        replace h_34 := h_34 σ13 eσ13
        exact mr_vret C hM12 hr hlk h_34 dX0_become_56
      · replace h_34 := h_34.2 hc10
        refine mr_aload_n C dX0_become_44 rfl (ml_at hl_34 2 rfl) ?_
        refine lv_iload_n hx hb dX0_become_45 rfl (ml_at hl_34 1 rfl) ?_
        refine lv_dup2_11 hx hb dX0_become_46 rfl (mV_cat _ _) ?_
        obtain ⟨j14, ej15, ej15b, h_34⟩ := h_34
        refine mr_iald C hM_34 (mB_cnt hM_34 hk4) ej15 ej15b (by decide) dX0_become_47 ?_
        refine lv_iconst (v := 1) hx hb dX0_become_48 (by decide) ?_
        refine lv_iadd hx hb dX0_become_49 ?_
        obtain ⟨j16, ej17, ej17b, h_34⟩ := h_34
        refine mr_iast C hM_34 (mB_cnt hM_34 hk4) ej17 ej17b (by decide) dX0_become_50 (fun H locs hM18 => ?_)
        clear hM_34
        obtain ⟨σ19, eσ19⟩ : ∃ y, y = sI σ_34 (i3 + 2) j16 ((mI σ_34 (i3 + 2) j14) + (1 : Int32)) := ⟨_, rfl⟩
        rw [← eσ19] at hM18
        replace h_34 := h_34 σ19 eσ19
        refine mr_aload_n C dX0_become_51 rfl (ml_at hl_34 0 rfl) ?_
        refine lv_iload_n hx hb dX0_become_52 rfl (ml_at hl_34 1 rfl) ?_
        obtain ⟨ho20, h_34⟩ := h_34
        refine fp_X0_9 C hM18 ho20 dX0_become_53 y1 (fun H locs hM21 => ?_)
        clear hM18
        obtain ⟨σ22, eσ22⟩ : ∃ y, y = sI σ19 i0 4 y1 := ⟨_, rfl⟩
        rw [← eσ22] at hM21
        replace h_34 := h_34 σ22 eσ22
        exact mr_vret C hM21 hr hlk h_34 dX0_become_56
  refine lv_if_lt (tgt := 34) hx hb dX0_become_12 (by decide) (fun hc23 => ?_) (fun hc23 => ?_)
  · replace h := h.1 hc23
    exact hj34  σ0 _ _ _ h hM (ml_sub hl5 [1, 2, 0] rfl)
  · replace h := h.2 hc23
    refine mr_aload_n C dX0_become_15 rfl (ml_at hl5 1 rfl) ?_
    refine fg_X0_9 C hM ho1 dX0_become_16 ?_
    refine mr_aload_n C dX0_become_19 rfl (ml_at hl5 0 rfl) ?_
    refine mr_alen (v := 8) C hM (mB_cnt hM hk4) (by decide) (by decide) rfl dX0_become_20 ?_
    refine lv_icmp_ge (tgt := 34) hx hb dX0_become_21 (by decide) (fun hc24 => ?_) (fun hc24 => ?_)
    · replace h := h.1 hc24
      exact hj34  σ0 _ _ _ h hM (ml_sub hl5 [1, 2, 0] rfl)
    · replace h := h.2 hc24
      refine mr_aload_n C dX0_become_24 rfl (ml_at hl5 0 rfl) ?_
      refine mr_aload_n C dX0_become_25 rfl (ml_at hl5 1 rfl) ?_
      refine fg_X0_9 C hM ho1 dX0_become_26 ?_
      refine lv_dup2_11 hx hb dX0_become_29 rfl (mV_cat _ _) ?_
      obtain ⟨j25, ej26, ej26b, h⟩ := h
      refine mr_iald C hM (mB_cnt hM hk4) ej26 ej26b (by decide) dX0_become_30 ?_
      refine lv_iconst (v := 1) hx hb dX0_become_31 (by decide) ?_
      refine lv_isub hx hb dX0_become_32 ?_
      obtain ⟨j27, ej28, ej28b, h⟩ := h
      refine mr_iast C hM (mB_cnt hM hk4) ej28 ej28b (by decide) dX0_become_33 (fun H locs hM29 => ?_)
      clear hM
      obtain ⟨σ30, eσ30⟩ : ∃ y, y = sI σ0 (i3 + 2) j27 ((mI σ0 (i3 + 2) j25) - (1 : Int32)) := ⟨_, rfl⟩
      rw [← eσ30] at hM29
      replace h := h σ30 eσ30
      exact hj34  σ30 _ _ _ h hM29 (ml_sub hl5 [1, 2, 0] rfl)
def w_X1_noteDone (i0 : Nat) (σ0 : mS) (Q : mS → Prop) : Prop := (kdC i0 = (0, 1) ∧ (((50 : Int32) ≤ (mI σ0 i0 7) → (∀ σ4, σ4 = sI σ0 i0 8 (0 : Int32) → (Q σ4))) ∧ (¬ (50 : Int32) ≤ (mI σ0 i0 7) → (∀ σ6, σ6 = sI σ0 i0 7 ((mI σ0 i0 7) + (1 : Int32)) → (∀ σ8, σ8 = sI σ6 i0 8 (0 : Int32) → (Q σ8))))))
set_option maxRecDepth 100000 in
set_option maxHeartbeats 4000000 in
theorem c_X1_noteDone (l : Launch) (G : mG) (ad : Nat → Nat) (i0 : Nat) (σ0 : mS) (Q : mS → Prop) (h : w_X1_noteDone i0 σ0 Q) : mKv l yX1_noteDone cX1_noteDone 1 0 0 G kdC ad σ0 [mV ad (some i0)] Q := by
  refine mr_start (lst := [(0, mV ad (some i0))]) (by decide) (m_cR m_c0) rfl (Nat.le_of_ble_eq_true rfl) (fun p e s m below meth c C hM hr hlk ls hl => ?_)
  have hx := C.1.1
  have hb := C.1.2.1
  unfold w_X1_noteDone at h
  refine mr_aload_n C dX1_noteDone_0 rfl (ml_at hl 0 rfl) ?_
  obtain ⟨hk1, h⟩ := h
  refine fg_X1_21 C hM (mO_sv hM hk1) dX1_noteDone_1 ?_
  refine lv_bipush (v := 50) hx hb dX1_noteDone_4 (by decide) ?_
  refine lv_icmp_ge (tgt := 19) hx hb dX1_noteDone_6 (by decide) (fun hc2 => ?_) (fun hc2 => ?_)
  · replace h := h.1 hc2
    refine mr_aload_n C dX1_noteDone_19 rfl (ml_at hl 0 rfl) ?_
    refine lv_iconst (v := 0) hx hb dX1_noteDone_20 (by decide) ?_
    refine fp_X1_54 C hM (mO_sv hM hk1) dX1_noteDone_21 (0 : Int32) (fun H locs hM3 => ?_)
    clear hM
    obtain ⟨σ4, eσ4⟩ : ∃ y, y = sI σ0 i0 8 (0 : Int32) := ⟨_, rfl⟩
    rw [← eσ4] at hM3
    replace h := h σ4 eσ4
    exact mr_vret C hM3 hr hlk h dX1_noteDone_24
  · replace h := h.2 hc2
    refine mr_aload_n C dX1_noteDone_9 rfl (ml_at hl 0 rfl) ?_
    refine lv_dup hx hb dX1_noteDone_10 (mV_cat _ _) ?_
    refine fg_X1_21 C hM (mO_sv hM hk1) dX1_noteDone_11 ?_
    refine lv_iconst (v := 1) hx hb dX1_noteDone_14 (by decide) ?_
    refine lv_iadd hx hb dX1_noteDone_15 ?_
    refine fp_X1_21 C hM (mO_sv hM hk1) dX1_noteDone_16 ((mI σ0 i0 7) + (1 : Int32)) (fun H locs hM5 => ?_)
    clear hM
    obtain ⟨σ6, eσ6⟩ : ∃ y, y = sI σ0 i0 7 ((mI σ0 i0 7) + (1 : Int32)) := ⟨_, rfl⟩
    rw [← eσ6] at hM5
    replace h := h σ6 eσ6
    refine mr_aload_n C dX1_noteDone_19 rfl (ml_at hl 0 rfl) ?_
    refine lv_iconst (v := 0) hx hb dX1_noteDone_20 (by decide) ?_
    refine fp_X1_54 C hM5 (mO_sv hM5 hk1) dX1_noteDone_21 (0 : Int32) (fun H locs hM7 => ?_)
    clear hM5
    obtain ⟨σ8, eσ8⟩ : ∃ y, y = sI σ6 i0 8 (0 : Int32) := ⟨_, rfl⟩
    rw [← eσ8] at hM7
    replace h := h σ8 eσ8
    exact mr_vret C hM7 hr hlk h dX1_noteDone_24
def w_X0_noteTryOver (i0 : Nat) (y1 : Int32) (σ0 : mS) (Q : mS → Prop) : Prop := (mO kdC 0 i0 σ0 ∧ (∀ σ3, σ3 = sI σ0 i0 15 ((mI σ0 i0 15) - (1 : Int32)) → ((¬ y1 = (3 : Int32) → (Q σ3)) ∧ (y1 = (3 : Int32) → (∀ σ6, σ6 = sI σ3 i0 13 (1 : Int32) → (Q σ6))))))
set_option maxRecDepth 100000 in
set_option maxHeartbeats 4000000 in
theorem c_X0_noteTryOver (l : Launch) (G : mG) (ad : Nat → Nat) (i0 : Nat) (y1 : Int32) (σ0 : mS) (Q : mS → Prop) (h : w_X0_noteTryOver i0 y1 σ0 Q) : mKv l yX0_noteTryOver cX0_noteTryOver 2 0 0 G kdC ad σ0 [mV ad (some i0), .int y1] Q := by
  refine mr_start (lst := [(0, mV ad (some i0)), (1, .int y1)]) (by decide) (m_cR (m_cI m_c0)) rfl (Nat.le_of_ble_eq_true rfl) (fun p e s m below meth c C hM hr hlk ls hl => ?_)
  have hx := C.1.1
  have hb := C.1.2.1
  unfold w_X0_noteTryOver at h
  refine mr_aload_n C dX0_noteTryOver_0 rfl (ml_at hl 0 rfl) ?_
  refine lv_dup hx hb dX0_noteTryOver_1 (mV_cat _ _) ?_
  obtain ⟨ho1, h⟩ := h
  refine fg_X0_71 C hM ho1 dX0_noteTryOver_2 ?_
  refine lv_iconst (v := 1) hx hb dX0_noteTryOver_5 (by decide) ?_
  refine lv_isub hx hb dX0_noteTryOver_6 ?_
  refine fp_X0_71 C hM ho1 dX0_noteTryOver_7 ((mI σ0 i0 15) - (1 : Int32)) (fun H locs hM2 => ?_)
  clear hM
  obtain ⟨σ3, eσ3⟩ : ∃ y, y = sI σ0 i0 15 ((mI σ0 i0 15) - (1 : Int32)) := ⟨_, rfl⟩
  rw [← eσ3] at hM2
  replace h := h σ3 eσ3
  refine lv_iload_n hx hb dX0_noteTryOver_10 rfl (ml_at hl 1 rfl) ?_
  refine lv_iconst (v := 3) hx hb dX0_noteTryOver_11 (by decide) ?_
  refine lv_icmp_ne (tgt := 20) hx hb dX0_noteTryOver_12 (by decide) (fun hc4 => ?_) (fun hc4 => ?_)
  · replace h := h.1 hc4
    exact mr_vret C hM2 hr hlk h dX0_noteTryOver_20
  · replace h := h.2 hc4
    refine mr_aload_n C dX0_noteTryOver_15 rfl (ml_at hl 0 rfl) ?_
    refine lv_iconst (v := 1) hx hb dX0_noteTryOver_16 (by decide) ?_
    refine fp_X0_62 C hM2 (mO_I eσ3 ho1) dX0_noteTryOver_17 (1 : Int32) (rfl) (fun H locs hM5 => ?_)
    clear hM2
    obtain ⟨σ6, eσ6⟩ : ∃ y, y = sI σ3 i0 13 (1 : Int32) := ⟨_, rfl⟩
    rw [← eσ6] at hM5
    replace h := h σ6 eσ6
    exact mr_vret C hM5 hr hlk h dX0_noteTryOver_20
def w_X2_close (a1 : Option Nat) (y2 : Int32) (σ0 : mS) (Q : mS → Prop) : Prop := (∃ i1, a1 = some i1 ∧ (mO kdC 0 i1 σ0 ∧ w_X0_become i1 y2 σ0 (fun σ3 => (mO kdC 0 i1 σ3 ∧ (∀ σ8, σ8 = sI σ3 i1 5 (mI σ3 0 3) → (∃ J25 : mS → Prop, (∀  (σ_25 : mS), J25  σ_25 → (mO kdC 0 i1 σ_25 ∧ (∀ r10, r10 = mR σ_25 i1 2 → ((r10 = none → (∀ σ13, σ13 = sI σ_25 0 4 ((mI σ_25 0 4) + (1 : Int32)) → (Q σ13))) ∧ (∀ i11, r10 = some i11 → (∀ r14, r14 = mR σ_25 i1 2 → (∃ i15, r14 = some i15 ∧ (mO kdC 0 i15 σ_25 ∧ w_X0_noteTryOver i15 y2 σ_25 (fun σ17 => (Q σ17)))))))))) ∧ ((¬ y2 = (3 : Int32) → (J25  σ8)) ∧ (y2 = (3 : Int32) → (∀ r21, r21 = mR σ8 i1 1 → (∃ i22, r21 = some i22 ∧ (kdC i22 = (0, 1) ∧ w_X1_noteDone i22 σ8 (fun σ24 => (J25  σ24)))))))))))))
set_option maxRecDepth 100000 in
set_option maxHeartbeats 4000000 in
theorem c_X2_close (l : Launch) (G : mG) (ad : Nat → Nat) (a1 : Option Nat) (y2 : Int32) (σ0 : mS) (Q : mS → Prop) (h : w_X2_close a1 y2 σ0 Q) : mKv l yX2_close cX2_close 3 1 22 G kdC ad σ0 [mV ad (some 0), mV ad a1, .int y2] Q := by
  refine mr_start (lst := [(0, mV ad (some 0)), (1, mV ad a1), (2, .int y2)]) (by decide) (m_cR (m_cR (m_cI m_c0))) rfl (Nat.le_of_ble_eq_true rfl) (fun p e s m below meth c C hM hr hlk ls hl => ?_)
  have hx := C.1.1
  have hb := C.1.2.1
  unfold w_X2_close at h
  refine mr_aload_n C dX2_close_0 rfl (ml_at hl 1 rfl) ?_
  refine lv_iload_n hx hb dX2_close_1 rfl (ml_at hl 2 rfl) ?_
  obtain ⟨i1, rfl, h⟩ := h
  obtain ⟨ho2, h⟩ := h
  refine mr_cv hM (mr_runV (As := [.int y2]) C hM hl.1.1 (c_X0_become l G ad i1 y2 σ0 _ h) cw_X2_205 ho2 rfl rfl (n := 1) ⟨rfl, by decide, by decide, by decide +kernel⟩ rfl rfl ⟨Nat.le_of_ble_eq_true rfl, Nat.le_of_ble_eq_true rfl⟩ m_c0 (Nat.le_of_ble_eq_true rfl) dX2_close_2 ⟨Nat.zero_le _, Nat.zero_le _⟩) (fun σ3 H locs h4 hM5 => ?_)
  clear h hM
  refine mr_aload_n C dX2_close_5 rfl (ml_at hl 1 rfl) ?_
  refine mr_aload_n C dX2_close_6 rfl (ml_at hl 0 rfl) ?_
  refine fg_X2_76 C hM5 (mO_fix hM5 rfl (by decide) (by decide) (by decide)) dX2_close_7 ?_
  obtain ⟨ho6, h4⟩ := h4
  refine fp_X2_142 C hM5 ho6 dX2_close_10 (mI σ3 0 3) (fun H locs hM7 => ?_)
  clear hM5
  obtain ⟨σ8, eσ8⟩ : ∃ y, y = sI σ3 i1 5 (mI σ3 0 3) := ⟨_, rfl⟩
  rw [← eσ8] at hM7
  replace h4 := h4 σ8 eσ8
  refine lv_iload_n hx hb dX2_close_13 rfl (ml_at hl 2 rfl) ?_
  refine lv_iconst (v := 3) hx hb dX2_close_14 (by decide) ?_
  obtain ⟨J25, hJ25, h4⟩ := h4
  have hj25 : ∀  (σ_25 : mS) (H : Heap) (locs : List Loc) (ls : Array Slot), J25  σ_25 → mM G kdC ad s σ_25 H locs → ml_has ls 3 [(0, mV ad (some 0)), (1, mV ad (some i1)), (2, .int y2)] → W p l e (mRm 1 22) s m ([mV ad (some 0), mV ad (some i1), .int y2] : List Value).toArray below meth c H locs 0 0 (MQ below (va_Qv Q (mPost G kdC ad) (mA ad)) ([mV ad (some 0), mV ad (some i1), .int y2] : List Value).toArray s 0 0 (mA ad)) (F0 m 25 ls []) := by
    intro  σ_25 H locs ls h_25 hM_25 hl_25
    replace h_25 := hJ25  σ_25 h_25
    refine mr_aload_n C dX2_close_25 rfl (ml_at hl_25 1 rfl) ?_
    obtain ⟨ho9, h_25⟩ := h_25
    refine fg_X2_97 C hM_25 ho9 dX2_close_26 (fun r10 er10 => ?_)
    replace h_25 := h_25 r10 er10
    refine mr_ifnonnull (tgt := 45) C dX2_close_29 (by decide) (fun i11 hc => ?_) (fun hc => ?_)
    · replace h_25 := h_25.2 i11 hc
      subst hc
      refine mr_aload_n C dX2_close_45 rfl (ml_at hl_25 1 rfl) ?_
      refine fg_X2_97 C hM_25 ho9 dX2_close_46 (fun r14 er14 => ?_)
      replace h_25 := h_25 r14 er14
      refine lv_iload_n hx hb dX2_close_49 rfl (ml_at hl_25 2 rfl) ?_
      obtain ⟨i15, rfl, h_25⟩ := h_25
      obtain ⟨ho16, h_25⟩ := h_25
      refine mr_cv hM_25 (mr_runV (As := [.int y2]) C hM_25 hl_25.1.1 (c_X0_noteTryOver l G ad i15 y2 σ_25 _ h_25) cw_X2_218 ho16 rfl rfl (n := 1) ⟨rfl, by decide, by decide, by decide +kernel⟩ rfl rfl ⟨Nat.le_of_ble_eq_true rfl, Nat.le_of_ble_eq_true rfl⟩ m_c0 (Nat.le_of_ble_eq_true rfl) dX2_close_50 ⟨Nat.zero_le _, Nat.zero_le _⟩) (fun σ17 H locs h18 hM19 => ?_)
      clear h_25 hM_25
      exact mr_vret C hM19 hr hlk h18 dX2_close_53
    · replace h_25 := h_25.1 hc
      subst hc
      refine mr_aload_n C dX2_close_32 rfl (ml_at hl_25 0 rfl) ?_
      refine lv_dup hx hb dX2_close_33 (mV_cat _ _) ?_
      refine fg_X2_107 C hM_25 (mO_fix hM_25 rfl (by decide) (by decide) (by decide)) dX2_close_34 ?_
      refine lv_iconst (v := 1) hx hb dX2_close_37 (by decide) ?_
      refine lv_iadd hx hb dX2_close_38 ?_
      refine fp_X2_107 C hM_25 (mO_fix hM_25 rfl (by decide) (by decide) (by decide)) dX2_close_39 ((mI σ_25 0 4) + (1 : Int32)) (fun H locs hM12 => ?_)
      clear hM_25
      obtain ⟨σ13, eσ13⟩ : ∃ y, y = sI σ_25 0 4 ((mI σ_25 0 4) + (1 : Int32)) := ⟨_, rfl⟩
      rw [← eσ13] at hM12
      replace h_25 := h_25 σ13 eσ13
      refine lv_goto (tgt := 53) hx hb dX2_close_42 (by decide) ?_
      exact mr_vret C hM12 hr hlk h_25 dX2_close_53
  refine lv_icmp_ne (tgt := 25) hx hb dX2_close_15 (by decide) (fun hc20 => ?_) (fun hc20 => ?_)
  · replace h4 := h4.1 hc20
    exact hj25  σ8 _ _ _ h4 hM7 (ml_sub hl [0, 1, 2] rfl)
  · replace h4 := h4.2 hc20
    refine mr_aload_n C dX2_close_18 rfl (ml_at hl 1 rfl) ?_
    refine fg_X2_134 C hM7 (mO_I eσ8 ho6) dX2_close_19 (fun r21 er21 => ?_)
    replace h4 := h4 r21 er21
    obtain ⟨i22, rfl, h4⟩ := h4
    obtain ⟨hk23, h4⟩ := h4
    refine mr_cv hM7 (mr_runV (As := []) C hM7 hl.1.1 (c_X1_noteDone l G ad i22 σ8 _ h4) cw_X2_215 (mO_sv hM7 hk23) rfl rfl (n := 0) ⟨rfl, by decide, by decide, by decide +kernel⟩ rfl rfl ⟨Nat.le_of_ble_eq_true rfl, Nat.le_of_ble_eq_true rfl⟩ m_c0 (Nat.le_of_ble_eq_true rfl) dX2_close_22 ⟨Nat.zero_le _, Nat.zero_le _⟩) (fun σ24 H locs h25 hM26 => ?_)
    clear h4 hM7
    exact hj25  σ24 _ _ _ h25 hM26 (ml_sub hl [0, 1, 2] rfl)
def w_X0_isOver (i0 : Nat) (σ0 : mS) (Q : Int32 → mS → Prop) : Prop := (mO kdC 0 i0 σ0 ∧ (((mI σ0 i0 4) < (3 : Int32) → (Q (0 : Int32) σ0)) ∧ (¬ (mI σ0 i0 4) < (3 : Int32) → (Q (1 : Int32) σ0))))
set_option maxRecDepth 100000 in
set_option maxHeartbeats 4000000 in
theorem c_X0_isOver (l : Launch) (G : mG) (ad : Nat → Nat) (i0 : Nat) (σ0 : mS) (Q : Int32 → mS → Prop) (h : w_X0_isOver i0 σ0 Q) : mKz l yX0_isOver cX0_isOver 1 0 0 G kdC ad σ0 [mV ad (some i0)] Q := by
  refine mr_start (lst := [(0, mV ad (some i0))]) (by decide) (m_cR m_c0) rfl (Nat.le_of_ble_eq_true rfl) (fun p e s m below meth c C hM hr hlk ls hl => ?_)
  have hx := C.1.1
  have hb := C.1.2.1
  unfold w_X0_isOver at h
  refine mr_aload_n C dX0_isOver_0 rfl (ml_at hl 0 rfl) ?_
  obtain ⟨ho1, h⟩ := h
  refine fg_X0_9 C hM ho1 dX0_isOver_1 ?_
  refine lv_iconst (v := 3) hx hb dX0_isOver_4 (by decide) ?_
  refine lv_icmp_lt (tgt := 12) hx hb dX0_isOver_5 (by decide) (fun hc2 => ?_) (fun hc2 => ?_)
  · replace h := h.1 hc2
    refine lv_iconst (v := 0) hx hb dX0_isOver_12 (by decide) ?_
    exact mr_zret C hM hr hlk rfl h dX0_isOver_13
  · replace h := h.2 hc2
    refine lv_iconst (v := 1) hx hb dX0_isOver_8 (by decide) ?_
    refine lv_goto (tgt := 13) hx hb dX0_isOver_9 (by decide) ?_
    exact mr_zret C hM hr hlk rfl h dX0_isOver_13
def w_X2_finish (a1 : Option Nat) (y2 : Int32) (σ0 : mS) (Q : Int32 → mS → Prop) : Prop := w_X2_close a1 y2 σ0 (fun σ1 => (∃ i5, a1 = some i5 ∧ (mO kdC 0 i5 σ1 ∧ (∀ r7, r7 = mR σ1 i5 8 → (∃ I14 : Nat → Int32 → Option Nat → mS → Prop, (∀ (n14 : Nat) (x3_14 : Int32) (r4_14 : Option Nat) (σ_14 : mS), I14 n14 x3_14 r4_14 σ_14 → ((r4_14 = none → (Q x3_14 σ_14)) ∧ (∀ i9, r4_14 = some i9 → (mO kdC 0 i9 σ_14 ∧ w_X0_isOver i9 σ_14 (fun x14 σ11 => ((¬ x14 = 0 → (mO kdC 0 i9 σ11 ∧ (∀ r17, r17 = mR σ11 i9 8 → (∃ k19, k19 < n14 ∧ I14 k19 x3_14 r17 σ11)))) ∧ (x14 = 0 → (mO kdC 0 i9 σ11 ∧ (∀ r21, r21 = mR σ11 i9 2 → ((r21 = none → (∀ r23, r23 = mR σ11 i9 8 → (∃ k25, k25 < n14 ∧ I14 k25 x3_14 r23 σ11))) ∧ (∀ i22, r21 = some i22 → (∀ r26, r26 = mR σ11 i9 2 → (∃ i27, r26 = some i27 ∧ (mO kdC 0 i27 σ11 ∧ w_X0_isOver i27 σ11 (fun x32 σ29 => ((x32 = 0 → (mO kdC 0 i9 σ29 ∧ (∀ r35, r35 = mR σ29 i9 8 → (∃ k37, k37 < n14 ∧ I14 k37 x3_14 r35 σ29)))) ∧ (¬ x32 = 0 → w_X2_close (some i9) (7 : Int32) σ29 (fun σ38 => (mO kdC 0 i9 σ38 ∧ (∀ r43, r43 = mR σ38 i9 8 → (∃ k45, k45 < n14 ∧ I14 k45 (x3_14 + 1) r43 σ38))))))))))))))))))))) ∧ ∃ n, I14 n (0 : Int32) r7 σ1)))))
set_option maxRecDepth 100000 in
set_option maxHeartbeats 4000000 in
theorem c_X2_finish (l : Launch) (G : mG) (ad : Nat → Nat) (a1 : Option Nat) (y2 : Int32) (σ0 : mS) (Q : Int32 → mS → Prop) (h : w_X2_finish a1 y2 σ0 Q) : mKi l yX2_finish cX2_finish 5 2 44 G kdC ad σ0 [mV ad (some 0), mV ad a1, .int y2] Q := by
  refine mr_start (lst := [(0, mV ad (some 0)), (1, mV ad a1), (2, .int y2)]) (by decide) (m_cR (m_cR (m_cI m_c0))) rfl (Nat.le_of_ble_eq_true rfl) (fun p e s m below meth c C hM hr hlk ls hl => ?_)
  have hx := C.1.1
  have hb := C.1.2.1
  unfold w_X2_finish at h
  refine mr_aload_n C dX2_finish_0 rfl (ml_at hl 0 rfl) ?_
  refine mr_aload_n C dX2_finish_1 rfl (ml_at hl 1 rfl) ?_
  refine lv_iload_n hx hb dX2_finish_2 rfl (ml_at hl 2 rfl) ?_
  refine mr_cv hM (mr_runV (As := [mV ad a1, .int y2]) C hM hl.1.1 (c_X2_close l G ad a1 y2 σ0 _ h) cw_X2_211 (mO_fix hM rfl (by decide) (by decide) (by decide)) rfl rfl (n := 2) ⟨rfl, by decide, by decide, by decide +kernel⟩ rfl rfl ⟨Nat.le_of_ble_eq_true rfl, Nat.le_of_ble_eq_true rfl⟩ m_c0 (Nat.le_of_ble_eq_true rfl) dX2_finish_3 ⟨Nat.zero_le _, Nat.zero_le _⟩) (fun σ1 H locs h2 hM3 => ?_)
  clear h hM
  refine lv_iconst (v := 0) hx hb dX2_finish_6 (by decide) ?_
  refine mr_istore_n (lv' := [(3, .int (0 : Int32)), (0, mV ad (some 0)), (1, mV ad a1), (2, .int y2)]) C hl dX2_finish_7 rfl (by decide) rfl (fun ls hl4 => ?_)
  clear hl
  refine mr_aload_n C dX2_finish_8 rfl (ml_at hl4 2 rfl) ?_
  obtain ⟨i5, rfl, h2⟩ := h2
  obtain ⟨ho6, h2⟩ := h2
  refine fg_X2_148 C hM3 ho6 dX2_finish_9 (fun r7 er7 => ?_)
  replace h2 := h2 r7 er7
  refine mr_astore (lv' := [(4, mV ad r7), (3, .int (0 : Int32)), (0, mV ad (some 0)), (1, mV ad (some i5)), (2, .int y2)]) C hl4 dX2_finish_12 (by decide) rfl (fun ls hl8 => ?_)
  clear hl4
  obtain ⟨I14, hI14, nn14, h2⟩ := h2
  have hL14 : ∀ (n14 : Nat) (x3_14 : Int32) (r4_14 : Option Nat) (σ_14 : mS) (H : Heap) (locs : List Loc) (ls : Array Slot), I14 n14 x3_14 r4_14 σ_14 → mM G kdC ad s σ_14 H locs → ml_has ls 5 [(0, mV ad (some 0)), (3, .int x3_14), (4, mV ad r4_14)] → W p l e (mRm 2 44) s m ([mV ad (some 0), mV ad (some i5), .int y2] : List Value).toArray below meth c H locs 0 0 (MQ below (va_Qi Q (mPost G kdC ad) (mA ad)) ([mV ad (some 0), mV ad (some i5), .int y2] : List Value).toArray s 0 0 (mA ad)) (F0 m 14 ls []) := by
    refine m_loop (fun n14 ih14 => ?_)
    intro x3_14 r4_14 σ_14 H locs ls h_14 hM_14 hl_14
    replace h_14 := hI14 n14 x3_14 r4_14 σ_14 h_14
    refine mr_aload C dX2_finish_14 (ml_at hl_14 2 rfl) ?_
    refine mr_ifnull (tgt := 67) C dX2_finish_16 (by decide) (fun hc => ?_) (fun i9 hc => ?_)
    · replace h_14 := h_14.1 hc
      subst hc
      refine lv_iload_n hx hb dX2_finish_67 rfl (ml_at hl_14 1 rfl) ?_
      exact mr_iret C hM_14 hr hlk h_14 dX2_finish_68
    · replace h_14 := h_14.2 i9 hc
      subst hc
      refine mr_aload C dX2_finish_19 (ml_at hl_14 2 rfl) ?_
      obtain ⟨ho10, h_14⟩ := h_14
      refine mr_ci hM_14 (mr_runV (As := []) C hM_14 hl_14.1.1 (c_X0_isOver l G ad i9 σ_14 _ h_14) cw_X2_94 ho10 rfl rfl (n := 0) ⟨rfl, by decide, by decide, by decide +kernel⟩ rfl rfl ⟨Nat.le_of_ble_eq_true rfl, Nat.le_of_ble_eq_true rfl⟩ m_c0 (Nat.le_of_ble_eq_true rfl) dX2_finish_21 ⟨Nat.zero_le _, Nat.zero_le _⟩) (fun x14 σ11 H locs h12 hM13 => ?_)
      clear h_14 hM_14
      obtain ⟨h12, hzx14⟩ := h12
      refine lv_if_ne (tgt := 57) hx hb dX2_finish_24 (by decide) (fun hc15 => ?_) (fun hc15 => ?_)
      · replace h12 := h12.1 hc15
        refine mr_aload C dX2_finish_57 (ml_at hl_14 2 rfl) ?_
        obtain ⟨ho16, h12⟩ := h12
        refine fg_X2_148 C hM13 ho16 dX2_finish_59 (fun r17 er17 => ?_)
        replace h12 := h12 r17 er17
        refine mr_astore (lv' := [(4, mV ad r17), (0, mV ad (some 0)), (3, .int x3_14)]) C hl_14 dX2_finish_62 (by decide) rfl (fun ls hl18 => ?_)
        clear hl_14
        refine lv_goto (tgt := 14) hx hb dX2_finish_64 (by decide) ?_
        obtain ⟨k19, hk19, h12⟩ := h12
        exact ih14 k19 hk19 x3_14 r17 σ11 _ _ _ h12 hM13 (ml_sub hl18 [1, 2, 0] rfl)
      · replace h12 := h12.2 hc15
        refine mr_aload C dX2_finish_27 (ml_at hl_14 2 rfl) ?_
        obtain ⟨ho20, h12⟩ := h12
        refine fg_X2_97 C hM13 ho20 dX2_finish_29 (fun r21 er21 => ?_)
        replace h12 := h12 r21 er21
        refine mr_ifnull (tgt := 57) C dX2_finish_32 (by decide) (fun hc => ?_) (fun i22 hc => ?_)
        · replace h12 := h12.1 hc
          subst hc
          refine mr_aload C dX2_finish_57 (ml_at hl_14 2 rfl) ?_
          refine fg_X2_148 C hM13 ho20 dX2_finish_59 (fun r23 er23 => ?_)
          replace h12 := h12 r23 er23
          refine mr_astore (lv' := [(4, mV ad r23), (0, mV ad (some 0)), (3, .int x3_14)]) C hl_14 dX2_finish_62 (by decide) rfl (fun ls hl24 => ?_)
          clear hl_14
          refine lv_goto (tgt := 14) hx hb dX2_finish_64 (by decide) ?_
          obtain ⟨k25, hk25, h12⟩ := h12
          exact ih14 k25 hk25 x3_14 r23 σ11 _ _ _ h12 hM13 (ml_sub hl24 [1, 2, 0] rfl)
        · replace h12 := h12.2 i22 hc
          subst hc
          refine mr_aload C dX2_finish_35 (ml_at hl_14 2 rfl) ?_
          refine fg_X2_97 C hM13 ho20 dX2_finish_37 (fun r26 er26 => ?_)
          replace h12 := h12 r26 er26
          obtain ⟨i27, rfl, h12⟩ := h12
          obtain ⟨ho28, h12⟩ := h12
          refine mr_ci hM13 (mr_runV (As := []) C hM13 hl_14.1.1 (c_X0_isOver l G ad i27 σ11 _ h12) cw_X2_94 ho28 rfl rfl (n := 0) ⟨rfl, by decide, by decide, by decide +kernel⟩ rfl rfl ⟨Nat.le_of_ble_eq_true rfl, Nat.le_of_ble_eq_true rfl⟩ m_c0 (Nat.le_of_ble_eq_true rfl) dX2_finish_40 ⟨Nat.zero_le _, Nat.zero_le _⟩) (fun x32 σ29 H locs h30 hM31 => ?_)
          clear h12 hM13
          obtain ⟨h30, hzx32⟩ := h30
          refine lv_if_eq (tgt := 57) hx hb dX2_finish_43 (by decide) (fun hc33 => ?_) (fun hc33 => ?_)
          · replace h30 := h30.1 hc33
            refine mr_aload C dX2_finish_57 (ml_at hl_14 2 rfl) ?_
            obtain ⟨ho34, h30⟩ := h30
            refine fg_X2_148 C hM31 ho34 dX2_finish_59 (fun r35 er35 => ?_)
            replace h30 := h30 r35 er35
            refine mr_astore (lv' := [(4, mV ad r35), (0, mV ad (some 0)), (3, .int x3_14)]) C hl_14 dX2_finish_62 (by decide) rfl (fun ls hl36 => ?_)
            clear hl_14
            refine lv_goto (tgt := 14) hx hb dX2_finish_64 (by decide) ?_
            obtain ⟨k37, hk37, h30⟩ := h30
            exact ih14 k37 hk37 x3_14 r35 σ29 _ _ _ h30 hM31 (ml_sub hl36 [1, 2, 0] rfl)
          · replace h30 := h30.2 hc33
            refine mr_aload_n C dX2_finish_46 rfl (ml_at hl_14 0 rfl) ?_
            refine mr_aload C dX2_finish_47 (ml_at hl_14 2 rfl) ?_
            refine lv_bipush (v := 7) hx hb dX2_finish_49 (by decide) ?_
            refine mr_cv hM31 (mr_runV (As := [mV ad (some i9), .int (7 : Int32)]) C hM31 hl_14.1.1 (c_X2_close l G ad (some i9) (7 : Int32) σ29 _ h30) cw_X2_211 (mO_fix hM31 rfl (by decide) (by decide) (by decide)) rfl rfl (n := 2) ⟨rfl, by decide, by decide, by decide +kernel⟩ rfl rfl ⟨Nat.le_of_ble_eq_true rfl, Nat.le_of_ble_eq_true rfl⟩ m_c0 (Nat.le_of_ble_eq_true rfl) dX2_finish_51 ⟨Nat.zero_le _, Nat.zero_le _⟩) (fun σ38 H locs h39 hM40 => ?_)
            clear h30 hM31
            refine mr_iinc (v := (x3_14 + 1)) (lv' := [(3, .int (x3_14 + 1)), (0, mV ad (some 0)), (4, mV ad (some i9))]) C hl_14 dX2_finish_54 (k := 1) rfl rfl (by decide) rfl (fun ls hl41 => ?_)
            clear hl_14
            refine mr_aload C dX2_finish_57 (ml_at hl41 2 rfl) ?_
            obtain ⟨ho42, h39⟩ := h39
            refine fg_X2_148 C hM40 ho42 dX2_finish_59 (fun r43 er43 => ?_)
            replace h39 := h39 r43 er43
            refine mr_astore (lv' := [(4, mV ad r43), (3, .int (x3_14 + 1)), (0, mV ad (some 0))]) C hl41 dX2_finish_62 (by decide) rfl (fun ls hl44 => ?_)
            clear hl41
            refine lv_goto (tgt := 14) hx hb dX2_finish_64 (by decide) ?_
            obtain ⟨k45, hk45, h39⟩ := h39
            exact ih14 k45 hk45 (x3_14 + 1) r43 σ38 _ _ _ h39 hM40 (ml_sub hl44 [2, 1, 0] rfl)
  exact hL14 nn14 (0 : Int32) r7 σ1 _ _ _ h2 hM3 (ml_sub hl8 [2, 1, 0] rfl)
def w_X0_canBeDone (i0 : Nat) (y1 : Int32) (σ0 : mS) (Q : Int32 → mS → Prop) : Prop := (mO kdC 0 i0 σ0 ∧ (∀ r2, r2 = mR σ0 i0 1 → (∃ i3, r2 = some i3 ∧ (kdC i3 = (0, 1) ∧ ((((mI σ0 i0 3) - y1) < (mI σ0 i3 1) → (Q (0 : Int32) σ0)) ∧ (¬ ((mI σ0 i0 3) - y1) < (mI σ0 i3 1) → (Q (1 : Int32) σ0)))))))
set_option maxRecDepth 100000 in
set_option maxHeartbeats 4000000 in
theorem c_X0_canBeDone (l : Launch) (G : mG) (ad : Nat → Nat) (i0 : Nat) (y1 : Int32) (σ0 : mS) (Q : Int32 → mS → Prop) (h : w_X0_canBeDone i0 y1 σ0 Q) : mKz l yX0_canBeDone cX0_canBeDone 2 0 0 G kdC ad σ0 [mV ad (some i0), .int y1] Q := by
  refine mr_start (lst := [(0, mV ad (some i0)), (1, .int y1)]) (by decide) (m_cR (m_cI m_c0)) rfl (Nat.le_of_ble_eq_true rfl) (fun p e s m below meth c C hM hr hlk ls hl => ?_)
  have hx := C.1.1
  have hb := C.1.2.1
  unfold w_X0_canBeDone at h
  refine mr_aload_n C dX0_canBeDone_0 rfl (ml_at hl 0 rfl) ?_
  obtain ⟨ho1, h⟩ := h
  refine fg_X0_29 C hM ho1 dX0_canBeDone_1 ?_
  refine lv_iload_n hx hb dX0_canBeDone_4 rfl (ml_at hl 1 rfl) ?_
  refine lv_isub hx hb dX0_canBeDone_5 ?_
  refine mr_aload_n C dX0_canBeDone_6 rfl (ml_at hl 0 rfl) ?_
  refine fg_X0_21 C hM ho1 dX0_canBeDone_7 (fun r2 er2 => ?_)
  replace h := h r2 er2
  obtain ⟨i3, rfl, h⟩ := h
  obtain ⟨hk4, h⟩ := h
  refine fg_X0_32 C hM (mO_sv hM hk4) dX0_canBeDone_10 ?_
  refine lv_icmp_lt (tgt := 20) hx hb dX0_canBeDone_13 (by decide) (fun hc5 => ?_) (fun hc5 => ?_)
  · replace h := h.1 hc5
    refine lv_iconst (v := 0) hx hb dX0_canBeDone_20 (by decide) ?_
    exact mr_zret C hM hr hlk rfl h dX0_canBeDone_21
  · replace h := h.2 hc5
    refine lv_iconst (v := 1) hx hb dX0_canBeDone_16 (by decide) ?_
    refine lv_goto (tgt := 21) hx hb dX0_canBeDone_17 (by decide) ?_
    exact mr_zret C hM hr hlk rfl h dX0_canBeDone_21
def w_X1_countOf (i0 : Nat) (y1 : Int32) (σ0 : mS) (Q : Int32 → mS → Prop) : Prop := ((y1 < 0 → (Q (0 : Int32) σ0)) ∧ (¬ y1 < 0 → (kdC i0 = (0, 1) ∧ (((8 : Int32) ≤ y1 → (Q (0 : Int32) σ0)) ∧ (¬ (8 : Int32) ≤ y1 → (∃ j4, y1 = nI j4 ∧ (j4 < 8 ∧ (Q (mI σ0 (i0 + 2) j4) σ0))))))))
set_option maxRecDepth 100000 in
set_option maxHeartbeats 4000000 in
theorem c_X1_countOf (l : Launch) (G : mG) (ad : Nat → Nat) (i0 : Nat) (y1 : Int32) (σ0 : mS) (Q : Int32 → mS → Prop) (h : w_X1_countOf i0 y1 σ0 Q) : mKi l yX1_countOf cX1_countOf 2 0 0 G kdC ad σ0 [mV ad (some i0), .int y1] Q := by
  refine mr_start (lst := [(0, mV ad (some i0)), (1, .int y1)]) (by decide) (m_cR (m_cI m_c0)) rfl (Nat.le_of_ble_eq_true rfl) (fun p e s m below meth c C hM hr hlk ls hl => ?_)
  have hx := C.1.1
  have hb := C.1.2.1
  unfold w_X1_countOf at h
  refine lv_iload_n hx hb dX1_countOf_0 rfl (ml_at hl 1 rfl) ?_
  refine lv_if_lt (tgt := 22) hx hb dX1_countOf_1 (by decide) (fun hc1 => ?_) (fun hc1 => ?_)
  · replace h := h.1 hc1
    refine lv_iconst (v := 0) hx hb dX1_countOf_22 (by decide) ?_
    exact mr_iret C hM hr hlk h dX1_countOf_23
  · replace h := h.2 hc1
    refine lv_iload_n hx hb dX1_countOf_4 rfl (ml_at hl 1 rfl) ?_
    refine mr_aload_n C dX1_countOf_5 rfl (ml_at hl 0 rfl) ?_
    obtain ⟨hk2, h⟩ := h
    refine fg_X1_28 (i := i0) C hM (mO_sv hM hk2) dX1_countOf_6 ?_
    refine mr_alen (v := 8) C hM (mB_cnt hM hk2) (by decide) (by decide) rfl dX1_countOf_9 ?_
    refine lv_icmp_ge (tgt := 22) hx hb dX1_countOf_10 (by decide) (fun hc3 => ?_) (fun hc3 => ?_)
    · replace h := h.1 hc3
      refine lv_iconst (v := 0) hx hb dX1_countOf_22 (by decide) ?_
      exact mr_iret C hM hr hlk h dX1_countOf_23
    · replace h := h.2 hc3
      refine mr_aload_n C dX1_countOf_13 rfl (ml_at hl 0 rfl) ?_
      refine fg_X1_28 (i := i0) C hM (mO_sv hM hk2) dX1_countOf_14 ?_
      refine lv_iload_n hx hb dX1_countOf_17 rfl (ml_at hl 1 rfl) ?_
      obtain ⟨j4, ej5, ej5b, h⟩ := h
      refine mr_iald C hM (mB_cnt hM hk2) ej5 ej5b (by decide) dX1_countOf_18 ?_
      refine lv_goto (tgt := 23) hx hb dX1_countOf_19 (by decide) ?_
      exact mr_iret C hM hr hlk h dX1_countOf_23
def w_X1_hasFreeWorker (i0 : Nat) (σ0 : mS) (Q : Int32 → mS → Prop) : Prop := (kdC i0 = (0, 1) ∧ w_X1_countOf i0 (1 : Int32) σ0 (fun x5 σ2 => (((mI σ2 i0 4) ≤ x5 → (Q (0 : Int32) σ2)) ∧ (¬ (mI σ2 i0 4) ≤ x5 → (Q (1 : Int32) σ2)))))
set_option maxRecDepth 100000 in
set_option maxHeartbeats 4000000 in
theorem c_X1_hasFreeWorker (l : Launch) (G : mG) (ad : Nat → Nat) (i0 : Nat) (σ0 : mS) (Q : Int32 → mS → Prop) (h : w_X1_hasFreeWorker i0 σ0 Q) : mKz l yX1_hasFreeWorker cX1_hasFreeWorker 1 1 21 G kdC ad σ0 [mV ad (some i0)] Q := by
  refine mr_start (lst := [(0, mV ad (some i0))]) (by decide) (m_cR m_c0) rfl (Nat.le_of_ble_eq_true rfl) (fun p e s m below meth c C hM hr hlk ls hl => ?_)
  have hx := C.1.1
  have hb := C.1.2.1
  unfold w_X1_hasFreeWorker at h
  refine mr_aload_n C dX1_hasFreeWorker_0 rfl (ml_at hl 0 rfl) ?_
  refine lv_iconst (v := 1) hx hb dX1_hasFreeWorker_1 (by decide) ?_
  obtain ⟨hk1, h⟩ := h
  refine mr_ci hM (mr_runV (As := [.int (1 : Int32)]) C hM hl.1.1 (c_X1_countOf l G ad i0 (1 : Int32) σ0 _ h) cw_X1_38 (mO_sv hM hk1) rfl rfl (n := 1) ⟨rfl, by decide, by decide, by decide +kernel⟩ rfl rfl ⟨Nat.le_of_ble_eq_true rfl, Nat.le_of_ble_eq_true rfl⟩ m_c0 (Nat.le_of_ble_eq_true rfl) dX1_hasFreeWorker_2 ⟨Nat.zero_le _, Nat.zero_le _⟩) (fun x5 σ2 H locs h3 hM4 => ?_)
  clear h hM
  refine mr_aload_n C dX1_hasFreeWorker_5 rfl (ml_at hl 0 rfl) ?_
  refine fg_X1_15 C hM4 (mO_sv hM4 hk1) dX1_hasFreeWorker_6 ?_
  refine lv_icmp_ge (tgt := 16) hx hb dX1_hasFreeWorker_9 (by decide) (fun hc6 => ?_) (fun hc6 => ?_)
  · replace h3 := h3.1 hc6
    refine lv_iconst (v := 0) hx hb dX1_hasFreeWorker_16 (by decide) ?_
    exact mr_zret C hM4 hr hlk rfl h3 dX1_hasFreeWorker_17
  · replace h3 := h3.2 hc6
    refine lv_iconst (v := 1) hx hb dX1_hasFreeWorker_12 (by decide) ?_
    refine lv_goto (tgt := 17) hx hb dX1_hasFreeWorker_13 (by decide) ?_
    exact mr_zret C hM4 hr hlk rfl h3 dX1_hasFreeWorker_17
def w_X2_startWork (a1 : Option Nat) (σ0 : mS) (Q : mS → Prop) : Prop := (∃ i1, a1 = some i1 ∧ (mO kdC 0 i1 σ0 ∧ w_X0_become i1 (1 : Int32) σ0 (fun σ3 => (mO kdC 0 i1 σ3 ∧ (∀ r7, r7 = mR σ3 i1 1 → (∃ i8, r7 = some i8 ∧ (kdC i8 = (0, 1) ∧ (∀ σ11, σ11 = sI σ3 i1 6 ((mI σ3 0 3) + (mI σ3 i8 1)) → (Q σ11)))))))))
set_option maxRecDepth 100000 in
set_option maxHeartbeats 4000000 in
theorem c_X2_startWork (l : Launch) (G : mG) (ad : Nat → Nat) (a1 : Option Nat) (σ0 : mS) (Q : mS → Prop) (h : w_X2_startWork a1 σ0 Q) : mKv l yX2_startWork cX2_startWork 2 1 22 G kdC ad σ0 [mV ad (some 0), mV ad a1] Q := by
  refine mr_start (lst := [(0, mV ad (some 0)), (1, mV ad a1)]) (by decide) (m_cR (m_cR m_c0)) rfl (Nat.le_of_ble_eq_true rfl) (fun p e s m below meth c C hM hr hlk ls hl => ?_)
  have hx := C.1.1
  have hb := C.1.2.1
  unfold w_X2_startWork at h
  refine mr_aload_n C dX2_startWork_0 rfl (ml_at hl 1 rfl) ?_
  refine lv_iconst (v := 1) hx hb dX2_startWork_1 (by decide) ?_
  obtain ⟨i1, rfl, h⟩ := h
  obtain ⟨ho2, h⟩ := h
  refine mr_cv hM (mr_runV (As := [.int (1 : Int32)]) C hM hl.1.1 (c_X0_become l G ad i1 (1 : Int32) σ0 _ h) cw_X2_205 ho2 rfl rfl (n := 1) ⟨rfl, by decide, by decide, by decide +kernel⟩ rfl rfl ⟨Nat.le_of_ble_eq_true rfl, Nat.le_of_ble_eq_true rfl⟩ m_c0 (Nat.le_of_ble_eq_true rfl) dX2_startWork_2 ⟨Nat.zero_le _, Nat.zero_le _⟩) (fun σ3 H locs h4 hM5 => ?_)
  clear h hM
  refine mr_aload_n C dX2_startWork_5 rfl (ml_at hl 1 rfl) ?_
  refine mr_aload_n C dX2_startWork_6 rfl (ml_at hl 0 rfl) ?_
  refine fg_X2_76 C hM5 (mO_fix hM5 rfl (by decide) (by decide) (by decide)) dX2_startWork_7 ?_
  refine mr_aload_n C dX2_startWork_10 rfl (ml_at hl 1 rfl) ?_
  obtain ⟨ho6, h4⟩ := h4
  refine fg_X2_134 C hM5 ho6 dX2_startWork_11 (fun r7 er7 => ?_)
  replace h4 := h4 r7 er7
  obtain ⟨i8, rfl, h4⟩ := h4
  obtain ⟨hk9, h4⟩ := h4
  refine fg_X2_32 C hM5 (mO_sv hM5 hk9) dX2_startWork_14 ?_
  refine lv_iadd hx hb dX2_startWork_17 ?_
  refine fp_X2_208 C hM5 ho6 dX2_startWork_18 ((mI σ3 0 3) + (mI σ3 i8 1)) (fun H locs hM10 => ?_)
  clear hM5
  obtain ⟨σ11, eσ11⟩ : ∃ y, y = sI σ3 i1 6 ((mI σ3 0 3) + (mI σ3 i8 1)) := ⟨_, rfl⟩
  rw [← eσ11] at hM10
  replace h4 := h4 σ11 eσ11
  exact mr_vret C hM10 hr hlk h4 dX2_startWork_21
def w_X1_hasRoom (i0 : Nat) (σ0 : mS) (Q : Int32 → mS → Prop) : Prop := (kdC i0 = (0, 1) ∧ w_X1_countOf i0 (0 : Int32) σ0 (fun x5 σ2 => (((mI σ2 i0 5) ≤ x5 → (Q (0 : Int32) σ2)) ∧ (¬ (mI σ2 i0 5) ≤ x5 → (Q (1 : Int32) σ2)))))
set_option maxRecDepth 100000 in
set_option maxHeartbeats 4000000 in
theorem c_X1_hasRoom (l : Launch) (G : mG) (ad : Nat → Nat) (i0 : Nat) (σ0 : mS) (Q : Int32 → mS → Prop) (h : w_X1_hasRoom i0 σ0 Q) : mKz l yX1_hasRoom cX1_hasRoom 1 1 21 G kdC ad σ0 [mV ad (some i0)] Q := by
  refine mr_start (lst := [(0, mV ad (some i0))]) (by decide) (m_cR m_c0) rfl (Nat.le_of_ble_eq_true rfl) (fun p e s m below meth c C hM hr hlk ls hl => ?_)
  have hx := C.1.1
  have hb := C.1.2.1
  unfold w_X1_hasRoom at h
  refine mr_aload_n C dX1_hasRoom_0 rfl (ml_at hl 0 rfl) ?_
  refine lv_iconst (v := 0) hx hb dX1_hasRoom_1 (by decide) ?_
  obtain ⟨hk1, h⟩ := h
  refine mr_ci hM (mr_runV (As := [.int (0 : Int32)]) C hM hl.1.1 (c_X1_countOf l G ad i0 (0 : Int32) σ0 _ h) cw_X1_38 (mO_sv hM hk1) rfl rfl (n := 1) ⟨rfl, by decide, by decide, by decide +kernel⟩ rfl rfl ⟨Nat.le_of_ble_eq_true rfl, Nat.le_of_ble_eq_true rfl⟩ m_c0 (Nat.le_of_ble_eq_true rfl) dX1_hasRoom_2 ⟨Nat.zero_le _, Nat.zero_le _⟩) (fun x5 σ2 H locs h3 hM4 => ?_)
  clear h hM
  refine mr_aload_n C dX1_hasRoom_5 rfl (ml_at hl 0 rfl) ?_
  refine fg_X1_18 C hM4 (mO_sv hM4 hk1) dX1_hasRoom_6 ?_
  refine lv_icmp_ge (tgt := 16) hx hb dX1_hasRoom_9 (by decide) (fun hc6 => ?_) (fun hc6 => ?_)
  · replace h3 := h3.1 hc6
    refine lv_iconst (v := 0) hx hb dX1_hasRoom_16 (by decide) ?_
    exact mr_zret C hM4 hr hlk rfl h3 dX1_hasRoom_17
  · replace h3 := h3.2 hc6
    refine lv_iconst (v := 1) hx hb dX1_hasRoom_12 (by decide) ?_
    refine lv_goto (tgt := 17) hx hb dX1_hasRoom_13 (by decide) ?_
    exact mr_zret C hM4 hr hlk rfl h3 dX1_hasRoom_17
def w_X2_begin (a1 : Option Nat) (σ0 : mS) (Q : mS → Prop) : Prop := (∃ i1, a1 = some i1 ∧ (mO kdC 0 i1 σ0 ∧ (∀ r3, r3 = mR σ0 i1 1 → (∃ i5, r3 = some i5 ∧ (kdC i5 = (0, 1) ∧ w_X1_refusesAt i5 (mI σ0 0 3) σ0 (fun x10 σ7 => ((x10 = 0 → (mO kdC 0 i1 σ7 ∧ w_X0_canBeDone i1 (mI σ7 0 3) σ7 (fun x16 σ13 => ((¬ x16 = 0 → w_X1_hasFreeWorker i5 σ13 (fun x21 σ18 => ((x21 = 0 → w_X1_hasRoom i5 σ18 (fun x26 σ23 => ((x26 = 0 → w_X2_finish (some i1) (6 : Int32) σ23 (fun x31 σ28 => (Q σ28))) ∧ (¬ x26 = 0 → (mO kdC 0 i1 σ23 ∧ w_X0_become i1 (0 : Int32) σ23 (fun σ33 => (Q σ33))))))) ∧ (¬ x21 = 0 → w_X2_startWork (some i1) σ18 (fun σ36 => (Q σ36)))))) ∧ (x16 = 0 → w_X2_finish (some i1) (6 : Int32) σ13 (fun x42 σ39 => (Q σ39))))))) ∧ (¬ x10 = 0 → w_X2_finish (some i1) (4 : Int32) σ7 (fun x46 σ43 => (Q σ43))))))))))
set_option maxRecDepth 100000 in
set_option maxHeartbeats 4000000 in
theorem c_X2_begin (l : Launch) (G : mG) (ad : Nat → Nat) (a1 : Option Nat) (σ0 : mS) (Q : mS → Prop) (h : w_X2_begin a1 σ0 Q) : mKv l yX2_begin cX2_begin 3 3 68 G kdC ad σ0 [mV ad (some 0), mV ad a1] Q := by
  refine mr_start (lst := [(0, mV ad (some 0)), (1, mV ad a1)]) (by decide) (m_cR (m_cR m_c0)) rfl (Nat.le_of_ble_eq_true rfl) (fun p e s m below meth c C hM hr hlk ls hl => ?_)
  have hx := C.1.1
  have hb := C.1.2.1
  unfold w_X2_begin at h
  refine mr_aload_n C dX2_begin_0 rfl (ml_at hl 1 rfl) ?_
  obtain ⟨i1, rfl, h⟩ := h
  obtain ⟨ho2, h⟩ := h
  refine fg_X2_134 C hM ho2 dX2_begin_1 (fun r3 er3 => ?_)
  replace h := h r3 er3
  refine mr_astore_n (lv' := [(2, mV ad r3), (0, mV ad (some 0)), (1, mV ad (some i1))]) C hl dX2_begin_4 rfl (by decide) rfl (fun ls hl4 => ?_)
  clear hl
  refine mr_aload_n C dX2_begin_5 rfl (ml_at hl4 0 rfl) ?_
  refine mr_aload_n C dX2_begin_6 rfl (ml_at hl4 1 rfl) ?_
  refine fg_X2_76 C hM (mO_fix hM rfl (by decide) (by decide) (by decide)) dX2_begin_7 ?_
  obtain ⟨i5, rfl, h⟩ := h
  obtain ⟨hk6, h⟩ := h
  refine mr_ci hM (mr_runV (As := [.int (mI σ0 0 3)]) C hM hl4.1.1 (c_X1_refusesAt l G ad i5 (mI σ0 0 3) σ0 _ h) cw_X2_174 (mO_sv hM hk6) rfl rfl (n := 1) ⟨rfl, by decide, by decide, by decide +kernel⟩ rfl rfl ⟨Nat.le_of_ble_eq_true rfl, Nat.le_of_ble_eq_true rfl⟩ m_c0 (Nat.le_of_ble_eq_true rfl) dX2_begin_10 ⟨Nat.zero_le _, Nat.zero_le _⟩) (fun x10 σ7 H locs h8 hM9 => ?_)
  clear h hM
  obtain ⟨h8, hzx10⟩ := h8
  refine lv_if_eq (tgt := 26) hx hb dX2_begin_13 (by decide) (fun hc11 => ?_) (fun hc11 => ?_)
  · replace h8 := h8.1 hc11
    refine mr_aload_n C dX2_begin_26 rfl (ml_at hl4 2 rfl) ?_
    refine mr_aload_n C dX2_begin_27 rfl (ml_at hl4 1 rfl) ?_
    refine fg_X2_76 C hM9 (mO_fix hM9 rfl (by decide) (by decide) (by decide)) dX2_begin_28 ?_
    obtain ⟨ho12, h8⟩ := h8
    refine mr_ci hM9 (mr_runV (As := [.int (mI σ7 0 3)]) C hM9 hl4.1.1 (c_X0_canBeDone l G ad i1 (mI σ7 0 3) σ7 _ h8) cw_X2_193 ho12 rfl rfl (n := 1) ⟨rfl, by decide, by decide, by decide +kernel⟩ rfl rfl ⟨Nat.le_of_ble_eq_true rfl, Nat.le_of_ble_eq_true rfl⟩ m_c0 (Nat.le_of_ble_eq_true rfl) dX2_begin_31 ⟨Nat.zero_le _, Nat.zero_le _⟩) (fun x16 σ13 H locs h14 hM15 => ?_)
    clear h8 hM9
    obtain ⟨h14, hzx16⟩ := h14
    refine lv_if_ne (tgt := 48) hx hb dX2_begin_34 (by decide) (fun hc17 => ?_) (fun hc17 => ?_)
    · replace h14 := h14.1 hc17
      refine mr_aload_n C dX2_begin_48 rfl (ml_at hl4 0 rfl) ?_
      refine mr_ci hM15 (mr_runV (As := []) C hM15 hl4.1.1 (c_X1_hasFreeWorker l G ad i5 σ13 _ h14) cw_X2_196 (mO_sv hM15 hk6) rfl rfl (n := 0) ⟨rfl, by decide, by decide, by decide +kernel⟩ rfl rfl ⟨Nat.le_of_ble_eq_true rfl, Nat.le_of_ble_eq_true rfl⟩ m_c0 (Nat.le_of_ble_eq_true rfl) dX2_begin_49 ⟨Nat.zero_le _, Nat.zero_le _⟩) (fun x21 σ18 H locs h19 hM20 => ?_)
      clear h14 hM15
      obtain ⟨h19, hzx21⟩ := h19
      refine lv_if_eq (tgt := 63) hx hb dX2_begin_52 (by decide) (fun hc22 => ?_) (fun hc22 => ?_)
      · replace h19 := h19.1 hc22
        refine mr_aload_n C dX2_begin_63 rfl (ml_at hl4 0 rfl) ?_
        refine mr_ci hM20 (mr_runV (As := []) C hM20 hl4.1.1 (c_X1_hasRoom l G ad i5 σ18 _ h19) cw_X2_202 (mO_sv hM20 hk6) rfl rfl (n := 0) ⟨rfl, by decide, by decide, by decide +kernel⟩ rfl rfl ⟨Nat.le_of_ble_eq_true rfl, Nat.le_of_ble_eq_true rfl⟩ m_c0 (Nat.le_of_ble_eq_true rfl) dX2_begin_64 ⟨Nat.zero_le _, Nat.zero_le _⟩) (fun x26 σ23 H locs h24 hM25 => ?_)
        clear h19 hM20
        obtain ⟨h24, hzx26⟩ := h24
        refine lv_if_eq (tgt := 78) hx hb dX2_begin_67 (by decide) (fun hc27 => ?_) (fun hc27 => ?_)
        · replace h24 := h24.1 hc27
          refine mr_aload_n C dX2_begin_78 rfl (ml_at hl4 1 rfl) ?_
          refine mr_aload_n C dX2_begin_79 rfl (ml_at hl4 2 rfl) ?_
          refine lv_bipush (v := 6) hx hb dX2_begin_80 (by decide) ?_
          refine mr_ci hM25 (mr_runV (As := [mV ad (some i1), .int (6 : Int32)]) C hM25 hl4.1.1 (c_X2_finish l G ad (some i1) (6 : Int32) σ23 _ h24) cw_X2_103 (mO_fix hM25 rfl (by decide) (by decide) (by decide)) rfl rfl (n := 2) ⟨rfl, by decide, by decide, by decide +kernel⟩ rfl rfl ⟨Nat.le_of_ble_eq_true rfl, Nat.le_of_ble_eq_true rfl⟩ m_c0 (Nat.le_of_ble_eq_true rfl) dX2_begin_82 ⟨Nat.zero_le _, Nat.zero_le _⟩) (fun x31 σ28 H locs h29 hM30 => ?_)
          clear h24 hM25
          refine lv_pop hx hb dX2_begin_85 rfl ?_
          exact mr_vret C hM30 hr hlk h29 dX2_begin_86
        · replace h24 := h24.2 hc27
          refine mr_aload_n C dX2_begin_70 rfl (ml_at hl4 2 rfl) ?_
          refine lv_iconst (v := 0) hx hb dX2_begin_71 (by decide) ?_
          obtain ⟨ho32, h24⟩ := h24
          refine mr_cv hM25 (mr_runV (As := [.int (0 : Int32)]) C hM25 hl4.1.1 (c_X0_become l G ad i1 (0 : Int32) σ23 _ h24) cw_X2_205 ho32 rfl rfl (n := 1) ⟨rfl, by decide, by decide, by decide +kernel⟩ rfl rfl ⟨Nat.le_of_ble_eq_true rfl, Nat.le_of_ble_eq_true rfl⟩ m_c0 (Nat.le_of_ble_eq_true rfl) dX2_begin_72 ⟨Nat.zero_le _, Nat.zero_le _⟩) (fun σ33 H locs h34 hM35 => ?_)
          clear h24 hM25
          refine lv_goto (tgt := 86) hx hb dX2_begin_75 (by decide) ?_
          exact mr_vret C hM35 hr hlk h34 dX2_begin_86
      · replace h19 := h19.2 hc22
        refine mr_aload_n C dX2_begin_55 rfl (ml_at hl4 1 rfl) ?_
        refine mr_aload_n C dX2_begin_56 rfl (ml_at hl4 2 rfl) ?_
        refine mr_cv hM20 (mr_runV (As := [mV ad (some i1)]) C hM20 hl4.1.1 (c_X2_startWork l G ad (some i1) σ18 _ h19) cw_X2_199 (mO_fix hM20 rfl (by decide) (by decide) (by decide)) rfl rfl (n := 1) ⟨rfl, by decide, by decide, by decide +kernel⟩ rfl rfl ⟨Nat.le_of_ble_eq_true rfl, Nat.le_of_ble_eq_true rfl⟩ m_c0 (Nat.le_of_ble_eq_true rfl) dX2_begin_57 ⟨Nat.zero_le _, Nat.zero_le _⟩) (fun σ36 H locs h37 hM38 => ?_)
        clear h19 hM20
        refine lv_goto (tgt := 86) hx hb dX2_begin_60 (by decide) ?_
        exact mr_vret C hM38 hr hlk h37 dX2_begin_86
    · replace h14 := h14.2 hc17
      refine mr_aload_n C dX2_begin_37 rfl (ml_at hl4 1 rfl) ?_
      refine mr_aload_n C dX2_begin_38 rfl (ml_at hl4 2 rfl) ?_
      refine lv_bipush (v := 6) hx hb dX2_begin_39 (by decide) ?_
      refine mr_ci hM15 (mr_runV (As := [mV ad (some i1), .int (6 : Int32)]) C hM15 hl4.1.1 (c_X2_finish l G ad (some i1) (6 : Int32) σ13 _ h14) cw_X2_103 (mO_fix hM15 rfl (by decide) (by decide) (by decide)) rfl rfl (n := 2) ⟨rfl, by decide, by decide, by decide +kernel⟩ rfl rfl ⟨Nat.le_of_ble_eq_true rfl, Nat.le_of_ble_eq_true rfl⟩ m_c0 (Nat.le_of_ble_eq_true rfl) dX2_begin_41 ⟨Nat.zero_le _, Nat.zero_le _⟩) (fun x42 σ39 H locs h40 hM41 => ?_)
      clear h14 hM15
      refine lv_pop hx hb dX2_begin_44 rfl ?_
      refine lv_goto (tgt := 86) hx hb dX2_begin_45 (by decide) ?_
      exact mr_vret C hM41 hr hlk h40 dX2_begin_86
  · replace h8 := h8.2 hc11
    refine mr_aload_n C dX2_begin_16 rfl (ml_at hl4 1 rfl) ?_
    refine mr_aload_n C dX2_begin_17 rfl (ml_at hl4 2 rfl) ?_
    refine lv_iconst (v := 4) hx hb dX2_begin_18 (by decide) ?_
    refine mr_ci hM9 (mr_runV (As := [mV ad (some i1), .int (4 : Int32)]) C hM9 hl4.1.1 (c_X2_finish l G ad (some i1) (4 : Int32) σ7 _ h8) cw_X2_103 (mO_fix hM9 rfl (by decide) (by decide) (by decide)) rfl rfl (n := 2) ⟨rfl, by decide, by decide, by decide +kernel⟩ rfl rfl ⟨Nat.le_of_ble_eq_true rfl, Nat.le_of_ble_eq_true rfl⟩ m_c0 (Nat.le_of_ble_eq_true rfl) dX2_begin_19 ⟨Nat.zero_le _, Nat.zero_le _⟩) (fun x46 σ43 H locs h44 hM45 => ?_)
    clear h8 hM9
    refine lv_pop hx hb dX2_begin_22 rfl ?_
    refine lv_goto (tgt := 86) hx hb dX2_begin_23 (by decide) ?_
    exact mr_vret C hM45 hr hlk h44 dX2_begin_86
def w_X2_cutOffHead  (σ0 : mS) (Q : mS → Prop) : Prop := (∀ r1, r1 = mR σ0 0 5 → (∃ I5 : Nat → Option Nat → mS → Prop, (∀ (n5 : Nat) (r1_5 : Option Nat) (σ_5 : mS), I5 n5 r1_5 σ_5 → (∃ J24 : Option Nat → mS → Prop, (∀ (r1_24 : Option Nat) (σ_24 : mS), J24 r1_24 σ_24 → (∀ σ4, σ4 = sR σ_24 0 5 r1_24 → ((r1_24 = none → (∀ σ7, σ7 = sR σ4 0 6 none → (Q σ7))) ∧ (∀ i5, r1_24 = some i5 → (mO kdC 0 i5 σ4 ∧ (∀ σ10, σ10 = sR σ4 i5 7 none → (Q σ10))))))) ∧ ((r1_5 = none → (J24 none σ_5)) ∧ (∀ i11, r1_5 = some i11 → (mO kdC 0 i11 σ_5 ∧ w_X0_isOver i11 σ_5 (fun x16 σ13 => ((x16 = 0 → (J24 (some i11) σ13)) ∧ (¬ x16 = 0 → (mO kdC 0 i11 σ13 ∧ (∀ r19, r19 = mR σ13 i11 8 → (∃ k21, k21 < n5 ∧ I5 k21 r19 σ13))))))))))) ∧ ∃ n, I5 n r1 σ0))
set_option maxRecDepth 100000 in
set_option maxHeartbeats 4000000 in
theorem c_X2_cutOffHead (l : Launch) (G : mG) (ad : Nat → Nat)  (σ0 : mS) (Q : mS → Prop) (h : w_X2_cutOffHead  σ0 Q) : mKv l yX2_cutOffHead cX2_cutOffHead 2 1 20 G kdC ad σ0 [mV ad (some 0)] Q := by
  refine mr_start (lst := [(0, mV ad (some 0))]) (by decide) (m_cR m_c0) rfl (Nat.le_of_ble_eq_true rfl) (fun p e s m below meth c C hM hr hlk ls hl => ?_)
  have hx := C.1.1
  have hb := C.1.2.1
  unfold w_X2_cutOffHead at h
  refine mr_aload_n C dX2_cutOffHead_0 rfl (ml_at hl 0 rfl) ?_
  refine fg_X2_155 C hM (mO_fix hM rfl (by decide) (by decide) (by decide)) dX2_cutOffHead_1 (fun r1 er1 => ?_)
  replace h := h r1 er1
  refine mr_astore_n (lv' := [(1, mV ad r1), (0, mV ad (some 0))]) C hl dX2_cutOffHead_4 rfl (by decide) rfl (fun ls hl2 => ?_)
  clear hl
  obtain ⟨I5, hI5, nn5, h⟩ := h
  have hL5 : ∀ (n5 : Nat) (r1_5 : Option Nat) (σ_5 : mS) (H : Heap) (locs : List Loc) (ls : Array Slot), I5 n5 r1_5 σ_5 → mM G kdC ad s σ_5 H locs → ml_has ls 2 [(0, mV ad (some 0)), (1, mV ad r1_5)] → W p l e (mRm 1 20) s m ([mV ad (some 0)] : List Value).toArray below meth c H locs 0 0 (MQ below (va_Qv Q (mPost G kdC ad) (mA ad)) ([mV ad (some 0)] : List Value).toArray s 0 0 (mA ad)) (F0 m 5 ls []) := by
    refine m_loop (fun n5 ih5 => ?_)
    intro r1_5 σ_5 H locs ls h_5 hM_5 hl_5
    replace h_5 := hI5 n5 r1_5 σ_5 h_5
    refine mr_aload_n C dX2_cutOffHead_5 rfl (ml_at hl_5 1 rfl) ?_
    obtain ⟨J24, hJ24, h_5⟩ := h_5
    have hj24 : ∀ (r1_24 : Option Nat) (σ_24 : mS) (H : Heap) (locs : List Loc) (ls : Array Slot), J24 r1_24 σ_24 → mM G kdC ad s σ_24 H locs → ml_has ls 2 [(0, mV ad (some 0)), (1, mV ad r1_24)] → W p l e (mRm 1 20) s m ([mV ad (some 0)] : List Value).toArray below meth c H locs 0 0 (MQ below (va_Qv Q (mPost G kdC ad) (mA ad)) ([mV ad (some 0)] : List Value).toArray s 0 0 (mA ad)) (F0 m 24 ls []) := by
      intro r1_24 σ_24 H locs ls h_24 hM_24 hl_24
      replace h_24 := hJ24 r1_24 σ_24 h_24
      refine mr_aload_n C dX2_cutOffHead_24 rfl (ml_at hl_24 0 rfl) ?_
      refine mr_aload_n C dX2_cutOffHead_25 rfl (ml_at hl_24 1 rfl) ?_
      refine fp_X2_155 C hM_24 (mO_fix hM_24 rfl (by decide) (by decide) (by decide)) dX2_cutOffHead_26 r1_24 (fun H locs hM3 => ?_)
      clear hM_24
      obtain ⟨σ4, eσ4⟩ : ∃ y, y = sR σ_24 0 5 r1_24 := ⟨_, rfl⟩
      rw [← eσ4] at hM3
      replace h_24 := h_24 σ4 eσ4
      refine mr_aload_n C dX2_cutOffHead_29 rfl (ml_at hl_24 1 rfl) ?_
      refine mr_ifnonnull (tgt := 41) C dX2_cutOffHead_30 (by decide) (fun i5 hc => ?_) (fun hc => ?_)
      · replace h_24 := h_24.2 i5 hc
        subst hc
        refine mr_aload_n C dX2_cutOffHead_41 rfl (ml_at hl_24 1 rfl) ?_
        refine mr_null C ad dX2_cutOffHead_42 ?_
        obtain ⟨ho8, h_24⟩ := h_24
        refine fp_X2_190 C hM3 ho8 dX2_cutOffHead_43 none (fun H locs hM9 => ?_)
        clear hM3
        obtain ⟨σ10, eσ10⟩ : ∃ y, y = sR σ4 i5 7 none := ⟨_, rfl⟩
        rw [← eσ10] at hM9
        replace h_24 := h_24 σ10 eσ10
        exact mr_vret C hM9 hr hlk h_24 dX2_cutOffHead_46
      · replace h_24 := h_24.1 hc
        subst hc
        refine mr_aload_n C dX2_cutOffHead_33 rfl (ml_at hl_24 0 rfl) ?_
        refine mr_null C ad dX2_cutOffHead_34 ?_
        refine fp_X2_187 C hM3 (mO_fix hM3 rfl (by decide) (by decide) (by decide)) dX2_cutOffHead_35 none (fun H locs hM6 => ?_)
        clear hM3
        obtain ⟨σ7, eσ7⟩ : ∃ y, y = sR σ4 0 6 none := ⟨_, rfl⟩
        rw [← eσ7] at hM6
        replace h_24 := h_24 σ7 eσ7
        refine lv_goto (tgt := 46) hx hb dX2_cutOffHead_38 (by decide) ?_
        exact mr_vret C hM6 hr hlk h_24 dX2_cutOffHead_46
    refine mr_ifnull (tgt := 24) C dX2_cutOffHead_6 (by decide) (fun hc => ?_) (fun i11 hc => ?_)
    · replace h_5 := h_5.1 hc
      subst hc
      exact hj24 none σ_5 _ _ _ h_5 hM_5 (ml_sub hl_5 [0, 1] rfl)
    · replace h_5 := h_5.2 i11 hc
      subst hc
      refine mr_aload_n C dX2_cutOffHead_9 rfl (ml_at hl_5 1 rfl) ?_
      obtain ⟨ho12, h_5⟩ := h_5
      refine mr_ci hM_5 (mr_runV (As := []) C hM_5 hl_5.1.1 (c_X0_isOver l G ad i11 σ_5 _ h_5) cw_X2_94 ho12 rfl rfl (n := 0) ⟨rfl, by decide, by decide, by decide +kernel⟩ rfl rfl ⟨Nat.le_of_ble_eq_true rfl, Nat.le_of_ble_eq_true rfl⟩ m_c0 (Nat.le_of_ble_eq_true rfl) dX2_cutOffHead_10 ⟨Nat.zero_le _, Nat.zero_le _⟩) (fun x16 σ13 H locs h14 hM15 => ?_)
      clear h_5 hM_5
      obtain ⟨h14, hzx16⟩ := h14
      refine lv_if_eq (tgt := 24) hx hb dX2_cutOffHead_13 (by decide) (fun hc17 => ?_) (fun hc17 => ?_)
      · replace h14 := h14.1 hc17
        exact hj24 (some i11) σ13 _ _ _ h14 hM15 (ml_sub hl_5 [0, 1] rfl)
      · replace h14 := h14.2 hc17
        refine mr_aload_n C dX2_cutOffHead_16 rfl (ml_at hl_5 1 rfl) ?_
        obtain ⟨ho18, h14⟩ := h14
        refine fg_X2_148 C hM15 ho18 dX2_cutOffHead_17 (fun r19 er19 => ?_)
        replace h14 := h14 r19 er19
        refine mr_astore_n (lv' := [(1, mV ad r19), (0, mV ad (some 0))]) C hl_5 dX2_cutOffHead_20 rfl (by decide) rfl (fun ls hl20 => ?_)
        clear hl_5
        refine lv_goto (tgt := 5) hx hb dX2_cutOffHead_21 (by decide) ?_
        obtain ⟨k21, hk21, h14⟩ := h14
        exact ih5 k21 hk21 r19 σ13 _ _ _ h14 hM15 (ml_sub hl20 [1, 0] rfl)
  exact hL5 nn5 r1 σ0 _ _ _ h hM (ml_sub hl2 [1, 0] rfl)
def w_X1_noteTrouble (i0 : Nat) (y1 : Int32) (σ0 : mS) (Q : mS → Prop) : Prop := (kdC i0 = (0, 1) ∧ (∀ σ3, σ3 = sI σ0 i0 8 ((mI σ0 i0 8) + (1 : Int32)) → (((mI σ3 i0 8) < (3 : Int32) → (Q σ3)) ∧ (¬ (mI σ3 i0 8) < (3 : Int32) → (∀ σ6, σ6 = sI σ3 i0 8 (0 : Int32) → (∀ σ8, σ8 = sI σ6 i0 9 (y1 + (20 : Int32)) → (Q σ8)))))))
set_option maxRecDepth 100000 in
set_option maxHeartbeats 4000000 in
theorem c_X1_noteTrouble (l : Launch) (G : mG) (ad : Nat → Nat) (i0 : Nat) (y1 : Int32) (σ0 : mS) (Q : mS → Prop) (h : w_X1_noteTrouble i0 y1 σ0 Q) : mKv l yX1_noteTrouble cX1_noteTrouble 2 0 0 G kdC ad σ0 [mV ad (some i0), .int y1] Q := by
  refine mr_start (lst := [(0, mV ad (some i0)), (1, .int y1)]) (by decide) (m_cR (m_cI m_c0)) rfl (Nat.le_of_ble_eq_true rfl) (fun p e s m below meth c C hM hr hlk ls hl => ?_)
  have hx := C.1.1
  have hb := C.1.2.1
  unfold w_X1_noteTrouble at h
  refine mr_aload_n C dX1_noteTrouble_0 rfl (ml_at hl 0 rfl) ?_
  refine lv_dup hx hb dX1_noteTrouble_1 (mV_cat _ _) ?_
  obtain ⟨hk1, h⟩ := h
  refine fg_X1_54 C hM (mO_sv hM hk1) dX1_noteTrouble_2 ?_
  refine lv_iconst (v := 1) hx hb dX1_noteTrouble_5 (by decide) ?_
  refine lv_iadd hx hb dX1_noteTrouble_6 ?_
  refine fp_X1_54 C hM (mO_sv hM hk1) dX1_noteTrouble_7 ((mI σ0 i0 8) + (1 : Int32)) (fun H locs hM2 => ?_)
  clear hM
  obtain ⟨σ3, eσ3⟩ : ∃ y, y = sI σ0 i0 8 ((mI σ0 i0 8) + (1 : Int32)) := ⟨_, rfl⟩
  rw [← eσ3] at hM2
  replace h := h σ3 eσ3
  refine mr_aload_n C dX1_noteTrouble_10 rfl (ml_at hl 0 rfl) ?_
  refine fg_X1_54 C hM2 (mO_sv hM2 hk1) dX1_noteTrouble_11 ?_
  refine lv_iconst (v := 3) hx hb dX1_noteTrouble_14 (by decide) ?_
  refine lv_icmp_lt (tgt := 31) hx hb dX1_noteTrouble_15 (by decide) (fun hc4 => ?_) (fun hc4 => ?_)
  · replace h := h.1 hc4
    exact mr_vret C hM2 hr hlk h dX1_noteTrouble_31
  · replace h := h.2 hc4
    refine mr_aload_n C dX1_noteTrouble_18 rfl (ml_at hl 0 rfl) ?_
    refine lv_iconst (v := 0) hx hb dX1_noteTrouble_19 (by decide) ?_
    refine fp_X1_54 C hM2 (mO_sv hM2 hk1) dX1_noteTrouble_20 (0 : Int32) (fun H locs hM5 => ?_)
    clear hM2
    obtain ⟨σ6, eσ6⟩ : ∃ y, y = sI σ3 i0 8 (0 : Int32) := ⟨_, rfl⟩
    rw [← eσ6] at hM5
    replace h := h σ6 eσ6
    refine mr_aload_n C dX1_noteTrouble_23 rfl (ml_at hl 0 rfl) ?_
    refine lv_iload_n hx hb dX1_noteTrouble_24 rfl (ml_at hl 1 rfl) ?_
    refine lv_bipush (v := 20) hx hb dX1_noteTrouble_25 (by decide) ?_
    refine lv_iadd hx hb dX1_noteTrouble_27 ?_
    refine fp_X1_42 C hM5 (mO_sv hM5 hk1) dX1_noteTrouble_28 (y1 + (20 : Int32)) (fun H locs hM7 => ?_)
    clear hM5
    obtain ⟨σ8, eσ8⟩ : ∃ y, y = sI σ6 i0 9 (y1 + (20 : Int32)) := ⟨_, rfl⟩
    rw [← eσ8] at hM7
    replace h := h σ8 eσ8
    exact mr_vret C hM7 hr hlk h dX1_noteTrouble_31
def w_X2_endLate  (σ0 : mS) (Q : mS → Prop) : Prop := (∀ r1, r1 = mR σ0 0 5 → (∃ I5 : Nat → Option Nat → mS → Prop, (∀ (n5 : Nat) (r1_5 : Option Nat) (σ_5 : mS), I5 n5 r1_5 σ_5 → ((r1_5 = none → (Q σ_5)) ∧ (∀ i3, r1_5 = some i3 → (mO kdC 0 i3 σ_5 ∧ w_X0_isOver i3 σ_5 (fun x8 σ5 => ((¬ x8 = 0 → (mO kdC 0 i3 σ5 ∧ (∀ r11, r11 = mR σ5 i3 8 → (∃ k13, k13 < n5 ∧ I5 k13 r11 σ5)))) ∧ (x8 = 0 → (mO kdC 0 i3 σ5 ∧ (((mI σ5 0 3) < (mI σ5 i3 3) → (∀ r16, r16 = mR σ5 i3 8 → (∃ k18, k18 < n5 ∧ I5 k18 r16 σ5))) ∧ (¬ (mI σ5 0 3) < (mI σ5 i3 3) → w_X2_finish (some i3) (5 : Int32) σ5 (fun x22 σ19 => (mO kdC 0 i3 σ19 ∧ (∀ r24, r24 = mR σ19 i3 1 → (∃ i25, r24 = some i25 ∧ (kdC i25 = (0, 1) ∧ w_X1_noteTrouble i25 (mI σ19 0 3) σ19 (fun σ27 => (mO kdC 0 i3 σ27 ∧ (∀ r31, r31 = mR σ27 i3 8 → (∃ k33, k33 < n5 ∧ I5 k33 r31 σ27))))))))))))))))))) ∧ ∃ n, I5 n r1 σ0))
set_option maxRecDepth 100000 in
set_option maxHeartbeats 4000000 in
theorem c_X2_endLate (l : Launch) (G : mG) (ad : Nat → Nat)  (σ0 : mS) (Q : mS → Prop) (h : w_X2_endLate  σ0 Q) : mKv l yX2_endLate cX2_endLate 2 3 68 G kdC ad σ0 [mV ad (some 0)] Q := by
  refine mr_start (lst := [(0, mV ad (some 0))]) (by decide) (m_cR m_c0) rfl (Nat.le_of_ble_eq_true rfl) (fun p e s m below meth c C hM hr hlk ls hl => ?_)
  have hx := C.1.1
  have hb := C.1.2.1
  unfold w_X2_endLate at h
  refine mr_aload_n C dX2_endLate_0 rfl (ml_at hl 0 rfl) ?_
  refine fg_X2_155 C hM (mO_fix hM rfl (by decide) (by decide) (by decide)) dX2_endLate_1 (fun r1 er1 => ?_)
  replace h := h r1 er1
  refine mr_astore_n (lv' := [(1, mV ad r1), (0, mV ad (some 0))]) C hl dX2_endLate_4 rfl (by decide) rfl (fun ls hl2 => ?_)
  clear hl
  obtain ⟨I5, hI5, nn5, h⟩ := h
  have hL5 : ∀ (n5 : Nat) (r1_5 : Option Nat) (σ_5 : mS) (H : Heap) (locs : List Loc) (ls : Array Slot), I5 n5 r1_5 σ_5 → mM G kdC ad s σ_5 H locs → ml_has ls 2 [(0, mV ad (some 0)), (1, mV ad r1_5)] → W p l e (mRm 3 68) s m ([mV ad (some 0)] : List Value).toArray below meth c H locs 0 0 (MQ below (va_Qv Q (mPost G kdC ad) (mA ad)) ([mV ad (some 0)] : List Value).toArray s 0 0 (mA ad)) (F0 m 5 ls []) := by
    refine m_loop (fun n5 ih5 => ?_)
    intro r1_5 σ_5 H locs ls h_5 hM_5 hl_5
    replace h_5 := hI5 n5 r1_5 σ_5 h_5
    refine mr_aload_n C dX2_endLate_5 rfl (ml_at hl_5 1 rfl) ?_
    refine mr_ifnull (tgt := 53) C dX2_endLate_6 (by decide) (fun hc => ?_) (fun i3 hc => ?_)
    · replace h_5 := h_5.1 hc
      subst hc
      exact mr_vret C hM_5 hr hlk h_5 dX2_endLate_53
    · replace h_5 := h_5.2 i3 hc
      subst hc
      refine mr_aload_n C dX2_endLate_9 rfl (ml_at hl_5 1 rfl) ?_
      obtain ⟨ho4, h_5⟩ := h_5
      refine mr_ci hM_5 (mr_runV (As := []) C hM_5 hl_5.1.1 (c_X0_isOver l G ad i3 σ_5 _ h_5) cw_X2_94 ho4 rfl rfl (n := 0) ⟨rfl, by decide, by decide, by decide +kernel⟩ rfl rfl ⟨Nat.le_of_ble_eq_true rfl, Nat.le_of_ble_eq_true rfl⟩ m_c0 (Nat.le_of_ble_eq_true rfl) dX2_endLate_10 ⟨Nat.zero_le _, Nat.zero_le _⟩) (fun x8 σ5 H locs h6 hM7 => ?_)
      clear h_5 hM_5
      obtain ⟨h6, hzx8⟩ := h6
      refine lv_if_ne (tgt := 45) hx hb dX2_endLate_13 (by decide) (fun hc9 => ?_) (fun hc9 => ?_)
      · replace h6 := h6.1 hc9
        refine mr_aload_n C dX2_endLate_45 rfl (ml_at hl_5 1 rfl) ?_
        obtain ⟨ho10, h6⟩ := h6
        refine fg_X2_148 C hM7 ho10 dX2_endLate_46 (fun r11 er11 => ?_)
        replace h6 := h6 r11 er11
        refine mr_astore_n (lv' := [(1, mV ad r11), (0, mV ad (some 0))]) C hl_5 dX2_endLate_49 rfl (by decide) rfl (fun ls hl12 => ?_)
        clear hl_5
        refine lv_goto (tgt := 5) hx hb dX2_endLate_50 (by decide) ?_
        obtain ⟨k13, hk13, h6⟩ := h6
        exact ih5 k13 hk13 r11 σ5 _ _ _ h6 hM7 (ml_sub hl12 [1, 0] rfl)
      · replace h6 := h6.2 hc9
        refine mr_aload_n C dX2_endLate_16 rfl (ml_at hl_5 1 rfl) ?_
        obtain ⟨ho14, h6⟩ := h6
        refine fg_X2_139 C hM7 ho14 dX2_endLate_17 ?_
        refine mr_aload_n C dX2_endLate_20 rfl (ml_at hl_5 0 rfl) ?_
        refine fg_X2_76 C hM7 (mO_fix hM7 rfl (by decide) (by decide) (by decide)) dX2_endLate_21 ?_
        refine lv_icmp_gt (tgt := 45) hx hb dX2_endLate_24 (by decide) (fun hc15 => ?_) (fun hc15 => ?_)
        · replace h6 := h6.1 hc15
          refine mr_aload_n C dX2_endLate_45 rfl (ml_at hl_5 1 rfl) ?_
          refine fg_X2_148 C hM7 ho14 dX2_endLate_46 (fun r16 er16 => ?_)
          replace h6 := h6 r16 er16
          refine mr_astore_n (lv' := [(1, mV ad r16), (0, mV ad (some 0))]) C hl_5 dX2_endLate_49 rfl (by decide) rfl (fun ls hl17 => ?_)
          clear hl_5
          refine lv_goto (tgt := 5) hx hb dX2_endLate_50 (by decide) ?_
          obtain ⟨k18, hk18, h6⟩ := h6
          exact ih5 k18 hk18 r16 σ5 _ _ _ h6 hM7 (ml_sub hl17 [1, 0] rfl)
        · replace h6 := h6.2 hc15
          refine mr_aload_n C dX2_endLate_27 rfl (ml_at hl_5 0 rfl) ?_
          refine mr_aload_n C dX2_endLate_28 rfl (ml_at hl_5 1 rfl) ?_
          refine lv_iconst (v := 5) hx hb dX2_endLate_29 (by decide) ?_
          refine mr_ci hM7 (mr_runV (As := [mV ad (some i3), .int (5 : Int32)]) C hM7 hl_5.1.1 (c_X2_finish l G ad (some i3) (5 : Int32) σ5 _ h6) cw_X2_103 (mO_fix hM7 rfl (by decide) (by decide) (by decide)) rfl rfl (n := 2) ⟨rfl, by decide, by decide, by decide +kernel⟩ rfl rfl ⟨Nat.le_of_ble_eq_true rfl, Nat.le_of_ble_eq_true rfl⟩ m_c0 (Nat.le_of_ble_eq_true rfl) dX2_endLate_30 ⟨Nat.zero_le _, Nat.zero_le _⟩) (fun x22 σ19 H locs h20 hM21 => ?_)
          clear h6 hM7
          refine lv_pop hx hb dX2_endLate_33 rfl ?_
          refine mr_aload_n C dX2_endLate_34 rfl (ml_at hl_5 1 rfl) ?_
          obtain ⟨ho23, h20⟩ := h20
          refine fg_X2_134 C hM21 ho23 dX2_endLate_35 (fun r24 er24 => ?_)
          replace h20 := h20 r24 er24
          refine mr_aload_n C dX2_endLate_38 rfl (ml_at hl_5 0 rfl) ?_
          refine fg_X2_76 C hM21 (mO_fix hM21 rfl (by decide) (by decide) (by decide)) dX2_endLate_39 ?_
          obtain ⟨i25, rfl, h20⟩ := h20
          obtain ⟨hk26, h20⟩ := h20
          refine mr_cv hM21 (mr_runV (As := [.int (mI σ19 0 3)]) C hM21 hl_5.1.1 (c_X1_noteTrouble l G ad i25 (mI σ19 0 3) σ19 _ h20) cw_X2_221 (mO_sv hM21 hk26) rfl rfl (n := 1) ⟨rfl, by decide, by decide, by decide +kernel⟩ rfl rfl ⟨Nat.le_of_ble_eq_true rfl, Nat.le_of_ble_eq_true rfl⟩ m_c0 (Nat.le_of_ble_eq_true rfl) dX2_endLate_42 ⟨Nat.zero_le _, Nat.zero_le _⟩) (fun σ27 H locs h28 hM29 => ?_)
          clear h20 hM21
          refine mr_aload_n C dX2_endLate_45 rfl (ml_at hl_5 1 rfl) ?_
          obtain ⟨ho30, h28⟩ := h28
          refine fg_X2_148 C hM29 ho30 dX2_endLate_46 (fun r31 er31 => ?_)
          replace h28 := h28 r31 er31
          refine mr_astore_n (lv' := [(1, mV ad r31), (0, mV ad (some 0))]) C hl_5 dX2_endLate_49 rfl (by decide) rfl (fun ls hl32 => ?_)
          clear hl_5
          refine lv_goto (tgt := 5) hx hb dX2_endLate_50 (by decide) ?_
          obtain ⟨k33, hk33, h28⟩ := h28
          exact ih5 k33 hk33 r31 σ27 _ _ _ h28 hM29 (ml_sub hl32 [1, 0] rfl)
  exact hL5 nn5 r1 σ0 _ _ _ h hM (ml_sub hl2 [1, 0] rfl)
def w_X1_failsNextWork (i0 : Nat) (σ0 : mS) (Q : Int32 → mS → Prop) : Prop := (kdC i0 = (0, 1) ∧ (∀ σ3, σ3 = sI σ0 i0 3 ((mI σ0 i0 3) + (1 : Int32)) → (((mI σ3 i0 2) ≤ 0 → (Q (0 : Int32) σ3)) ∧ (¬ (mI σ3 i0 2) ≤ 0 → (¬ (mI σ3 i0 2) = 0 ∧ ((¬ ((mI σ3 i0 3) - (mI σ3 i0 3) / (mI σ3 i0 2) * (mI σ3 i0 2)) = 0 → (Q (0 : Int32) σ3)) ∧ (((mI σ3 i0 3) - (mI σ3 i0 3) / (mI σ3 i0 2) * (mI σ3 i0 2)) = 0 → (Q (1 : Int32) σ3))))))))
set_option maxRecDepth 100000 in
set_option maxHeartbeats 4000000 in
theorem c_X1_failsNextWork (l : Launch) (G : mG) (ad : Nat → Nat) (i0 : Nat) (σ0 : mS) (Q : Int32 → mS → Prop) (h : w_X1_failsNextWork i0 σ0 Q) : mKz l yX1_failsNextWork cX1_failsNextWork 1 0 0 G kdC ad σ0 [mV ad (some i0)] Q := by
  refine mr_start (lst := [(0, mV ad (some i0))]) (by decide) (m_cR m_c0) rfl (Nat.le_of_ble_eq_true rfl) (fun p e s m below meth c C hM hr hlk ls hl => ?_)
  have hx := C.1.1
  have hb := C.1.2.1
  unfold w_X1_failsNextWork at h
  refine mr_aload_n C dX1_failsNextWork_0 rfl (ml_at hl 0 rfl) ?_
  refine lv_dup hx hb dX1_failsNextWork_1 (mV_cat _ _) ?_
  obtain ⟨hk1, h⟩ := h
  refine fg_X1_45 C hM (mO_sv hM hk1) dX1_failsNextWork_2 ?_
  refine lv_iconst (v := 1) hx hb dX1_failsNextWork_5 (by decide) ?_
  refine lv_iadd hx hb dX1_failsNextWork_6 ?_
  refine fp_X1_45 C hM (mO_sv hM hk1) dX1_failsNextWork_7 ((mI σ0 i0 3) + (1 : Int32)) (fun H locs hM2 => ?_)
  clear hM
  obtain ⟨σ3, eσ3⟩ : ∃ y, y = sI σ0 i0 3 ((mI σ0 i0 3) + (1 : Int32)) := ⟨_, rfl⟩
  rw [← eσ3] at hM2
  replace h := h σ3 eσ3
  refine mr_aload_n C dX1_failsNextWork_10 rfl (ml_at hl 0 rfl) ?_
  refine fg_X1_48 C hM2 (mO_sv hM2 hk1) dX1_failsNextWork_11 ?_
  refine lv_if_le (tgt := 33) hx hb dX1_failsNextWork_14 (by decide) (fun hc4 => ?_) (fun hc4 => ?_)
  · replace h := h.1 hc4
    refine lv_iconst (v := 0) hx hb dX1_failsNextWork_33 (by decide) ?_
    exact mr_zret C hM2 hr hlk rfl h dX1_failsNextWork_34
  · replace h := h.2 hc4
    refine mr_aload_n C dX1_failsNextWork_17 rfl (ml_at hl 0 rfl) ?_
    refine fg_X1_45 C hM2 (mO_sv hM2 hk1) dX1_failsNextWork_18 ?_
    refine mr_aload_n C dX1_failsNextWork_21 rfl (ml_at hl 0 rfl) ?_
    refine fg_X1_48 C hM2 (mO_sv hM2 hk1) dX1_failsNextWork_22 ?_
    obtain ⟨hz5, h⟩ := h
    refine lv_irem hx hb dX1_failsNextWork_25 hz5 ?_
    refine lv_if_ne (tgt := 33) hx hb dX1_failsNextWork_26 (by decide) (fun hc6 => ?_) (fun hc6 => ?_)
    · replace h := h.1 hc6
      refine lv_iconst (v := 0) hx hb dX1_failsNextWork_33 (by decide) ?_
      exact mr_zret C hM2 hr hlk rfl h dX1_failsNextWork_34
    · replace h := h.2 hc6
      refine lv_iconst (v := 1) hx hb dX1_failsNextWork_29 (by decide) ?_
      refine lv_goto (tgt := 34) hx hb dX1_failsNextWork_30 (by decide) ?_
      exact mr_zret C hM2 hr hlk rfl h dX1_failsNextWork_34
def w_X0_rowAt (i0 : Nat) (y1 : Int32) (σ0 : mS) (Q : Option Nat → mS → Prop) : Prop := (mO kdC 0 i0 σ0 ∧ (∀ r2, r2 = mR σ0 i0 1 → (∃ i3, r2 = some i3 ∧ (kdC i3 = (0, 1) ∧ ((y1 < 0 → (Q none σ0)) ∧ (¬ y1 < 0 → (((mI σ0 i0 9) ≤ y1 → (Q none σ0)) ∧ (¬ (mI σ0 i0 9) ≤ y1 → (((3 : Int32) ≤ y1 → (Q none σ0)) ∧ (¬ (3 : Int32) ≤ y1 → (∃ j9, y1 = nI j9 ∧ (j9 < 3 ∧ (∀ r11, r11 = mR σ0 (i3 + 1) j9 → (Q r11 σ0))))))))))))))
set_option maxRecDepth 100000 in
set_option maxHeartbeats 4000000 in
theorem c_X0_rowAt (l : Launch) (G : mG) (ad : Nat → Nat) (i0 : Nat) (y1 : Int32) (σ0 : mS) (Q : Option Nat → mS → Prop) (h : w_X0_rowAt i0 y1 σ0 Q) : mKq l yX0_rowAt cX0_rowAt 3 "DeadlineCalls$Service" 0 0 G kdC ad σ0 [mV ad (some i0), .int y1] Q := by
  refine mr_start (lst := [(0, mV ad (some i0)), (1, .int y1)]) (by decide) (m_cR (m_cI m_c0)) rfl (Nat.le_of_ble_eq_true rfl) (fun p e s m below meth c C hM hr hlk ls hl => ?_)
  have hx := C.1.1
  have hb := C.1.2.1
  unfold w_X0_rowAt at h
  refine mr_aload_n C dX0_rowAt_0 rfl (ml_at hl 0 rfl) ?_
  obtain ⟨ho1, h⟩ := h
  refine fg_X0_21 C hM ho1 dX0_rowAt_1 (fun r2 er2 => ?_)
  replace h := h r2 er2
  obtain ⟨i3, rfl, h⟩ := h
  obtain ⟨hk4, h⟩ := h
  refine fg_X0_41 (i := i3) C hM (mO_sv hM hk4) dX0_rowAt_4 ?_
  refine mr_astore_n (lv' := [(2, mV ad (some (i3 + 1))), (0, mV ad (some i0)), (1, .int y1)]) C hl dX0_rowAt_7 rfl (by decide) rfl (fun ls hl5 => ?_)
  clear hl
  refine lv_iload_n hx hb dX0_rowAt_8 rfl (ml_at hl5 2 rfl) ?_
  refine lv_if_lt (tgt := 32) hx hb dX0_rowAt_9 (by decide) (fun hc6 => ?_) (fun hc6 => ?_)
  · replace h := h.1 hc6
    refine mr_null C ad dX0_rowAt_32 ?_
    exact mr_aret C hM hr hlk h dX0_rowAt_33
  · replace h := h.2 hc6
    refine lv_iload_n hx hb dX0_rowAt_12 rfl (ml_at hl5 2 rfl) ?_
    refine mr_aload_n C dX0_rowAt_13 rfl (ml_at hl5 1 rfl) ?_
    refine fg_X0_45 C hM ho1 dX0_rowAt_14 ?_
    refine lv_icmp_ge (tgt := 32) hx hb dX0_rowAt_17 (by decide) (fun hc7 => ?_) (fun hc7 => ?_)
    · replace h := h.1 hc7
      refine mr_null C ad dX0_rowAt_32 ?_
      exact mr_aret C hM hr hlk h dX0_rowAt_33
    · replace h := h.2 hc7
      refine lv_iload_n hx hb dX0_rowAt_20 rfl (ml_at hl5 2 rfl) ?_
      refine mr_aload_n C dX0_rowAt_21 rfl (ml_at hl5 0 rfl) ?_
      refine mr_alen (v := 3) C hM (mB_row hM hk4) (by decide) (by decide) rfl dX0_rowAt_22 ?_
      refine lv_icmp_ge (tgt := 32) hx hb dX0_rowAt_23 (by decide) (fun hc8 => ?_) (fun hc8 => ?_)
      · replace h := h.1 hc8
        refine mr_null C ad dX0_rowAt_32 ?_
        exact mr_aret C hM hr hlk h dX0_rowAt_33
      · replace h := h.2 hc8
        refine mr_aload_n C dX0_rowAt_26 rfl (ml_at hl5 0 rfl) ?_
        refine lv_iload_n hx hb dX0_rowAt_27 rfl (ml_at hl5 2 rfl) ?_
        obtain ⟨j9, ej10, ej10b, h⟩ := h
        refine mr_sld C hM (mB_row hM hk4) ej10 ej10b (by decide) dX0_rowAt_28 (fun r11 er11 => ?_)
        replace h := h r11 er11
        refine lv_goto (tgt := 33) hx hb dX0_rowAt_29 (by decide) ?_
        exact mr_aret C hM hr hlk h dX0_rowAt_33
def w_X0_askNow (i0 : Nat) (a1 : Option Nat) (y2 : Int32) (σ0 : mS) (Q : mS → Prop) : Prop := (mO kdC 0 i0 σ0 ∧ w_X0_become i0 (2 : Int32) σ0 (fun σ2 => (mO kdC 0 i0 σ2 ∧ (∀ σ7, σ7 = sR σ2 i0 11 a1 → (∀ σ9, σ9 = sI σ7 i0 10 y2 → (∀ σ11, σ11 = sI σ9 i0 12 (1 : Int32) → (∀ σ13, σ13 = sI σ11 i0 13 (0 : Int32) → (∀ σ15, σ15 = sI σ13 i0 14 (0 : Int32) → (∀ σ17, σ17 = sI σ15 i0 16 (0 : Int32) → (Q σ17))))))))))
set_option maxRecDepth 100000 in
set_option maxHeartbeats 4000000 in
theorem c_X0_askNow (l : Launch) (G : mG) (ad : Nat → Nat) (i0 : Nat) (a1 : Option Nat) (y2 : Int32) (σ0 : mS) (Q : mS → Prop) (h : w_X0_askNow i0 a1 y2 σ0 Q) : mKv l yX0_askNow cX0_askNow 3 1 22 G kdC ad σ0 [mV ad (some i0), mV ad a1, .int y2] Q := by
  refine mr_start (lst := [(0, mV ad (some i0)), (1, mV ad a1), (2, .int y2)]) (by decide) (m_cR (m_cR (m_cI m_c0))) rfl (Nat.le_of_ble_eq_true rfl) (fun p e s m below meth c C hM hr hlk ls hl => ?_)
  have hx := C.1.1
  have hb := C.1.2.1
  unfold w_X0_askNow at h
  refine mr_aload_n C dX0_askNow_0 rfl (ml_at hl 0 rfl) ?_
  refine lv_iconst (v := 2) hx hb dX0_askNow_1 (by decide) ?_
  obtain ⟨ho1, h⟩ := h
  refine mr_cv hM (mr_runV (As := [.int (2 : Int32)]) C hM hl.1.1 (c_X0_become l G ad i0 (2 : Int32) σ0 _ h) cw_X0_48 ho1 rfl rfl (n := 1) ⟨rfl, by decide, by decide, by decide +kernel⟩ rfl rfl ⟨Nat.le_of_ble_eq_true rfl, Nat.le_of_ble_eq_true rfl⟩ m_c0 (Nat.le_of_ble_eq_true rfl) dX0_askNow_2 ⟨Nat.zero_le _, Nat.zero_le _⟩) (fun σ2 H locs h3 hM4 => ?_)
  clear h hM
  refine mr_aload_n C dX0_askNow_5 rfl (ml_at hl 0 rfl) ?_
  refine mr_aload_n C dX0_askNow_6 rfl (ml_at hl 1 rfl) ?_
  obtain ⟨ho5, h3⟩ := h3
  refine fp_X0_52 C hM4 ho5 dX0_askNow_7 a1 (fun H locs hM6 => ?_)
  clear hM4
  obtain ⟨σ7, eσ7⟩ : ∃ y, y = sR σ2 i0 11 a1 := ⟨_, rfl⟩
  rw [← eσ7] at hM6
  replace h3 := h3 σ7 eσ7
  refine mr_aload_n C dX0_askNow_10 rfl (ml_at hl 0 rfl) ?_
  refine lv_iload_n hx hb dX0_askNow_11 rfl (ml_at hl 2 rfl) ?_
  refine fp_X0_55 C hM6 (mO_R eσ7 ho5) dX0_askNow_12 y2 (fun H locs hM8 => ?_)
  clear hM6
  obtain ⟨σ9, eσ9⟩ : ∃ y, y = sI σ7 i0 10 y2 := ⟨_, rfl⟩
  rw [← eσ9] at hM8
  replace h3 := h3 σ9 eσ9
  refine mr_aload_n C dX0_askNow_15 rfl (ml_at hl 0 rfl) ?_
  refine lv_iconst (v := 1) hx hb dX0_askNow_16 (by decide) ?_
  refine fp_X0_58 C hM8 (mO_I eσ9 (mO_R eσ7 ho5)) dX0_askNow_17 (1 : Int32) (rfl) (fun H locs hM10 => ?_)
  clear hM8
  obtain ⟨σ11, eσ11⟩ : ∃ y, y = sI σ9 i0 12 (1 : Int32) := ⟨_, rfl⟩
  rw [← eσ11] at hM10
  replace h3 := h3 σ11 eσ11
  refine mr_aload_n C dX0_askNow_20 rfl (ml_at hl 0 rfl) ?_
  refine lv_iconst (v := 0) hx hb dX0_askNow_21 (by decide) ?_
  refine fp_X0_62 C hM10 (mO_I eσ11 (mO_I eσ9 (mO_R eσ7 ho5))) dX0_askNow_22 (0 : Int32) (rfl) (fun H locs hM12 => ?_)
  clear hM10
  obtain ⟨σ13, eσ13⟩ : ∃ y, y = sI σ11 i0 13 (0 : Int32) := ⟨_, rfl⟩
  rw [← eσ13] at hM12
  replace h3 := h3 σ13 eσ13
  refine mr_aload_n C dX0_askNow_25 rfl (ml_at hl 0 rfl) ?_
  refine lv_iconst (v := 0) hx hb dX0_askNow_26 (by decide) ?_
  refine fp_X0_65 C hM12 (mO_I eσ13 (mO_I eσ11 (mO_I eσ9 (mO_R eσ7 ho5)))) dX0_askNow_27 (0 : Int32) (fun H locs hM14 => ?_)
  clear hM12
  obtain ⟨σ15, eσ15⟩ : ∃ y, y = sI σ13 i0 14 (0 : Int32) := ⟨_, rfl⟩
  rw [← eσ15] at hM14
  replace h3 := h3 σ15 eσ15
  refine mr_aload_n C dX0_askNow_30 rfl (ml_at hl 0 rfl) ?_
  refine lv_iconst (v := 0) hx hb dX0_askNow_31 (by decide) ?_
  refine fp_X0_68 C hM14 (mO_I eσ15 (mO_I eσ13 (mO_I eσ11 (mO_I eσ9 (mO_R eσ7 ho5))))) dX0_askNow_32 (0 : Int32) (fun H locs hM16 => ?_)
  clear hM14
  obtain ⟨σ17, eσ17⟩ : ∃ y, y = sI σ15 i0 16 (0 : Int32) := ⟨_, rfl⟩
  rw [← eσ17] at hM16
  replace h3 := h3 σ17 eσ17
  exact mr_vret C hM16 hr hlk h3 dX0_askNow_35
def w_X2_askAt (a1 : Option Nat) (y2 : Int32) (σ0 : mS) (Q : mS → Prop) : Prop := (∃ i1, a1 = some i1 ∧ (mO kdC 0 i1 σ0 ∧ w_X0_rowAt i1 y2 σ0 (fun r6 σ3 => ((r6 = none → w_X2_finish (some i1) (3 : Int32) σ3 (fun x12 σ9 => (Q σ9))) ∧ (∀ i8, r6 = some i8 → (mO kdC 0 i1 σ3 ∧ w_X0_askNow i1 (some i8) y2 σ3 (fun σ14 => (Q σ14))))))))
set_option maxRecDepth 100000 in
set_option maxHeartbeats 4000000 in
theorem c_X2_askAt (l : Launch) (G : mG) (ad : Nat → Nat) (a1 : Option Nat) (y2 : Int32) (σ0 : mS) (Q : mS → Prop) (h : w_X2_askAt a1 y2 σ0 Q) : mKv l yX2_askAt cX2_askAt 4 3 68 G kdC ad σ0 [mV ad (some 0), mV ad a1, .int y2] Q := by
  refine mr_start (lst := [(0, mV ad (some 0)), (1, mV ad a1), (2, .int y2)]) (by decide) (m_cR (m_cR (m_cI m_c0))) rfl (Nat.le_of_ble_eq_true rfl) (fun p e s m below meth c C hM hr hlk ls hl => ?_)
  have hx := C.1.1
  have hb := C.1.2.1
  unfold w_X2_askAt at h
  refine mr_aload_n C dX2_askAt_0 rfl (ml_at hl 1 rfl) ?_
  refine lv_iload_n hx hb dX2_askAt_1 rfl (ml_at hl 2 rfl) ?_
  obtain ⟨i1, rfl, h⟩ := h
  obtain ⟨ho2, h⟩ := h
  refine mr_cq hM (mr_runV (As := [.int y2]) C hM hl.1.1 (c_X0_rowAt l G ad i1 y2 σ0 _ h) cw_X2_231 ho2 rfl rfl (n := 1) ⟨rfl, by decide, by decide, by decide +kernel⟩ rfl rfl ⟨Nat.le_of_ble_eq_true rfl, Nat.le_of_ble_eq_true rfl⟩ m_c0 (Nat.le_of_ble_eq_true rfl) dX2_askAt_2 ⟨Nat.zero_le _, Nat.zero_le _⟩) (fun r6 σ3 H locs h4 hM5 => ?_)
  clear h hM
  refine mr_astore_n (lv' := [(3, mV ad r6), (0, mV ad (some 0)), (1, mV ad (some i1)), (2, .int y2)]) C hl dX2_askAt_5 rfl (by decide) rfl (fun ls hl7 => ?_)
  clear hl
  refine mr_aload_n C dX2_askAt_6 rfl (ml_at hl7 0 rfl) ?_
  refine mr_ifnonnull (tgt := 20) C dX2_askAt_7 (by decide) (fun i8 hc => ?_) (fun hc => ?_)
  · replace h4 := h4.2 i8 hc
    subst hc
    refine mr_aload_n C dX2_askAt_20 rfl (ml_at hl7 2 rfl) ?_
    refine mr_aload_n C dX2_askAt_21 rfl (ml_at hl7 0 rfl) ?_
    refine lv_iload_n hx hb dX2_askAt_22 rfl (ml_at hl7 3 rfl) ?_
    obtain ⟨ho13, h4⟩ := h4
    refine mr_cv hM5 (mr_runV (As := [mV ad (some i8), .int y2]) C hM5 hl7.1.1 (c_X0_askNow l G ad i1 (some i8) y2 σ3 _ h4) cw_X2_234 ho13 rfl rfl (n := 2) ⟨rfl, by decide, by decide, by decide +kernel⟩ rfl rfl ⟨Nat.le_of_ble_eq_true rfl, Nat.le_of_ble_eq_true rfl⟩ m_c0 (Nat.le_of_ble_eq_true rfl) dX2_askAt_23 ⟨Nat.zero_le _, Nat.zero_le _⟩) (fun σ14 H locs h15 hM16 => ?_)
    clear h4 hM5
    exact mr_vret C hM16 hr hlk h15 dX2_askAt_26
  · replace h4 := h4.1 hc
    subst hc
    refine mr_aload_n C dX2_askAt_10 rfl (ml_at hl7 1 rfl) ?_
    refine mr_aload_n C dX2_askAt_11 rfl (ml_at hl7 2 rfl) ?_
    refine lv_iconst (v := 3) hx hb dX2_askAt_12 (by decide) ?_
    refine mr_ci hM5 (mr_runV (As := [mV ad (some i1), .int (3 : Int32)]) C hM5 hl7.1.1 (c_X2_finish l G ad (some i1) (3 : Int32) σ3 _ h4) cw_X2_103 (mO_fix hM5 rfl (by decide) (by decide) (by decide)) rfl rfl (n := 2) ⟨rfl, by decide, by decide, by decide +kernel⟩ rfl rfl ⟨Nat.le_of_ble_eq_true rfl, Nat.le_of_ble_eq_true rfl⟩ m_c0 (Nat.le_of_ble_eq_true rfl) dX2_askAt_13 ⟨Nat.zero_le _, Nat.zero_le _⟩) (fun x12 σ9 H locs h10 hM11 => ?_)
    clear h4 hM5
    refine lv_pop hx hb dX2_askAt_16 rfl ?_
    refine lv_goto (tgt := 26) hx hb dX2_askAt_17 (by decide) ?_
    exact mr_vret C hM11 hr hlk h10 dX2_askAt_26
def w_X2_endWork  (σ0 : mS) (Q : mS → Prop) : Prop := (∀ r1, r1 = mR σ0 0 5 → (∃ I5 : Nat → Option Nat → mS → Prop, (∀ (n5 : Nat) (r1_5 : Option Nat) (σ_5 : mS), I5 n5 r1_5 σ_5 → ((r1_5 = none → (Q σ_5)) ∧ (∀ i3, r1_5 = some i3 → (mO kdC 0 i3 σ_5 ∧ ((¬ (mI σ_5 i3 4) = (1 : Int32) → (∀ r6, r6 = mR σ_5 i3 8 → (∃ k8, k8 < n5 ∧ I5 k8 r6 σ_5))) ∧ ((mI σ_5 i3 4) = (1 : Int32) → (((mI σ_5 0 3) < (mI σ_5 i3 6) → (∀ r10, r10 = mR σ_5 i3 8 → (∃ k12, k12 < n5 ∧ I5 k12 r10 σ_5))) ∧ (¬ (mI σ_5 0 3) < (mI σ_5 i3 6) → (∀ r13, r13 = mR σ_5 i3 1 → (∃ i14, r13 = some i14 ∧ (kdC i14 = (0, 1) ∧ w_X1_failsNextWork i14 σ_5 (fun x19 σ16 => ((x19 = 0 → (mO kdC 0 i3 σ16 ∧ (∀ r22, r22 = mR σ16 i3 1 → (∃ i23, r22 = some i23 ∧ (kdC i23 = (0, 1) ∧ (∀ σ26, σ26 = sI σ16 i3 9 (mI σ16 i23 11) → w_X2_askAt (some i3) (0 : Int32) σ26 (fun σ27 => (mO kdC 0 i3 σ27 ∧ (∀ r31, r31 = mR σ27 i3 8 → (∃ k33, k33 < n5 ∧ I5 k33 r31 σ27)))))))))) ∧ (¬ x19 = 0 → w_X2_finish (some i3) (4 : Int32) σ16 (fun x37 σ34 => (mO kdC 0 i3 σ34 ∧ (∀ r39, r39 = mR σ34 i3 1 → (∃ i40, r39 = some i40 ∧ (kdC i40 = (0, 1) ∧ w_X1_noteTrouble i40 (mI σ34 0 3) σ34 (fun σ42 => (mO kdC 0 i3 σ42 ∧ (∀ r46, r46 = mR σ42 i3 8 → (∃ k48, k48 < n5 ∧ I5 k48 r46 σ42))))))))))))))))))))))) ∧ ∃ n, I5 n r1 σ0))
set_option maxRecDepth 100000 in
set_option maxHeartbeats 4000000 in
theorem c_X2_endWork (l : Launch) (G : mG) (ad : Nat → Nat)  (σ0 : mS) (Q : mS → Prop) (h : w_X2_endWork  σ0 Q) : mKv l yX2_endWork cX2_endWork 2 4 91 G kdC ad σ0 [mV ad (some 0)] Q := by
  refine mr_start (lst := [(0, mV ad (some 0))]) (by decide) (m_cR m_c0) rfl (Nat.le_of_ble_eq_true rfl) (fun p e s m below meth c C hM hr hlk ls hl => ?_)
  have hx := C.1.1
  have hb := C.1.2.1
  unfold w_X2_endWork at h
  refine mr_aload_n C dX2_endWork_0 rfl (ml_at hl 0 rfl) ?_
  refine fg_X2_155 C hM (mO_fix hM rfl (by decide) (by decide) (by decide)) dX2_endWork_1 (fun r1 er1 => ?_)
  replace h := h r1 er1
  refine mr_astore_n (lv' := [(1, mV ad r1), (0, mV ad (some 0))]) C hl dX2_endWork_4 rfl (by decide) rfl (fun ls hl2 => ?_)
  clear hl
  obtain ⟨I5, hI5, nn5, h⟩ := h
  have hL5 : ∀ (n5 : Nat) (r1_5 : Option Nat) (σ_5 : mS) (H : Heap) (locs : List Loc) (ls : Array Slot), I5 n5 r1_5 σ_5 → mM G kdC ad s σ_5 H locs → ml_has ls 2 [(0, mV ad (some 0)), (1, mV ad r1_5)] → W p l e (mRm 4 91) s m ([mV ad (some 0)] : List Value).toArray below meth c H locs 0 0 (MQ below (va_Qv Q (mPost G kdC ad) (mA ad)) ([mV ad (some 0)] : List Value).toArray s 0 0 (mA ad)) (F0 m 5 ls []) := by
    refine m_loop (fun n5 ih5 => ?_)
    intro r1_5 σ_5 H locs ls h_5 hM_5 hl_5
    replace h_5 := hI5 n5 r1_5 σ_5 h_5
    refine mr_aload_n C dX2_endWork_5 rfl (ml_at hl_5 1 rfl) ?_
    refine mr_ifnull (tgt := 84) C dX2_endWork_6 (by decide) (fun hc => ?_) (fun i3 hc => ?_)
    · replace h_5 := h_5.1 hc
      subst hc
      exact mr_vret C hM_5 hr hlk h_5 dX2_endWork_84
    · replace h_5 := h_5.2 i3 hc
      subst hc
      refine mr_aload_n C dX2_endWork_9 rfl (ml_at hl_5 1 rfl) ?_
      obtain ⟨ho4, h_5⟩ := h_5
      refine fg_X2_131 C hM_5 ho4 dX2_endWork_10 ?_
      refine lv_iconst (v := 1) hx hb dX2_endWork_13 (by decide) ?_
      refine lv_icmp_ne (tgt := 76) hx hb dX2_endWork_14 (by decide) (fun hc5 => ?_) (fun hc5 => ?_)
      · replace h_5 := h_5.1 hc5
        refine mr_aload_n C dX2_endWork_76 rfl (ml_at hl_5 1 rfl) ?_
        refine fg_X2_148 C hM_5 ho4 dX2_endWork_77 (fun r6 er6 => ?_)
        replace h_5 := h_5 r6 er6
        refine mr_astore_n (lv' := [(1, mV ad r6), (0, mV ad (some 0))]) C hl_5 dX2_endWork_80 rfl (by decide) rfl (fun ls hl7 => ?_)
        clear hl_5
        refine lv_goto (tgt := 5) hx hb dX2_endWork_81 (by decide) ?_
        obtain ⟨k8, hk8, h_5⟩ := h_5
        exact ih5 k8 hk8 r6 σ_5 _ _ _ h_5 hM_5 (ml_sub hl7 [1, 0] rfl)
      · replace h_5 := h_5.2 hc5
        refine mr_aload_n C dX2_endWork_17 rfl (ml_at hl_5 1 rfl) ?_
        refine fg_X2_208 C hM_5 ho4 dX2_endWork_18 ?_
        refine mr_aload_n C dX2_endWork_21 rfl (ml_at hl_5 0 rfl) ?_
        refine fg_X2_76 C hM_5 (mO_fix hM_5 rfl (by decide) (by decide) (by decide)) dX2_endWork_22 ?_
        refine lv_icmp_gt (tgt := 76) hx hb dX2_endWork_25 (by decide) (fun hc9 => ?_) (fun hc9 => ?_)
        · replace h_5 := h_5.1 hc9
          refine mr_aload_n C dX2_endWork_76 rfl (ml_at hl_5 1 rfl) ?_
          refine fg_X2_148 C hM_5 ho4 dX2_endWork_77 (fun r10 er10 => ?_)
          replace h_5 := h_5 r10 er10
          refine mr_astore_n (lv' := [(1, mV ad r10), (0, mV ad (some 0))]) C hl_5 dX2_endWork_80 rfl (by decide) rfl (fun ls hl11 => ?_)
          clear hl_5
          refine lv_goto (tgt := 5) hx hb dX2_endWork_81 (by decide) ?_
          obtain ⟨k12, hk12, h_5⟩ := h_5
          exact ih5 k12 hk12 r10 σ_5 _ _ _ h_5 hM_5 (ml_sub hl11 [1, 0] rfl)
        · replace h_5 := h_5.2 hc9
          refine mr_aload_n C dX2_endWork_28 rfl (ml_at hl_5 1 rfl) ?_
          refine fg_X2_134 C hM_5 ho4 dX2_endWork_29 (fun r13 er13 => ?_)
          replace h_5 := h_5 r13 er13
          obtain ⟨i14, rfl, h_5⟩ := h_5
          obtain ⟨hk15, h_5⟩ := h_5
          refine mr_ci hM_5 (mr_runV (As := []) C hM_5 hl_5.1.1 (c_X1_failsNextWork l G ad i14 σ_5 _ h_5) cw_X2_224 (mO_sv hM_5 hk15) rfl rfl (n := 0) ⟨rfl, by decide, by decide, by decide +kernel⟩ rfl rfl ⟨Nat.le_of_ble_eq_true rfl, Nat.le_of_ble_eq_true rfl⟩ m_c0 (Nat.le_of_ble_eq_true rfl) dX2_endWork_32 ⟨Nat.zero_le _, Nat.zero_le _⟩) (fun x19 σ16 H locs h17 hM18 => ?_)
          clear h_5 hM_5
          obtain ⟨h17, hzx19⟩ := h17
          refine lv_if_eq (tgt := 59) hx hb dX2_endWork_35 (by decide) (fun hc20 => ?_) (fun hc20 => ?_)
          · replace h17 := h17.1 hc20
            refine mr_aload_n C dX2_endWork_59 rfl (ml_at hl_5 1 rfl) ?_
            refine mr_aload_n C dX2_endWork_60 rfl (ml_at hl_5 1 rfl) ?_
            obtain ⟨ho21, h17⟩ := h17
            refine fg_X2_134 C hM18 ho21 dX2_endWork_61 (fun r22 er22 => ?_)
            replace h17 := h17 r22 er22
            obtain ⟨i23, rfl, h17⟩ := h17
            obtain ⟨hk24, h17⟩ := h17
            refine fg_X2_58 C hM18 (mO_sv hM18 hk24) dX2_endWork_64 ?_
            refine fp_X2_227 C hM18 ho21 dX2_endWork_67 (mI σ16 i23 11) (fun H locs hM25 => ?_)
            clear hM18
            obtain ⟨σ26, eσ26⟩ : ∃ y, y = sI σ16 i3 9 (mI σ16 i23 11) := ⟨_, rfl⟩
            rw [← eσ26] at hM25
            replace h17 := h17 σ26 eσ26
            refine mr_aload_n C dX2_endWork_70 rfl (ml_at hl_5 0 rfl) ?_
            refine mr_aload_n C dX2_endWork_71 rfl (ml_at hl_5 1 rfl) ?_
            refine lv_iconst (v := 0) hx hb dX2_endWork_72 (by decide) ?_
            refine mr_cv hM25 (mr_runV (As := [mV ad (some i3), .int (0 : Int32)]) C hM25 hl_5.1.1 (c_X2_askAt l G ad (some i3) (0 : Int32) σ26 _ h17) cw_X2_228 (mO_fix hM25 rfl (by decide) (by decide) (by decide)) rfl rfl (n := 2) ⟨rfl, by decide, by decide, by decide +kernel⟩ rfl rfl ⟨Nat.le_of_ble_eq_true rfl, Nat.le_of_ble_eq_true rfl⟩ m_c0 (Nat.le_of_ble_eq_true rfl) dX2_endWork_73 ⟨Nat.zero_le _, Nat.zero_le _⟩) (fun σ27 H locs h28 hM29 => ?_)
            clear h17 hM25
            refine mr_aload_n C dX2_endWork_76 rfl (ml_at hl_5 1 rfl) ?_
            obtain ⟨ho30, h28⟩ := h28
            refine fg_X2_148 C hM29 ho30 dX2_endWork_77 (fun r31 er31 => ?_)
            replace h28 := h28 r31 er31
            refine mr_astore_n (lv' := [(1, mV ad r31), (0, mV ad (some 0))]) C hl_5 dX2_endWork_80 rfl (by decide) rfl (fun ls hl32 => ?_)
            clear hl_5
            refine lv_goto (tgt := 5) hx hb dX2_endWork_81 (by decide) ?_
            obtain ⟨k33, hk33, h28⟩ := h28
            exact ih5 k33 hk33 r31 σ27 _ _ _ h28 hM29 (ml_sub hl32 [1, 0] rfl)
          · replace h17 := h17.2 hc20
            refine mr_aload_n C dX2_endWork_38 rfl (ml_at hl_5 0 rfl) ?_
            refine mr_aload_n C dX2_endWork_39 rfl (ml_at hl_5 1 rfl) ?_
            refine lv_iconst (v := 4) hx hb dX2_endWork_40 (by decide) ?_
            refine mr_ci hM18 (mr_runV (As := [mV ad (some i3), .int (4 : Int32)]) C hM18 hl_5.1.1 (c_X2_finish l G ad (some i3) (4 : Int32) σ16 _ h17) cw_X2_103 (mO_fix hM18 rfl (by decide) (by decide) (by decide)) rfl rfl (n := 2) ⟨rfl, by decide, by decide, by decide +kernel⟩ rfl rfl ⟨Nat.le_of_ble_eq_true rfl, Nat.le_of_ble_eq_true rfl⟩ m_c0 (Nat.le_of_ble_eq_true rfl) dX2_endWork_41 ⟨Nat.zero_le _, Nat.zero_le _⟩) (fun x37 σ34 H locs h35 hM36 => ?_)
            clear h17 hM18
            refine lv_pop hx hb dX2_endWork_44 rfl ?_
            refine mr_aload_n C dX2_endWork_45 rfl (ml_at hl_5 1 rfl) ?_
            obtain ⟨ho38, h35⟩ := h35
            refine fg_X2_134 C hM36 ho38 dX2_endWork_46 (fun r39 er39 => ?_)
            replace h35 := h35 r39 er39
            refine mr_aload_n C dX2_endWork_49 rfl (ml_at hl_5 0 rfl) ?_
            refine fg_X2_76 C hM36 (mO_fix hM36 rfl (by decide) (by decide) (by decide)) dX2_endWork_50 ?_
            obtain ⟨i40, rfl, h35⟩ := h35
            obtain ⟨hk41, h35⟩ := h35
            refine mr_cv hM36 (mr_runV (As := [.int (mI σ34 0 3)]) C hM36 hl_5.1.1 (c_X1_noteTrouble l G ad i40 (mI σ34 0 3) σ34 _ h35) cw_X2_221 (mO_sv hM36 hk41) rfl rfl (n := 1) ⟨rfl, by decide, by decide, by decide +kernel⟩ rfl rfl ⟨Nat.le_of_ble_eq_true rfl, Nat.le_of_ble_eq_true rfl⟩ m_c0 (Nat.le_of_ble_eq_true rfl) dX2_endWork_53 ⟨Nat.zero_le _, Nat.zero_le _⟩) (fun σ42 H locs h43 hM44 => ?_)
            clear h35 hM36
            refine lv_goto (tgt := 76) hx hb dX2_endWork_56 (by decide) ?_
            refine mr_aload_n C dX2_endWork_76 rfl (ml_at hl_5 1 rfl) ?_
            obtain ⟨ho45, h43⟩ := h43
            refine fg_X2_148 C hM44 ho45 dX2_endWork_77 (fun r46 er46 => ?_)
            replace h43 := h43 r46 er46
            refine mr_astore_n (lv' := [(1, mV ad r46), (0, mV ad (some 0))]) C hl_5 dX2_endWork_80 rfl (by decide) rfl (fun ls hl47 => ?_)
            clear hl_5
            refine lv_goto (tgt := 5) hx hb dX2_endWork_81 (by decide) ?_
            obtain ⟨k48, hk48, h43⟩ := h43
            exact ih5 k48 hk48 r46 σ42 _ _ _ h43 hM44 (ml_sub hl47 [1, 0] rfl)
  exact hL5 nn5 r1 σ0 _ _ _ h hM (ml_sub hl2 [1, 0] rfl)
def w_X2_cancelTries (a1 : Option Nat) (σ0 : mS) (Q : mS → Prop) : Prop := (∃ i1, a1 = some i1 ∧ (mO kdC 0 i1 σ0 ∧ (∀ r3, r3 = mR σ0 i1 8 → (∃ I5 : Nat → Option Nat → mS → Prop, (∀ (n5 : Nat) (r2_5 : Option Nat) (σ_5 : mS), I5 n5 r2_5 σ_5 → ((r2_5 = none → (Q σ_5)) ∧ (∀ i5, r2_5 = some i5 → (mO kdC 0 i5 σ_5 ∧ (∀ r7, r7 = mR σ_5 i5 2 → ((¬ r7 = (some i1) → (∀ r9, r9 = mR σ_5 i5 8 → (∃ k11, k11 < n5 ∧ I5 k11 r9 σ_5))) ∧ (r7 = (some i1) → w_X0_isOver i5 σ_5 (fun x15 σ12 => ((¬ x15 = 0 → (mO kdC 0 i5 σ12 ∧ (∀ r18, r18 = mR σ12 i5 8 → (∃ k20, k20 < n5 ∧ I5 k20 r18 σ12)))) ∧ (x15 = 0 → w_X2_finish (some i5) (7 : Int32) σ12 (fun x24 σ21 => (mO kdC 0 i5 σ21 ∧ (∀ r26, r26 = mR σ21 i5 8 → (∃ k28, k28 < n5 ∧ I5 k28 r26 σ21)))))))))))))) ∧ ∃ n, I5 n r3 σ0))))
set_option maxRecDepth 100000 in
set_option maxHeartbeats 4000000 in
theorem c_X2_cancelTries (l : Launch) (G : mG) (ad : Nat → Nat) (a1 : Option Nat) (σ0 : mS) (Q : mS → Prop) (h : w_X2_cancelTries a1 σ0 Q) : mKv l yX2_cancelTries cX2_cancelTries 3 3 68 G kdC ad σ0 [mV ad (some 0), mV ad a1] Q := by
  refine mr_start (lst := [(0, mV ad (some 0)), (1, mV ad a1)]) (by decide) (m_cR (m_cR m_c0)) rfl (Nat.le_of_ble_eq_true rfl) (fun p e s m below meth c C hM hr hlk ls hl => ?_)
  have hx := C.1.1
  have hb := C.1.2.1
  unfold w_X2_cancelTries at h
  refine mr_aload_n C dX2_cancelTries_0 rfl (ml_at hl 1 rfl) ?_
  obtain ⟨i1, rfl, h⟩ := h
  obtain ⟨ho2, h⟩ := h
  refine fg_X2_148 C hM ho2 dX2_cancelTries_1 (fun r3 er3 => ?_)
  replace h := h r3 er3
  refine mr_astore_n (lv' := [(2, mV ad r3), (0, mV ad (some 0)), (1, mV ad (some i1))]) C hl dX2_cancelTries_4 rfl (by decide) rfl (fun ls hl4 => ?_)
  clear hl
  obtain ⟨I5, hI5, nn5, h⟩ := h
  have hL5 : ∀ (n5 : Nat) (r2_5 : Option Nat) (σ_5 : mS) (H : Heap) (locs : List Loc) (ls : Array Slot), I5 n5 r2_5 σ_5 → mM G kdC ad s σ_5 H locs → ml_has ls 3 [(0, mV ad (some 0)), (1, mV ad (some i1)), (2, mV ad r2_5)] → W p l e (mRm 3 68) s m ([mV ad (some 0), mV ad (some i1)] : List Value).toArray below meth c H locs 0 0 (MQ below (va_Qv Q (mPost G kdC ad) (mA ad)) ([mV ad (some 0), mV ad (some i1)] : List Value).toArray s 0 0 (mA ad)) (F0 m 5 ls []) := by
    refine m_loop (fun n5 ih5 => ?_)
    intro r2_5 σ_5 H locs ls h_5 hM_5 hl_5
    replace h_5 := hI5 n5 r2_5 σ_5 h_5
    refine mr_aload_n C dX2_cancelTries_5 rfl (ml_at hl_5 2 rfl) ?_
    refine mr_ifnull (tgt := 40) C dX2_cancelTries_6 (by decide) (fun hc => ?_) (fun i5 hc => ?_)
    · replace h_5 := h_5.1 hc
      subst hc
      exact mr_vret C hM_5 hr hlk h_5 dX2_cancelTries_40
    · replace h_5 := h_5.2 i5 hc
      subst hc
      refine mr_aload_n C dX2_cancelTries_9 rfl (ml_at hl_5 2 rfl) ?_
      obtain ⟨ho6, h_5⟩ := h_5
      refine fg_X2_97 C hM_5 ho6 dX2_cancelTries_10 (fun r7 er7 => ?_)
      replace h_5 := h_5 r7 er7
      refine mr_aload_n C dX2_cancelTries_13 rfl (ml_at hl_5 1 rfl) ?_
      refine mr_acmp_ne (tgt := 32) C hM_5 dX2_cancelTries_14 (by decide) (fun hc8 => ?_) (fun hc8 => ?_)
      · replace h_5 := h_5.1 hc8
        refine mr_aload_n C dX2_cancelTries_32 rfl (ml_at hl_5 2 rfl) ?_
        refine fg_X2_148 C hM_5 ho6 dX2_cancelTries_33 (fun r9 er9 => ?_)
        replace h_5 := h_5 r9 er9
        refine mr_astore_n (lv' := [(2, mV ad r9), (0, mV ad (some 0)), (1, mV ad (some i1))]) C hl_5 dX2_cancelTries_36 rfl (by decide) rfl (fun ls hl10 => ?_)
        clear hl_5
        refine lv_goto (tgt := 5) hx hb dX2_cancelTries_37 (by decide) ?_
        obtain ⟨k11, hk11, h_5⟩ := h_5
        exact ih5 k11 hk11 r9 σ_5 _ _ _ h_5 hM_5 (ml_sub hl10 [1, 2, 0] rfl)
      · replace h_5 := h_5.2 hc8
        refine mr_aload_n C dX2_cancelTries_17 rfl (ml_at hl_5 2 rfl) ?_
        refine mr_ci hM_5 (mr_runV (As := []) C hM_5 hl_5.1.1 (c_X0_isOver l G ad i5 σ_5 _ h_5) cw_X2_94 ho6 rfl rfl (n := 0) ⟨rfl, by decide, by decide, by decide +kernel⟩ rfl rfl ⟨Nat.le_of_ble_eq_true rfl, Nat.le_of_ble_eq_true rfl⟩ m_c0 (Nat.le_of_ble_eq_true rfl) dX2_cancelTries_18 ⟨Nat.zero_le _, Nat.zero_le _⟩) (fun x15 σ12 H locs h13 hM14 => ?_)
        clear h_5 hM_5
        obtain ⟨h13, hzx15⟩ := h13
        refine lv_if_ne (tgt := 32) hx hb dX2_cancelTries_21 (by decide) (fun hc16 => ?_) (fun hc16 => ?_)
        · replace h13 := h13.1 hc16
          refine mr_aload_n C dX2_cancelTries_32 rfl (ml_at hl_5 2 rfl) ?_
          obtain ⟨ho17, h13⟩ := h13
          refine fg_X2_148 C hM14 ho17 dX2_cancelTries_33 (fun r18 er18 => ?_)
          replace h13 := h13 r18 er18
          refine mr_astore_n (lv' := [(2, mV ad r18), (0, mV ad (some 0)), (1, mV ad (some i1))]) C hl_5 dX2_cancelTries_36 rfl (by decide) rfl (fun ls hl19 => ?_)
          clear hl_5
          refine lv_goto (tgt := 5) hx hb dX2_cancelTries_37 (by decide) ?_
          obtain ⟨k20, hk20, h13⟩ := h13
          exact ih5 k20 hk20 r18 σ12 _ _ _ h13 hM14 (ml_sub hl19 [1, 2, 0] rfl)
        · replace h13 := h13.2 hc16
          refine mr_aload_n C dX2_cancelTries_24 rfl (ml_at hl_5 0 rfl) ?_
          refine mr_aload_n C dX2_cancelTries_25 rfl (ml_at hl_5 2 rfl) ?_
          refine lv_bipush (v := 7) hx hb dX2_cancelTries_26 (by decide) ?_
          refine mr_ci hM14 (mr_runV (As := [mV ad (some i5), .int (7 : Int32)]) C hM14 hl_5.1.1 (c_X2_finish l G ad (some i5) (7 : Int32) σ12 _ h13) cw_X2_103 (mO_fix hM14 rfl (by decide) (by decide) (by decide)) rfl rfl (n := 2) ⟨rfl, by decide, by decide, by decide +kernel⟩ rfl rfl ⟨Nat.le_of_ble_eq_true rfl, Nat.le_of_ble_eq_true rfl⟩ m_c0 (Nat.le_of_ble_eq_true rfl) dX2_cancelTries_28 ⟨Nat.zero_le _, Nat.zero_le _⟩) (fun x24 σ21 H locs h22 hM23 => ?_)
          clear h13 hM14
          refine lv_pop hx hb dX2_cancelTries_31 rfl ?_
          refine mr_aload_n C dX2_cancelTries_32 rfl (ml_at hl_5 2 rfl) ?_
          obtain ⟨ho25, h22⟩ := h22
          refine fg_X2_148 C hM23 ho25 dX2_cancelTries_33 (fun r26 er26 => ?_)
          replace h22 := h22 r26 er26
          refine mr_astore_n (lv' := [(2, mV ad r26), (0, mV ad (some 0)), (1, mV ad (some i1))]) C hl_5 dX2_cancelTries_36 rfl (by decide) rfl (fun ls hl27 => ?_)
          clear hl_5
          refine lv_goto (tgt := 5) hx hb dX2_cancelTries_37 (by decide) ?_
          obtain ⟨k28, hk28, h22⟩ := h22
          exact ih5 k28 hk28 r26 σ21 _ _ _ h22 hM23 (ml_sub hl27 [1, 2, 0] rfl)
  exact hL5 nn5 r3 σ0 _ _ _ h hM (ml_sub hl4 [1, 2, 0] rfl)
def w_X1_payForTry (i0 : Nat) (σ0 : mS) (Q : Int32 → mS → Prop) : Prop := (kdC i0 = (0, 1) ∧ (((10 : Int32) ≤ (mI σ0 i0 7) → (∀ σ4, σ4 = sI σ0 i0 7 ((mI σ0 i0 7) - (10 : Int32)) → (Q (1 : Int32) σ4))) ∧ (¬ (10 : Int32) ≤ (mI σ0 i0 7) → (Q (0 : Int32) σ0))))
set_option maxRecDepth 100000 in
set_option maxHeartbeats 4000000 in
theorem c_X1_payForTry (l : Launch) (G : mG) (ad : Nat → Nat) (i0 : Nat) (σ0 : mS) (Q : Int32 → mS → Prop) (h : w_X1_payForTry i0 σ0 Q) : mKz l yX1_payForTry cX1_payForTry 1 0 0 G kdC ad σ0 [mV ad (some i0)] Q := by
  refine mr_start (lst := [(0, mV ad (some i0))]) (by decide) (m_cR m_c0) rfl (Nat.le_of_ble_eq_true rfl) (fun p e s m below meth c C hM hr hlk ls hl => ?_)
  have hx := C.1.1
  have hb := C.1.2.1
  unfold w_X1_payForTry at h
  refine mr_aload_n C dX1_payForTry_0 rfl (ml_at hl 0 rfl) ?_
  obtain ⟨hk1, h⟩ := h
  refine fg_X1_21 C hM (mO_sv hM hk1) dX1_payForTry_1 ?_
  refine lv_bipush (v := 10) hx hb dX1_payForTry_4 (by decide) ?_
  refine lv_icmp_ge (tgt := 11) hx hb dX1_payForTry_6 (by decide) (fun hc2 => ?_) (fun hc2 => ?_)
  · replace h := h.1 hc2
    refine mr_aload_n C dX1_payForTry_11 rfl (ml_at hl 0 rfl) ?_
    refine lv_dup hx hb dX1_payForTry_12 (mV_cat _ _) ?_
    refine fg_X1_21 C hM (mO_sv hM hk1) dX1_payForTry_13 ?_
    refine lv_bipush (v := 10) hx hb dX1_payForTry_16 (by decide) ?_
    refine lv_isub hx hb dX1_payForTry_18 ?_
    refine fp_X1_21 C hM (mO_sv hM hk1) dX1_payForTry_19 ((mI σ0 i0 7) - (10 : Int32)) (fun H locs hM3 => ?_)
    clear hM
    obtain ⟨σ4, eσ4⟩ : ∃ y, y = sI σ0 i0 7 ((mI σ0 i0 7) - (10 : Int32)) := ⟨_, rfl⟩
    rw [← eσ4] at hM3
    replace h := h σ4 eσ4
    refine lv_iconst (v := 1) hx hb dX1_payForTry_22 (by decide) ?_
    exact mr_zret C hM3 hr hlk rfl h dX1_payForTry_23
  · replace h := h.2 hc2
    refine lv_iconst (v := 0) hx hb dX1_payForTry_9 (by decide) ?_
    exact mr_zret C hM hr hlk rfl h dX1_payForTry_10
def w_X2_tryAgain (a1 : Option Nat) (a2 : Option Nat) (σ0 : mS) (Q : mS → Prop) : Prop := (∃ i1, a1 = some i1 ∧ (mO kdC 0 i1 σ0 ∧ (∃ J33 : mS → Prop, (∀  (σ_33 : mS), J33  σ_33 → w_X2_finish (some i1) (4 : Int32) σ_33 (fun x6 σ3 => (Q σ3))) ∧ (((2 : Int32) ≤ (mI σ0 i1 16) → (J33  σ0)) ∧ (¬ (2 : Int32) ≤ (mI σ0 i1 16) → (∃ i8, a2 = some i8 ∧ (kdC i8 = (0, 1) ∧ w_X1_payForTry i8 σ0 (fun x13 σ10 => ((x13 = 0 → (J33  σ10)) ∧ (¬ x13 = 0 → (mO kdC 0 i1 σ10 ∧ (∀ σ17, σ17 = sI σ10 i1 16 ((mI σ10 i1 16) + (1 : Int32)) → (∀ σ19, σ19 = sI σ17 i1 12 (1 : Int32) → (Q σ19))))))))))))))
set_option maxRecDepth 100000 in
set_option maxHeartbeats 4000000 in
theorem c_X2_tryAgain (l : Launch) (G : mG) (ad : Nat → Nat) (a1 : Option Nat) (a2 : Option Nat) (σ0 : mS) (Q : mS → Prop) (h : w_X2_tryAgain a1 a2 σ0 Q) : mKv l yX2_tryAgain cX2_tryAgain 3 3 68 G kdC ad σ0 [mV ad (some 0), mV ad a1, mV ad a2] Q := by
  refine mr_start (lst := [(0, mV ad (some 0)), (1, mV ad a1), (2, mV ad a2)]) (by decide) (m_cR (m_cR (m_cR m_c0))) rfl (Nat.le_of_ble_eq_true rfl) (fun p e s m below meth c C hM hr hlk ls hl => ?_)
  have hx := C.1.1
  have hb := C.1.2.1
  unfold w_X2_tryAgain at h
  refine mr_aload_n C dX2_tryAgain_0 rfl (ml_at hl 1 rfl) ?_
  obtain ⟨i1, rfl, h⟩ := h
  obtain ⟨ho2, h⟩ := h
  refine fg_X2_270 C hM ho2 dX2_tryAgain_1 ?_
  refine lv_iconst (v := 2) hx hb dX2_tryAgain_4 (by decide) ?_
  obtain ⟨J33, hJ33, h⟩ := h
  have hj33 : ∀  (σ_33 : mS) (H : Heap) (locs : List Loc) (ls : Array Slot), J33  σ_33 → mM G kdC ad s σ_33 H locs → ml_has ls 3 [(0, mV ad (some 0)), (1, mV ad (some i1))] → W p l e (mRm 3 68) s m ([mV ad (some 0), mV ad (some i1), mV ad a2] : List Value).toArray below meth c H locs 0 0 (MQ below (va_Qv Q (mPost G kdC ad) (mA ad)) ([mV ad (some 0), mV ad (some i1), mV ad a2] : List Value).toArray s 0 0 (mA ad)) (F0 m 33 ls []) := by
    intro  σ_33 H locs ls h_33 hM_33 hl_33
    replace h_33 := hJ33  σ_33 h_33
    refine mr_aload_n C dX2_tryAgain_33 rfl (ml_at hl_33 0 rfl) ?_
    refine mr_aload_n C dX2_tryAgain_34 rfl (ml_at hl_33 1 rfl) ?_
    refine lv_iconst (v := 4) hx hb dX2_tryAgain_35 (by decide) ?_
    refine mr_ci hM_33 (mr_runV (As := [mV ad (some i1), .int (4 : Int32)]) C hM_33 hl_33.1.1 (c_X2_finish l G ad (some i1) (4 : Int32) σ_33 _ h_33) cw_X2_103 (mO_fix hM_33 rfl (by decide) (by decide) (by decide)) rfl rfl (n := 2) ⟨rfl, by decide, by decide, by decide +kernel⟩ rfl rfl ⟨Nat.le_of_ble_eq_true rfl, Nat.le_of_ble_eq_true rfl⟩ m_c0 (Nat.le_of_ble_eq_true rfl) dX2_tryAgain_36 ⟨Nat.zero_le _, Nat.zero_le _⟩) (fun x6 σ3 H locs h4 hM5 => ?_)
    clear h_33 hM_33
    refine lv_pop hx hb dX2_tryAgain_39 rfl ?_
    exact mr_vret C hM5 hr hlk h4 dX2_tryAgain_40
  refine lv_icmp_ge (tgt := 33) hx hb dX2_tryAgain_5 (by decide) (fun hc7 => ?_) (fun hc7 => ?_)
  · replace h := h.1 hc7
    exact hj33  σ0 _ _ _ h hM (ml_sub hl [0, 1] rfl)
  · replace h := h.2 hc7
    refine mr_aload_n C dX2_tryAgain_8 rfl (ml_at hl 2 rfl) ?_
    obtain ⟨i8, rfl, h⟩ := h
    obtain ⟨hk9, h⟩ := h
    refine mr_ci hM (mr_runV (As := []) C hM hl.1.1 (c_X1_payForTry l G ad i8 σ0 _ h) cw_X2_273 (mO_sv hM hk9) rfl rfl (n := 0) ⟨rfl, by decide, by decide, by decide +kernel⟩ rfl rfl ⟨Nat.le_of_ble_eq_true rfl, Nat.le_of_ble_eq_true rfl⟩ m_c0 (Nat.le_of_ble_eq_true rfl) dX2_tryAgain_9 ⟨Nat.zero_le _, Nat.zero_le _⟩) (fun x13 σ10 H locs h11 hM12 => ?_)
    clear h hM
    obtain ⟨h11, hzx13⟩ := h11
    refine lv_if_eq (tgt := 33) hx hb dX2_tryAgain_12 (by decide) (fun hc14 => ?_) (fun hc14 => ?_)
    · replace h11 := h11.1 hc14
      exact hj33  σ10 _ _ _ h11 hM12 (ml_sub hl [0, 1] rfl)
    · replace h11 := h11.2 hc14
      refine mr_aload_n C dX2_tryAgain_15 rfl (ml_at hl 1 rfl) ?_
      refine lv_dup hx hb dX2_tryAgain_16 (mV_cat _ _) ?_
      obtain ⟨ho15, h11⟩ := h11
      refine fg_X2_270 C hM12 ho15 dX2_tryAgain_17 ?_
      refine lv_iconst (v := 1) hx hb dX2_tryAgain_20 (by decide) ?_
      refine lv_iadd hx hb dX2_tryAgain_21 ?_
      refine fp_X2_270 C hM12 ho15 dX2_tryAgain_22 ((mI σ10 i1 16) + (1 : Int32)) (fun H locs hM16 => ?_)
      clear hM12
      obtain ⟨σ17, eσ17⟩ : ∃ y, y = sI σ10 i1 16 ((mI σ10 i1 16) + (1 : Int32)) := ⟨_, rfl⟩
      rw [← eσ17] at hM16
      replace h11 := h11 σ17 eσ17
      refine mr_aload_n C dX2_tryAgain_25 rfl (ml_at hl 1 rfl) ?_
      refine lv_iconst (v := 1) hx hb dX2_tryAgain_26 (by decide) ?_
      refine fp_X2_241 C hM16 (mO_I eσ17 ho15) dX2_tryAgain_27 (1 : Int32) (rfl) (fun H locs hM18 => ?_)
      clear hM16
      obtain ⟨σ19, eσ19⟩ : ∃ y, y = sI σ17 i1 12 (1 : Int32) := ⟨_, rfl⟩
      rw [← eσ19] at hM18
      replace h11 := h11 σ19 eσ19
      refine lv_goto (tgt := 40) hx hb dX2_tryAgain_30 (by decide) ?_
      exact mr_vret C hM18 hr hlk h11 dX2_tryAgain_40
def w_X1_isTooLong (i0 : Nat) (y1 : Int32) (σ0 : mS) (Q : Int32 → mS → Prop) : Prop := (kdC i0 = (0, 1) ∧ (((mI σ0 i0 6) ≤ 0 → (Q (0 : Int32) σ0)) ∧ (¬ (mI σ0 i0 6) ≤ 0 → ((y1 < (mI σ0 i0 6) → (Q (0 : Int32) σ0)) ∧ (¬ y1 < (mI σ0 i0 6) → (Q (1 : Int32) σ0))))))
set_option maxRecDepth 100000 in
set_option maxHeartbeats 4000000 in
theorem c_X1_isTooLong (l : Launch) (G : mG) (ad : Nat → Nat) (i0 : Nat) (y1 : Int32) (σ0 : mS) (Q : Int32 → mS → Prop) (h : w_X1_isTooLong i0 y1 σ0 Q) : mKz l yX1_isTooLong cX1_isTooLong 2 0 0 G kdC ad σ0 [mV ad (some i0), .int y1] Q := by
  refine mr_start (lst := [(0, mV ad (some i0)), (1, .int y1)]) (by decide) (m_cR (m_cI m_c0)) rfl (Nat.le_of_ble_eq_true rfl) (fun p e s m below meth c C hM hr hlk ls hl => ?_)
  have hx := C.1.1
  have hb := C.1.2.1
  unfold w_X1_isTooLong at h
  refine mr_aload_n C dX1_isTooLong_0 rfl (ml_at hl 0 rfl) ?_
  obtain ⟨hk1, h⟩ := h
  refine fg_X1_51 C hM (mO_sv hM hk1) dX1_isTooLong_1 ?_
  refine lv_if_le (tgt := 19) hx hb dX1_isTooLong_4 (by decide) (fun hc2 => ?_) (fun hc2 => ?_)
  · replace h := h.1 hc2
    refine lv_iconst (v := 0) hx hb dX1_isTooLong_19 (by decide) ?_
    exact mr_zret C hM hr hlk rfl h dX1_isTooLong_20
  · replace h := h.2 hc2
    refine lv_iload_n hx hb dX1_isTooLong_7 rfl (ml_at hl 1 rfl) ?_
    refine mr_aload_n C dX1_isTooLong_8 rfl (ml_at hl 0 rfl) ?_
    refine fg_X1_51 C hM (mO_sv hM hk1) dX1_isTooLong_9 ?_
    refine lv_icmp_lt (tgt := 19) hx hb dX1_isTooLong_12 (by decide) (fun hc3 => ?_) (fun hc3 => ?_)
    · replace h := h.1 hc3
      refine lv_iconst (v := 0) hx hb dX1_isTooLong_19 (by decide) ?_
      exact mr_zret C hM hr hlk rfl h dX1_isTooLong_20
    · replace h := h.2 hc3
      refine lv_iconst (v := 1) hx hb dX1_isTooLong_15 (by decide) ?_
      refine lv_goto (tgt := 20) hx hb dX1_isTooLong_16 (by decide) ?_
      exact mr_zret C hM hr hlk rfl h dX1_isTooLong_20
def w_X2_judge (a1 : Option Nat) (a2 : Option Nat) (σ0 : mS) (Q : mS → Prop) : Prop := (∃ i1, a1 = some i1 ∧ (mO kdC 0 i1 σ0 ∧ (((mI σ0 i1 13) = 0 → ((¬ (mI σ0 i1 15) = 0 → ((¬ (mI σ0 i1 14) = (1 : Int32) → (Q σ0)) ∧ ((mI σ0 i1 14) = (1 : Int32) → (∃ i6, a2 = some i6 ∧ (kdC i6 = (0, 1) ∧ w_X1_isTooLong i6 ((mI σ0 0 3) - (mI σ0 i1 17)) σ0 (fun x11 σ8 => ((x11 = 0 → (Q σ8)) ∧ (¬ x11 = 0 → (mO kdC 0 i1 σ8 ∧ (∀ σ15, σ15 = sI σ8 i1 12 (1 : Int32) → (Q σ15))))))))))) ∧ ((mI σ0 i1 15) = 0 → w_X2_tryAgain (some i1) a2 σ0 (fun σ16 => (Q σ16))))) ∧ (¬ (mI σ0 i1 13) = 0 → w_X2_cancelTries (some i1) σ0 (fun σ19 => (mO kdC 0 i1 σ19 ∧ w_X2_askAt (some i1) ((mI σ19 i1 10) + (1 : Int32)) σ19 (fun σ23 => (Q σ23))))))))
set_option maxRecDepth 100000 in
set_option maxHeartbeats 4000000 in
theorem c_X2_judge (l : Launch) (G : mG) (ad : Nat → Nat) (a1 : Option Nat) (a2 : Option Nat) (σ0 : mS) (Q : mS → Prop) (h : w_X2_judge a1 a2 σ0 Q) : mKv l yX2_judge cX2_judge 3 4 91 G kdC ad σ0 [mV ad (some 0), mV ad a1, mV ad a2] Q := by
  refine mr_start (lst := [(0, mV ad (some 0)), (1, mV ad a1), (2, mV ad a2)]) (by decide) (m_cR (m_cR (m_cR m_c0))) rfl (Nat.le_of_ble_eq_true rfl) (fun p e s m below meth c C hM hr hlk ls hl => ?_)
  have hx := C.1.1
  have hb := C.1.2.1
  unfold w_X2_judge at h
  refine mr_aload_n C dX2_judge_0 rfl (ml_at hl 1 rfl) ?_
  obtain ⟨i1, rfl, h⟩ := h
  obtain ⟨ho2, h⟩ := h
  refine fg_X2_249 C hM ho2 dX2_judge_1 ?_
  refine lv_if_eq (tgt := 26) hx hb dX2_judge_4 (by decide) (fun hc3 => ?_) (fun hc3 => ?_)
  · replace h := h.1 hc3
    refine mr_aload_n C dX2_judge_26 rfl (ml_at hl 1 rfl) ?_
    refine fg_X2_255 C hM ho2 dX2_judge_27 ?_
    refine lv_if_ne (tgt := 42) hx hb dX2_judge_30 (by decide) (fun hc4 => ?_) (fun hc4 => ?_)
    · replace h := h.1 hc4
      refine mr_aload_n C dX2_judge_42 rfl (ml_at hl 1 rfl) ?_
      refine fg_X2_261 C hM ho2 dX2_judge_43 ?_
      refine lv_iconst (v := 1) hx hb dX2_judge_46 (by decide) ?_
      refine lv_icmp_ne (tgt := 71) hx hb dX2_judge_47 (by decide) (fun hc5 => ?_) (fun hc5 => ?_)
      · replace h := h.1 hc5
        exact mr_vret C hM hr hlk h dX2_judge_71
      · replace h := h.2 hc5
        refine mr_aload_n C dX2_judge_50 rfl (ml_at hl 2 rfl) ?_
        refine mr_aload_n C dX2_judge_51 rfl (ml_at hl 0 rfl) ?_
        refine fg_X2_76 C hM (mO_fix hM rfl (by decide) (by decide) (by decide)) dX2_judge_52 ?_
        refine mr_aload_n C dX2_judge_55 rfl (ml_at hl 1 rfl) ?_
        refine fg_X2_264 C hM ho2 dX2_judge_56 ?_
        refine lv_isub hx hb dX2_judge_59 ?_
        obtain ⟨i6, rfl, h⟩ := h
        obtain ⟨hk7, h⟩ := h
        refine mr_ci hM (mr_runV (As := [.int ((mI σ0 0 3) - (mI σ0 i1 17))]) C hM hl.1.1 (c_X1_isTooLong l G ad i6 ((mI σ0 0 3) - (mI σ0 i1 17)) σ0 _ h) cw_X2_267 (mO_sv hM hk7) rfl rfl (n := 1) ⟨rfl, by decide, by decide, by decide +kernel⟩ rfl rfl ⟨Nat.le_of_ble_eq_true rfl, Nat.le_of_ble_eq_true rfl⟩ m_c0 (Nat.le_of_ble_eq_true rfl) dX2_judge_60 ⟨Nat.zero_le _, Nat.zero_le _⟩) (fun x11 σ8 H locs h9 hM10 => ?_)
        clear h hM
        obtain ⟨h9, hzx11⟩ := h9
        refine lv_if_eq (tgt := 71) hx hb dX2_judge_63 (by decide) (fun hc12 => ?_) (fun hc12 => ?_)
        · replace h9 := h9.1 hc12
          exact mr_vret C hM10 hr hlk h9 dX2_judge_71
        · replace h9 := h9.2 hc12
          refine mr_aload_n C dX2_judge_66 rfl (ml_at hl 1 rfl) ?_
          refine lv_iconst (v := 1) hx hb dX2_judge_67 (by decide) ?_
          obtain ⟨ho13, h9⟩ := h9
          refine fp_X2_241 C hM10 ho13 dX2_judge_68 (1 : Int32) (rfl) (fun H locs hM14 => ?_)
          clear hM10
          obtain ⟨σ15, eσ15⟩ : ∃ y, y = sI σ8 i1 12 (1 : Int32) := ⟨_, rfl⟩
          rw [← eσ15] at hM14
          replace h9 := h9 σ15 eσ15
          exact mr_vret C hM14 hr hlk h9 dX2_judge_71
    · replace h := h.2 hc4
      refine mr_aload_n C dX2_judge_33 rfl (ml_at hl 0 rfl) ?_
      refine mr_aload_n C dX2_judge_34 rfl (ml_at hl 1 rfl) ?_
      refine mr_aload_n C dX2_judge_35 rfl (ml_at hl 2 rfl) ?_
      refine mr_cv hM (mr_runV (As := [mV ad (some i1), mV ad a2]) C hM hl.1.1 (c_X2_tryAgain l G ad (some i1) a2 σ0 _ h) cw_X2_258 (mO_fix hM rfl (by decide) (by decide) (by decide)) rfl rfl (n := 2) ⟨rfl, by decide, by decide, by decide +kernel⟩ rfl rfl ⟨Nat.le_of_ble_eq_true rfl, Nat.le_of_ble_eq_true rfl⟩ m_c0 (Nat.le_of_ble_eq_true rfl) dX2_judge_36 ⟨Nat.zero_le _, Nat.zero_le _⟩) (fun σ16 H locs h17 hM18 => ?_)
      clear h hM
      refine lv_goto (tgt := 71) hx hb dX2_judge_39 (by decide) ?_
      exact mr_vret C hM18 hr hlk h17 dX2_judge_71
  · replace h := h.2 hc3
    refine mr_aload_n C dX2_judge_7 rfl (ml_at hl 0 rfl) ?_
    refine mr_aload_n C dX2_judge_8 rfl (ml_at hl 1 rfl) ?_
    refine mr_cv hM (mr_runV (As := [mV ad (some i1)]) C hM hl.1.1 (c_X2_cancelTries l G ad (some i1) σ0 _ h) cw_X2_252 (mO_fix hM rfl (by decide) (by decide) (by decide)) rfl rfl (n := 1) ⟨rfl, by decide, by decide, by decide +kernel⟩ rfl rfl ⟨Nat.le_of_ble_eq_true rfl, Nat.le_of_ble_eq_true rfl⟩ m_c0 (Nat.le_of_ble_eq_true rfl) dX2_judge_9 ⟨Nat.zero_le _, Nat.zero_le _⟩) (fun σ19 H locs h20 hM21 => ?_)
    clear h hM
    refine mr_aload_n C dX2_judge_12 rfl (ml_at hl 0 rfl) ?_
    refine mr_aload_n C dX2_judge_13 rfl (ml_at hl 1 rfl) ?_
    refine mr_aload_n C dX2_judge_14 rfl (ml_at hl 1 rfl) ?_
    obtain ⟨ho22, h20⟩ := h20
    refine fg_X2_145 C hM21 ho22 dX2_judge_15 ?_
    refine lv_iconst (v := 1) hx hb dX2_judge_18 (by decide) ?_
    refine lv_iadd hx hb dX2_judge_19 ?_
    refine mr_cv hM21 (mr_runV (As := [mV ad (some i1), .int ((mI σ19 i1 10) + (1 : Int32))]) C hM21 hl.1.1 (c_X2_askAt l G ad (some i1) ((mI σ19 i1 10) + (1 : Int32)) σ19 _ h20) cw_X2_228 (mO_fix hM21 rfl (by decide) (by decide) (by decide)) rfl rfl (n := 2) ⟨rfl, by decide, by decide, by decide +kernel⟩ rfl rfl ⟨Nat.le_of_ble_eq_true rfl, Nat.le_of_ble_eq_true rfl⟩ m_c0 (Nat.le_of_ble_eq_true rfl) dX2_judge_20 ⟨Nat.zero_le _, Nat.zero_le _⟩) (fun σ23 H locs h24 hM25 => ?_)
    clear h20 hM21
    refine lv_goto (tgt := 71) hx hb dX2_judge_23 (by decide) ?_
    exact mr_vret C hM25 hr hlk h24 dX2_judge_71
def w_X2_judgeAsking  (σ0 : mS) (Q : mS → Prop) : Prop := (∀ r1, r1 = mR σ0 0 6 → (∃ I5 : Nat → Option Nat → mS → Prop, (∀ (n5 : Nat) (r1_5 : Option Nat) (σ_5 : mS), I5 n5 r1_5 σ_5 → ((r1_5 = none → (Q σ_5)) ∧ (∀ i3, r1_5 = some i3 → (mO kdC 0 i3 σ_5 ∧ (∀ r5, r5 = mR σ_5 i3 11 → ((¬ (mI σ_5 i3 4) = (2 : Int32) → (∀ r8, r8 = mR σ_5 i3 7 → (∃ k10, k10 < n5 ∧ I5 k10 r8 σ_5))) ∧ ((mI σ_5 i3 4) = (2 : Int32) → ((¬ (mI σ_5 i3 12) = 0 → (∀ r12, r12 = mR σ_5 i3 7 → (∃ k14, k14 < n5 ∧ I5 k14 r12 σ_5))) ∧ ((mI σ_5 i3 12) = 0 → ((r5 = none → (∀ r16, r16 = mR σ_5 i3 7 → (∃ k18, k18 < n5 ∧ I5 k18 r16 σ_5))) ∧ (∀ i15, r5 = some i15 → w_X2_judge (some i3) (some i15) σ_5 (fun σ19 => (mO kdC 0 i3 σ19 ∧ (∀ r23, r23 = mR σ19 i3 7 → (∃ k25, k25 < n5 ∧ I5 k25 r23 σ19))))))))))))))) ∧ ∃ n, I5 n r1 σ0))
set_option maxRecDepth 100000 in
set_option maxHeartbeats 4000000 in
theorem c_X2_judgeAsking (l : Launch) (G : mG) (ad : Nat → Nat)  (σ0 : mS) (Q : mS → Prop) (h : w_X2_judgeAsking  σ0 Q) : mKv l yX2_judgeAsking cX2_judgeAsking 3 5 113 G kdC ad σ0 [mV ad (some 0)] Q := by
  refine mr_start (lst := [(0, mV ad (some 0))]) (by decide) (m_cR m_c0) rfl (Nat.le_of_ble_eq_true rfl) (fun p e s m below meth c C hM hr hlk ls hl => ?_)
  have hx := C.1.1
  have hb := C.1.2.1
  unfold w_X2_judgeAsking at h
  refine mr_aload_n C dX2_judgeAsking_0 rfl (ml_at hl 0 rfl) ?_
  refine fg_X2_187 C hM (mO_fix hM rfl (by decide) (by decide) (by decide)) dX2_judgeAsking_1 (fun r1 er1 => ?_)
  replace h := h r1 er1
  refine mr_astore_n (lv' := [(1, mV ad r1), (0, mV ad (some 0))]) C hl dX2_judgeAsking_4 rfl (by decide) rfl (fun ls hl2 => ?_)
  clear hl
  obtain ⟨I5, hI5, nn5, h⟩ := h
  have hL5 : ∀ (n5 : Nat) (r1_5 : Option Nat) (σ_5 : mS) (H : Heap) (locs : List Loc) (ls : Array Slot), I5 n5 r1_5 σ_5 → mM G kdC ad s σ_5 H locs → ml_has ls 3 [(0, mV ad (some 0)), (1, mV ad r1_5)] → W p l e (mRm 5 113) s m ([mV ad (some 0)] : List Value).toArray below meth c H locs 0 0 (MQ below (va_Qv Q (mPost G kdC ad) (mA ad)) ([mV ad (some 0)] : List Value).toArray s 0 0 (mA ad)) (F0 m 5 ls []) := by
    refine m_loop (fun n5 ih5 => ?_)
    intro r1_5 σ_5 H locs ls h_5 hM_5 hl_5
    replace h_5 := hI5 n5 r1_5 σ_5 h_5
    refine mr_aload_n C dX2_judgeAsking_5 rfl (ml_at hl_5 1 rfl) ?_
    refine mr_ifnull (tgt := 47) C dX2_judgeAsking_6 (by decide) (fun hc => ?_) (fun i3 hc => ?_)
    · replace h_5 := h_5.1 hc
      subst hc
      exact mr_vret C hM_5 hr hlk h_5 dX2_judgeAsking_47
    · replace h_5 := h_5.2 i3 hc
      subst hc
      refine mr_aload_n C dX2_judgeAsking_9 rfl (ml_at hl_5 1 rfl) ?_
      obtain ⟨ho4, h_5⟩ := h_5
      refine fg_X2_238 C hM_5 ho4 dX2_judgeAsking_10 (fun r5 er5 => ?_)
      replace h_5 := h_5 r5 er5
      refine mr_astore_n (lv' := [(2, mV ad r5), (0, mV ad (some 0)), (1, mV ad (some i3))]) C hl_5 dX2_judgeAsking_13 rfl (by decide) rfl (fun ls hl6 => ?_)
      clear hl_5
      refine mr_aload_n C dX2_judgeAsking_14 rfl (ml_at hl6 2 rfl) ?_
      refine fg_X2_131 C hM_5 ho4 dX2_judgeAsking_15 ?_
      refine lv_iconst (v := 2) hx hb dX2_judgeAsking_18 (by decide) ?_
      refine lv_icmp_ne (tgt := 39) hx hb dX2_judgeAsking_19 (by decide) (fun hc7 => ?_) (fun hc7 => ?_)
      · replace h_5 := h_5.1 hc7
        refine mr_aload_n C dX2_judgeAsking_39 rfl (ml_at hl6 2 rfl) ?_
        refine fg_X2_190 C hM_5 ho4 dX2_judgeAsking_40 (fun r8 er8 => ?_)
        replace h_5 := h_5 r8 er8
        refine mr_astore_n (lv' := [(1, mV ad r8), (2, mV ad r5), (0, mV ad (some 0))]) C hl6 dX2_judgeAsking_43 rfl (by decide) rfl (fun ls hl9 => ?_)
        clear hl6
        refine lv_goto (tgt := 5) hx hb dX2_judgeAsking_44 (by decide) ?_
        obtain ⟨k10, hk10, h_5⟩ := h_5
        exact ih5 k10 hk10 r8 σ_5 _ _ _ h_5 hM_5 (ml_sub hl9 [2, 0] rfl)
      · replace h_5 := h_5.2 hc7
        refine mr_aload_n C dX2_judgeAsking_22 rfl (ml_at hl6 2 rfl) ?_
        refine fg_X2_241 C hM_5 ho4 dX2_judgeAsking_23 ?_
        refine lv_if_ne (tgt := 39) hx hb dX2_judgeAsking_26 (by decide) (fun hc11 => ?_) (fun hc11 => ?_)
        · replace h_5 := h_5.1 hc11
          refine mr_aload_n C dX2_judgeAsking_39 rfl (ml_at hl6 2 rfl) ?_
          refine fg_X2_190 C hM_5 ho4 dX2_judgeAsking_40 (fun r12 er12 => ?_)
          replace h_5 := h_5 r12 er12
          refine mr_astore_n (lv' := [(1, mV ad r12), (2, mV ad r5), (0, mV ad (some 0))]) C hl6 dX2_judgeAsking_43 rfl (by decide) rfl (fun ls hl13 => ?_)
          clear hl6
          refine lv_goto (tgt := 5) hx hb dX2_judgeAsking_44 (by decide) ?_
          obtain ⟨k14, hk14, h_5⟩ := h_5
          exact ih5 k14 hk14 r12 σ_5 _ _ _ h_5 hM_5 (ml_sub hl13 [2, 0] rfl)
        · replace h_5 := h_5.2 hc11
          refine mr_aload_n C dX2_judgeAsking_29 rfl (ml_at hl6 0 rfl) ?_
          refine mr_ifnull (tgt := 39) C dX2_judgeAsking_30 (by decide) (fun hc => ?_) (fun i15 hc => ?_)
          · replace h_5 := h_5.1 hc
            subst hc
            refine mr_aload_n C dX2_judgeAsking_39 rfl (ml_at hl6 2 rfl) ?_
            refine fg_X2_190 C hM_5 ho4 dX2_judgeAsking_40 (fun r16 er16 => ?_)
            replace h_5 := h_5 r16 er16
            refine mr_astore_n (lv' := [(1, mV ad r16), (2, mV ad none), (0, mV ad (some 0))]) C hl6 dX2_judgeAsking_43 rfl (by decide) rfl (fun ls hl17 => ?_)
            clear hl6
            refine lv_goto (tgt := 5) hx hb dX2_judgeAsking_44 (by decide) ?_
            obtain ⟨k18, hk18, h_5⟩ := h_5
            exact ih5 k18 hk18 r16 σ_5 _ _ _ h_5 hM_5 (ml_sub hl17 [2, 0] rfl)
          · replace h_5 := h_5.2 i15 hc
            subst hc
            refine mr_aload_n C dX2_judgeAsking_33 rfl (ml_at hl6 1 rfl) ?_
            refine mr_aload_n C dX2_judgeAsking_34 rfl (ml_at hl6 2 rfl) ?_
            refine mr_aload_n C dX2_judgeAsking_35 rfl (ml_at hl6 0 rfl) ?_
            refine mr_cv hM_5 (mr_runV (As := [mV ad (some i3), mV ad (some i15)]) C hM_5 hl6.1.1 (c_X2_judge l G ad (some i3) (some i15) σ_5 _ h_5) cw_X2_245 (mO_fix hM_5 rfl (by decide) (by decide) (by decide)) rfl rfl (n := 2) ⟨rfl, by decide, by decide, by decide +kernel⟩ rfl rfl ⟨Nat.le_of_ble_eq_true rfl, Nat.le_of_ble_eq_true rfl⟩ m_c0 (Nat.le_of_ble_eq_true rfl) dX2_judgeAsking_36 ⟨Nat.zero_le _, Nat.zero_le _⟩) (fun σ19 H locs h20 hM21 => ?_)
            clear h_5 hM_5
            refine mr_aload_n C dX2_judgeAsking_39 rfl (ml_at hl6 2 rfl) ?_
            obtain ⟨ho22, h20⟩ := h20
            refine fg_X2_190 C hM21 ho22 dX2_judgeAsking_40 (fun r23 er23 => ?_)
            replace h20 := h20 r23 er23
            refine mr_astore_n (lv' := [(1, mV ad r23), (2, mV ad (some i15)), (0, mV ad (some 0))]) C hl6 dX2_judgeAsking_43 rfl (by decide) rfl (fun ls hl24 => ?_)
            clear hl6
            refine lv_goto (tgt := 5) hx hb dX2_judgeAsking_44 (by decide) ?_
            obtain ⟨k25, hk25, h20⟩ := h20
            exact ih5 k25 hk25 r23 σ19 _ _ _ h20 hM21 (ml_sub hl24 [2, 0] rfl)
  exact hL5 nn5 r1 σ0 _ _ _ h hM (ml_sub hl2 [1, 0] rfl)
def w_X0_isOf (i0 : Nat) (a1 : Option Nat) (y2 : Int32) (σ0 : mS) (Q : Int32 → mS → Prop) : Prop := (mO kdC 0 i0 σ0 ∧ (∀ r2, r2 = mR σ0 i0 1 → ((¬ r2 = a1 → (Q (0 : Int32) σ0)) ∧ (r2 = a1 → ((¬ (mI σ0 i0 4) = y2 → (Q (0 : Int32) σ0)) ∧ ((mI σ0 i0 4) = y2 → (Q (1 : Int32) σ0)))))))
set_option maxRecDepth 100000 in
set_option maxHeartbeats 4000000 in
theorem c_X0_isOf (l : Launch) (G : mG) (ad : Nat → Nat) (i0 : Nat) (a1 : Option Nat) (y2 : Int32) (σ0 : mS) (Q : Int32 → mS → Prop) (h : w_X0_isOf i0 a1 y2 σ0 Q) : mKz l yX0_isOf cX0_isOf 3 0 0 G kdC ad σ0 [mV ad (some i0), mV ad a1, .int y2] Q := by
  refine mr_start (lst := [(0, mV ad (some i0)), (1, mV ad a1), (2, .int y2)]) (by decide) (m_cR (m_cR (m_cI m_c0))) rfl (Nat.le_of_ble_eq_true rfl) (fun p e s m below meth c C hM hr hlk ls hl => ?_)
  have hx := C.1.1
  have hb := C.1.2.1
  unfold w_X0_isOf at h
  refine mr_aload_n C dX0_isOf_0 rfl (ml_at hl 0 rfl) ?_
  obtain ⟨ho1, h⟩ := h
  refine fg_X0_21 C hM ho1 dX0_isOf_1 (fun r2 er2 => ?_)
  replace h := h r2 er2
  refine mr_aload_n C dX0_isOf_4 rfl (ml_at hl 1 rfl) ?_
  refine mr_acmp_ne (tgt := 20) C hM dX0_isOf_5 (by decide) (fun hc3 => ?_) (fun hc3 => ?_)
  · replace h := h.1 hc3
    refine lv_iconst (v := 0) hx hb dX0_isOf_20 (by decide) ?_
    exact mr_zret C hM hr hlk rfl h dX0_isOf_21
  · replace h := h.2 hc3
    refine mr_aload_n C dX0_isOf_8 rfl (ml_at hl 0 rfl) ?_
    refine fg_X0_9 C hM ho1 dX0_isOf_9 ?_
    refine lv_iload_n hx hb dX0_isOf_12 rfl (ml_at hl 2 rfl) ?_
    refine lv_icmp_ne (tgt := 20) hx hb dX0_isOf_13 (by decide) (fun hc4 => ?_) (fun hc4 => ?_)
    · replace h := h.1 hc4
      refine lv_iconst (v := 0) hx hb dX0_isOf_20 (by decide) ?_
      exact mr_zret C hM hr hlk rfl h dX0_isOf_21
    · replace h := h.2 hc4
      refine lv_iconst (v := 1) hx hb dX0_isOf_16 (by decide) ?_
      refine lv_goto (tgt := 21) hx hb dX0_isOf_17 (by decide) ?_
      exact mr_zret C hM hr hlk rfl h dX0_isOf_21
def w_X2_startQueuedOf (a1 : Option Nat) (σ0 : mS) (Q : mS → Prop) : Prop := (∀ r1, r1 = mR σ0 0 5 → (∃ I5 : Nat → Option Nat → mS → Prop, (∀ (n5 : Nat) (r2_5 : Option Nat) (σ_5 : mS), I5 n5 r2_5 σ_5 → ((r2_5 = none → (Q σ_5)) ∧ (∀ i3, r2_5 = some i3 → (∃ i4, a1 = some i4 ∧ (kdC i4 = (0, 1) ∧ w_X1_hasFreeWorker i4 σ_5 (fun x9 σ6 => ((x9 = 0 → (Q σ6)) ∧ (¬ x9 = 0 → (mO kdC 0 i3 σ6 ∧ w_X0_isOf i3 (some i4) (0 : Int32) σ6 (fun x15 σ12 => ((x15 = 0 → (mO kdC 0 i3 σ12 ∧ (∀ r18, r18 = mR σ12 i3 8 → (∃ k20, k20 < n5 ∧ I5 k20 r18 σ12)))) ∧ (¬ x15 = 0 → (mO kdC 0 i3 σ12 ∧ w_X0_canBeDone i3 (mI σ12 0 3) σ12 (fun x25 σ22 => ((x25 = 0 → w_X2_finish (some i3) (6 : Int32) σ22 (fun x30 σ27 => (mO kdC 0 i3 σ27 ∧ (∀ r32, r32 = mR σ27 i3 8 → (∃ k34, k34 < n5 ∧ I5 k34 r32 σ27))))) ∧ (¬ x25 = 0 → w_X2_startWork (some i3) σ22 (fun σ35 => (mO kdC 0 i3 σ35 ∧ (∀ r39, r39 = mR σ35 i3 8 → (∃ k41, k41 < n5 ∧ I5 k41 r39 σ35)))))))))))))))))))) ∧ ∃ n, I5 n r1 σ0))
set_option maxRecDepth 100000 in
set_option maxHeartbeats 4000000 in
theorem c_X2_startQueuedOf (l : Launch) (G : mG) (ad : Nat → Nat) (a1 : Option Nat) (σ0 : mS) (Q : mS → Prop) (h : w_X2_startQueuedOf a1 σ0 Q) : mKv l yX2_startQueuedOf cX2_startQueuedOf 3 3 68 G kdC ad σ0 [mV ad (some 0), mV ad a1] Q := by
  refine mr_start (lst := [(0, mV ad (some 0)), (1, mV ad a1)]) (by decide) (m_cR (m_cR m_c0)) rfl (Nat.le_of_ble_eq_true rfl) (fun p e s m below meth c C hM hr hlk ls hl => ?_)
  have hx := C.1.1
  have hb := C.1.2.1
  unfold w_X2_startQueuedOf at h
  refine mr_aload_n C dX2_startQueuedOf_0 rfl (ml_at hl 0 rfl) ?_
  refine fg_X2_155 C hM (mO_fix hM rfl (by decide) (by decide) (by decide)) dX2_startQueuedOf_1 (fun r1 er1 => ?_)
  replace h := h r1 er1
  refine mr_astore_n (lv' := [(2, mV ad r1), (0, mV ad (some 0)), (1, mV ad a1)]) C hl dX2_startQueuedOf_4 rfl (by decide) rfl (fun ls hl2 => ?_)
  clear hl
  obtain ⟨I5, hI5, nn5, h⟩ := h
  have hL5 : ∀ (n5 : Nat) (r2_5 : Option Nat) (σ_5 : mS) (H : Heap) (locs : List Loc) (ls : Array Slot), I5 n5 r2_5 σ_5 → mM G kdC ad s σ_5 H locs → ml_has ls 3 [(0, mV ad (some 0)), (1, mV ad a1), (2, mV ad r2_5)] → W p l e (mRm 3 68) s m ([mV ad (some 0), mV ad a1] : List Value).toArray below meth c H locs 0 0 (MQ below (va_Qv Q (mPost G kdC ad) (mA ad)) ([mV ad (some 0), mV ad a1] : List Value).toArray s 0 0 (mA ad)) (F0 m 5 ls []) := by
    refine m_loop (fun n5 ih5 => ?_)
    intro r2_5 σ_5 H locs ls h_5 hM_5 hl_5
    replace h_5 := hI5 n5 r2_5 σ_5 h_5
    refine mr_aload_n C dX2_startQueuedOf_5 rfl (ml_at hl_5 2 rfl) ?_
    refine mr_ifnull (tgt := 60) C dX2_startQueuedOf_6 (by decide) (fun hc => ?_) (fun i3 hc => ?_)
    · replace h_5 := h_5.1 hc
      subst hc
      exact mr_vret C hM_5 hr hlk h_5 dX2_startQueuedOf_60
    · replace h_5 := h_5.2 i3 hc
      subst hc
      refine mr_aload_n C dX2_startQueuedOf_9 rfl (ml_at hl_5 1 rfl) ?_
      obtain ⟨i4, rfl, h_5⟩ := h_5
      obtain ⟨hk5, h_5⟩ := h_5
      refine mr_ci hM_5 (mr_runV (As := []) C hM_5 hl_5.1.1 (c_X1_hasFreeWorker l G ad i4 σ_5 _ h_5) cw_X2_196 (mO_sv hM_5 hk5) rfl rfl (n := 0) ⟨rfl, by decide, by decide, by decide +kernel⟩ rfl rfl ⟨Nat.le_of_ble_eq_true rfl, Nat.le_of_ble_eq_true rfl⟩ m_c0 (Nat.le_of_ble_eq_true rfl) dX2_startQueuedOf_10 ⟨Nat.zero_le _, Nat.zero_le _⟩) (fun x9 σ6 H locs h7 hM8 => ?_)
      clear h_5 hM_5
      obtain ⟨h7, hzx9⟩ := h7
      refine lv_if_eq (tgt := 60) hx hb dX2_startQueuedOf_13 (by decide) (fun hc10 => ?_) (fun hc10 => ?_)
      · replace h7 := h7.1 hc10
        exact mr_vret C hM8 hr hlk h7 dX2_startQueuedOf_60
      · replace h7 := h7.2 hc10
        refine mr_aload_n C dX2_startQueuedOf_16 rfl (ml_at hl_5 2 rfl) ?_
        refine mr_aload_n C dX2_startQueuedOf_17 rfl (ml_at hl_5 1 rfl) ?_
        refine lv_iconst (v := 0) hx hb dX2_startQueuedOf_18 (by decide) ?_
        obtain ⟨ho11, h7⟩ := h7
        refine mr_ci hM8 (mr_runV (As := [mV ad (some i4), .int (0 : Int32)]) C hM8 hl_5.1.1 (c_X0_isOf l G ad i3 (some i4) (0 : Int32) σ6 _ h7) cw_X2_158 ho11 rfl rfl (n := 2) ⟨rfl, by decide, by decide, by decide +kernel⟩ rfl rfl ⟨Nat.le_of_ble_eq_true rfl, Nat.le_of_ble_eq_true rfl⟩ m_c0 (Nat.le_of_ble_eq_true rfl) dX2_startQueuedOf_19 ⟨Nat.zero_le _, Nat.zero_le _⟩) (fun x15 σ12 H locs h13 hM14 => ?_)
        clear h7 hM8
        obtain ⟨h13, hzx15⟩ := h13
        refine lv_if_eq (tgt := 52) hx hb dX2_startQueuedOf_22 (by decide) (fun hc16 => ?_) (fun hc16 => ?_)
        · replace h13 := h13.1 hc16
          refine mr_aload_n C dX2_startQueuedOf_52 rfl (ml_at hl_5 2 rfl) ?_
          obtain ⟨ho17, h13⟩ := h13
          refine fg_X2_148 C hM14 ho17 dX2_startQueuedOf_53 (fun r18 er18 => ?_)
          replace h13 := h13 r18 er18
          refine mr_astore_n (lv' := [(2, mV ad r18), (0, mV ad (some 0)), (1, mV ad (some i4))]) C hl_5 dX2_startQueuedOf_56 rfl (by decide) rfl (fun ls hl19 => ?_)
          clear hl_5
          refine lv_goto (tgt := 5) hx hb dX2_startQueuedOf_57 (by decide) ?_
          obtain ⟨k20, hk20, h13⟩ := h13
          exact ih5 k20 hk20 r18 σ12 _ _ _ h13 hM14 (ml_sub hl19 [1, 2, 0] rfl)
        · replace h13 := h13.2 hc16
          refine mr_aload_n C dX2_startQueuedOf_25 rfl (ml_at hl_5 2 rfl) ?_
          refine mr_aload_n C dX2_startQueuedOf_26 rfl (ml_at hl_5 0 rfl) ?_
          refine fg_X2_76 C hM14 (mO_fix hM14 rfl (by decide) (by decide) (by decide)) dX2_startQueuedOf_27 ?_
          obtain ⟨ho21, h13⟩ := h13
          refine mr_ci hM14 (mr_runV (As := [.int (mI σ12 0 3)]) C hM14 hl_5.1.1 (c_X0_canBeDone l G ad i3 (mI σ12 0 3) σ12 _ h13) cw_X2_193 ho21 rfl rfl (n := 1) ⟨rfl, by decide, by decide, by decide +kernel⟩ rfl rfl ⟨Nat.le_of_ble_eq_true rfl, Nat.le_of_ble_eq_true rfl⟩ m_c0 (Nat.le_of_ble_eq_true rfl) dX2_startQueuedOf_30 ⟨Nat.zero_le _, Nat.zero_le _⟩) (fun x25 σ22 H locs h23 hM24 => ?_)
          clear h13 hM14
          obtain ⟨h23, hzx25⟩ := h23
          refine lv_if_eq (tgt := 44) hx hb dX2_startQueuedOf_33 (by decide) (fun hc26 => ?_) (fun hc26 => ?_)
          · replace h23 := h23.1 hc26
            refine mr_aload_n C dX2_startQueuedOf_44 rfl (ml_at hl_5 0 rfl) ?_
            refine mr_aload_n C dX2_startQueuedOf_45 rfl (ml_at hl_5 2 rfl) ?_
            refine lv_bipush (v := 6) hx hb dX2_startQueuedOf_46 (by decide) ?_
            refine mr_ci hM24 (mr_runV (As := [mV ad (some i3), .int (6 : Int32)]) C hM24 hl_5.1.1 (c_X2_finish l G ad (some i3) (6 : Int32) σ22 _ h23) cw_X2_103 (mO_fix hM24 rfl (by decide) (by decide) (by decide)) rfl rfl (n := 2) ⟨rfl, by decide, by decide, by decide +kernel⟩ rfl rfl ⟨Nat.le_of_ble_eq_true rfl, Nat.le_of_ble_eq_true rfl⟩ m_c0 (Nat.le_of_ble_eq_true rfl) dX2_startQueuedOf_48 ⟨Nat.zero_le _, Nat.zero_le _⟩) (fun x30 σ27 H locs h28 hM29 => ?_)
            clear h23 hM24
            refine lv_pop hx hb dX2_startQueuedOf_51 rfl ?_
            refine mr_aload_n C dX2_startQueuedOf_52 rfl (ml_at hl_5 2 rfl) ?_
            obtain ⟨ho31, h28⟩ := h28
            refine fg_X2_148 C hM29 ho31 dX2_startQueuedOf_53 (fun r32 er32 => ?_)
            replace h28 := h28 r32 er32
            refine mr_astore_n (lv' := [(2, mV ad r32), (0, mV ad (some 0)), (1, mV ad (some i4))]) C hl_5 dX2_startQueuedOf_56 rfl (by decide) rfl (fun ls hl33 => ?_)
            clear hl_5
            refine lv_goto (tgt := 5) hx hb dX2_startQueuedOf_57 (by decide) ?_
            obtain ⟨k34, hk34, h28⟩ := h28
            exact ih5 k34 hk34 r32 σ27 _ _ _ h28 hM29 (ml_sub hl33 [1, 2, 0] rfl)
          · replace h23 := h23.2 hc26
            refine mr_aload_n C dX2_startQueuedOf_36 rfl (ml_at hl_5 0 rfl) ?_
            refine mr_aload_n C dX2_startQueuedOf_37 rfl (ml_at hl_5 2 rfl) ?_
            refine mr_cv hM24 (mr_runV (As := [mV ad (some i3)]) C hM24 hl_5.1.1 (c_X2_startWork l G ad (some i3) σ22 _ h23) cw_X2_199 (mO_fix hM24 rfl (by decide) (by decide) (by decide)) rfl rfl (n := 1) ⟨rfl, by decide, by decide, by decide +kernel⟩ rfl rfl ⟨Nat.le_of_ble_eq_true rfl, Nat.le_of_ble_eq_true rfl⟩ m_c0 (Nat.le_of_ble_eq_true rfl) dX2_startQueuedOf_38 ⟨Nat.zero_le _, Nat.zero_le _⟩) (fun σ35 H locs h36 hM37 => ?_)
            clear h23 hM24
            refine lv_goto (tgt := 52) hx hb dX2_startQueuedOf_41 (by decide) ?_
            refine mr_aload_n C dX2_startQueuedOf_52 rfl (ml_at hl_5 2 rfl) ?_
            obtain ⟨ho38, h36⟩ := h36
            refine fg_X2_148 C hM37 ho38 dX2_startQueuedOf_53 (fun r39 er39 => ?_)
            replace h36 := h36 r39 er39
            refine mr_astore_n (lv' := [(2, mV ad r39), (0, mV ad (some 0)), (1, mV ad (some i4))]) C hl_5 dX2_startQueuedOf_56 rfl (by decide) rfl (fun ls hl40 => ?_)
            clear hl_5
            refine lv_goto (tgt := 5) hx hb dX2_startQueuedOf_57 (by decide) ?_
            obtain ⟨k41, hk41, h36⟩ := h36
            exact ih5 k41 hk41 r39 σ35 _ _ _ h36 hM37 (ml_sub hl40 [1, 2, 0] rfl)
  exact hL5 nn5 r1 σ0 _ _ _ h hM (ml_sub hl2 [1, 2, 0] rfl)
def w_X2_startQueued  (σ0 : mS) (Q : mS → Prop) : Prop := (∃ I2 : Nat → Int32 → mS → Prop, (∀ (n2 : Nat) (x1_2 : Int32) (σ_2 : mS), I2 n2 x1_2 σ_2 → (((6 : Int32) ≤ x1_2 → (Q σ_2)) ∧ (¬ (6 : Int32) ≤ x1_2 → (∃ j3, x1_2 = nI j3 ∧ (j3 < 6 ∧ (∀ r5, r5 = mR σ_2 1 j3 → ((r5 = none → (∃ k9, k9 < n2 ∧ I2 k9 (x1_2 + 1) σ_2)) ∧ (∀ i7, r5 = some i7 → (kdC i7 = (0, 1) ∧ w_X1_countOf i7 (0 : Int32) σ_2 (fun x14 σ11 => ((x14 ≤ 0 → (∃ k17, k17 < n2 ∧ I2 k17 (x1_2 + 1) σ11)) ∧ (¬ x14 ≤ 0 → w_X2_startQueuedOf (some i7) σ11 (fun σ18 => (∃ k22, k22 < n2 ∧ I2 k22 (x1_2 + 1) σ18)))))))))))))) ∧ ∃ n, I2 n (0 : Int32) σ0)
set_option maxRecDepth 100000 in
set_option maxHeartbeats 4000000 in
theorem c_X2_startQueued (l : Launch) (G : mG) (ad : Nat → Nat)  (σ0 : mS) (Q : mS → Prop) (h : w_X2_startQueued  σ0 Q) : mKv l yX2_startQueued cX2_startQueued 3 4 90 G kdC ad σ0 [mV ad (some 0)] Q := by
  refine mr_start (lst := [(0, mV ad (some 0))]) (by decide) (m_cR m_c0) rfl (Nat.le_of_ble_eq_true rfl) (fun p e s m below meth c C hM hr hlk ls hl => ?_)
  have hx := C.1.1
  have hb := C.1.2.1
  unfold w_X2_startQueued at h
  refine lv_iconst (v := 0) hx hb dX2_startQueued_0 (by decide) ?_
  refine mr_istore_n (lv' := [(1, .int (0 : Int32)), (0, mV ad (some 0))]) C hl dX2_startQueued_1 rfl (by decide) rfl (fun ls hl1 => ?_)
  clear hl
  obtain ⟨I2, hI2, nn2, h⟩ := h
  have hL2 : ∀ (n2 : Nat) (x1_2 : Int32) (σ_2 : mS) (H : Heap) (locs : List Loc) (ls : Array Slot), I2 n2 x1_2 σ_2 → mM G kdC ad s σ_2 H locs → ml_has ls 3 [(0, mV ad (some 0)), (1, .int x1_2)] → W p l e (mRm 4 90) s m ([mV ad (some 0)] : List Value).toArray below meth c H locs 0 0 (MQ below (va_Qv Q (mPost G kdC ad) (mA ad)) ([mV ad (some 0)] : List Value).toArray s 0 0 (mA ad)) (F0 m 2 ls []) := by
    refine m_loop (fun n2 ih2 => ?_)
    intro x1_2 σ_2 H locs ls h_2 hM_2 hl_2
    replace h_2 := hI2 n2 x1_2 σ_2 h_2
    refine lv_iload_n hx hb dX2_startQueued_2 rfl (ml_at hl_2 1 rfl) ?_
    refine mr_aload_n C dX2_startQueued_3 rfl (ml_at hl_2 0 rfl) ?_
    refine fg_X2_11 (i := 0) C hM_2 (mO_fix hM_2 rfl (by decide) (by decide) (by decide)) dX2_startQueued_4 ?_
    refine mr_alen (v := 6) C hM_2 (mB_fix hM_2 rfl (by decide) (by decide) (by decide)) (by decide) (by decide) rfl dX2_startQueued_7 ?_
    refine lv_icmp_ge (tgt := 41) hx hb dX2_startQueued_8 (by decide) (fun hc2 => ?_) (fun hc2 => ?_)
    · replace h_2 := h_2.1 hc2
      exact mr_vret C hM_2 hr hlk h_2 dX2_startQueued_41
    · replace h_2 := h_2.2 hc2
      refine mr_aload_n C dX2_startQueued_11 rfl (ml_at hl_2 0 rfl) ?_
      refine fg_X2_11 (i := 0) C hM_2 (mO_fix hM_2 rfl (by decide) (by decide) (by decide)) dX2_startQueued_12 ?_
      refine lv_iload_n hx hb dX2_startQueued_15 rfl (ml_at hl_2 1 rfl) ?_
      obtain ⟨j3, ej4, ej4b, h_2⟩ := h_2
      refine mr_sld C hM_2 (mB_fix hM_2 rfl (by decide) (by decide) (by decide)) ej4 ej4b (by decide) dX2_startQueued_16 (fun r5 er5 => ?_)
      replace h_2 := h_2 r5 er5
      refine mr_astore_n (lv' := [(2, mV ad r5), (0, mV ad (some 0)), (1, .int x1_2)]) C hl_2 dX2_startQueued_17 rfl (by decide) rfl (fun ls hl6 => ?_)
      clear hl_2
      refine mr_aload_n C dX2_startQueued_18 rfl (ml_at hl6 0 rfl) ?_
      refine mr_ifnull (tgt := 35) C dX2_startQueued_19 (by decide) (fun hc => ?_) (fun i7 hc => ?_)
      · replace h_2 := h_2.1 hc
        subst hc
        refine mr_iinc (v := (x1_2 + 1)) (lv' := [(1, .int (x1_2 + 1)), (2, mV ad none), (0, mV ad (some 0))]) C hl6 dX2_startQueued_35 (k := 2) rfl rfl (by decide) rfl (fun ls hl8 => ?_)
        clear hl6
        refine lv_goto (tgt := 2) hx hb dX2_startQueued_38 (by decide) ?_
        obtain ⟨k9, hk9, h_2⟩ := h_2
        exact ih2 k9 hk9 (x1_2 + 1) σ_2 _ _ _ h_2 hM_2 (ml_sub hl8 [2, 0] rfl)
      · replace h_2 := h_2.2 i7 hc
        subst hc
        refine mr_aload_n C dX2_startQueued_22 rfl (ml_at hl6 0 rfl) ?_
        refine lv_iconst (v := 0) hx hb dX2_startQueued_23 (by decide) ?_
        obtain ⟨hk10, h_2⟩ := h_2
        refine mr_ci hM_2 (mr_runV (As := [.int (0 : Int32)]) C hM_2 hl6.1.1 (c_X1_countOf l G ad i7 (0 : Int32) σ_2 _ h_2) cw_X2_167 (mO_sv hM_2 hk10) rfl rfl (n := 1) ⟨rfl, by decide, by decide, by decide +kernel⟩ rfl rfl ⟨Nat.le_of_ble_eq_true rfl, Nat.le_of_ble_eq_true rfl⟩ m_c0 (Nat.le_of_ble_eq_true rfl) dX2_startQueued_24 ⟨Nat.zero_le _, Nat.zero_le _⟩) (fun x14 σ11 H locs h12 hM13 => ?_)
        clear h_2 hM_2
        refine lv_if_le (tgt := 35) hx hb dX2_startQueued_27 (by decide) (fun hc15 => ?_) (fun hc15 => ?_)
        · replace h12 := h12.1 hc15
          refine mr_iinc (v := (x1_2 + 1)) (lv' := [(1, .int (x1_2 + 1)), (2, mV ad (some i7)), (0, mV ad (some 0))]) C hl6 dX2_startQueued_35 (k := 2) rfl rfl (by decide) rfl (fun ls hl16 => ?_)
          clear hl6
          refine lv_goto (tgt := 2) hx hb dX2_startQueued_38 (by decide) ?_
          obtain ⟨k17, hk17, h12⟩ := h12
          exact ih2 k17 hk17 (x1_2 + 1) σ11 _ _ _ h12 hM13 (ml_sub hl16 [2, 0] rfl)
        · replace h12 := h12.2 hc15
          refine mr_aload_n C dX2_startQueued_30 rfl (ml_at hl6 1 rfl) ?_
          refine mr_aload_n C dX2_startQueued_31 rfl (ml_at hl6 0 rfl) ?_
          refine mr_cv hM13 (mr_runV (As := [mV ad (some i7)]) C hM13 hl6.1.1 (c_X2_startQueuedOf l G ad (some i7) σ11 _ h12) cw_X2_282 (mO_fix hM13 rfl (by decide) (by decide) (by decide)) rfl rfl (n := 1) ⟨rfl, by decide, by decide, by decide +kernel⟩ rfl rfl ⟨Nat.le_of_ble_eq_true rfl, Nat.le_of_ble_eq_true rfl⟩ m_c0 (Nat.le_of_ble_eq_true rfl) dX2_startQueued_32 ⟨Nat.zero_le _, Nat.zero_le _⟩) (fun σ18 H locs h19 hM20 => ?_)
          clear h12 hM13
          refine mr_iinc (v := (x1_2 + 1)) (lv' := [(1, .int (x1_2 + 1)), (2, mV ad (some i7)), (0, mV ad (some 0))]) C hl6 dX2_startQueued_35 (k := 2) rfl rfl (by decide) rfl (fun ls hl21 => ?_)
          clear hl6
          refine lv_goto (tgt := 2) hx hb dX2_startQueued_38 (by decide) ?_
          obtain ⟨k22, hk22, h19⟩ := h19
          exact ih2 k22 hk22 (x1_2 + 1) σ18 _ _ _ h19 hM20 (ml_sub hl21 [2, 0] rfl)
  exact hL2 nn2 (0 : Int32) σ0 _ _ _ h hM (ml_sub hl1 [1, 0] rfl)
def w_X0_isBelow (i0 : Nat) (a1 : Option Nat) (σ0 : mS) (Q : Int32 → mS → Prop) : Prop := (mO kdC 0 i0 σ0 ∧ (∀ r2, r2 = mR σ0 i0 2 → (∃ I5 : Nat → Option Nat → mS → Prop, (∀ (n5 : Nat) (r2_5 : Option Nat) (σ_5 : mS), I5 n5 r2_5 σ_5 → ((r2_5 = none → (Q (0 : Int32) σ_5)) ∧ (∀ i4, r2_5 = some i4 → ((¬ (some i4) = a1 → (mO kdC 0 i4 σ_5 ∧ (∀ r7, r7 = mR σ_5 i4 2 → (∃ k9, k9 < n5 ∧ I5 k9 r7 σ_5)))) ∧ ((some i4) = a1 → (Q (1 : Int32) σ_5)))))) ∧ ∃ n, I5 n r2 σ0)))
set_option maxRecDepth 100000 in
set_option maxHeartbeats 4000000 in
theorem c_X0_isBelow (l : Launch) (G : mG) (ad : Nat → Nat) (i0 : Nat) (a1 : Option Nat) (σ0 : mS) (Q : Int32 → mS → Prop) (h : w_X0_isBelow i0 a1 σ0 Q) : mKz l yX0_isBelow cX0_isBelow 3 0 0 G kdC ad σ0 [mV ad (some i0), mV ad a1] Q := by
  refine mr_start (lst := [(0, mV ad (some i0)), (1, mV ad a1)]) (by decide) (m_cR (m_cR m_c0)) rfl (Nat.le_of_ble_eq_true rfl) (fun p e s m below meth c C hM hr hlk ls hl => ?_)
  have hx := C.1.1
  have hb := C.1.2.1
  unfold w_X0_isBelow at h
  refine mr_aload_n C dX0_isBelow_0 rfl (ml_at hl 0 rfl) ?_
  obtain ⟨ho1, h⟩ := h
  refine fg_X0_25 C hM ho1 dX0_isBelow_1 (fun r2 er2 => ?_)
  replace h := h r2 er2
  refine mr_astore_n (lv' := [(2, mV ad r2), (0, mV ad (some i0)), (1, mV ad a1)]) C hl dX0_isBelow_4 rfl (by decide) rfl (fun ls hl3 => ?_)
  clear hl
  obtain ⟨I5, hI5, nn5, h⟩ := h
  have hL5 : ∀ (n5 : Nat) (r2_5 : Option Nat) (σ_5 : mS) (H : Heap) (locs : List Loc) (ls : Array Slot), I5 n5 r2_5 σ_5 → mM G kdC ad s σ_5 H locs → ml_has ls 3 [(1, mV ad a1), (2, mV ad r2_5)] → W p l e (mRm 0 0) s m ([mV ad (some i0), mV ad a1] : List Value).toArray below meth c H locs 0 0 (MQ below (va_Qi (fun r u => Q r u ∧ narrow .boolean (.int r) = .int r) (mPost G kdC ad) (mA ad)) ([mV ad (some i0), mV ad a1] : List Value).toArray s 0 0 (mA ad)) (F0 m 5 ls []) := by
    refine m_loop (fun n5 ih5 => ?_)
    intro r2_5 σ_5 H locs ls h_5 hM_5 hl_5
    replace h_5 := hI5 n5 r2_5 σ_5 h_5
    refine mr_aload_n C dX0_isBelow_5 rfl (ml_at hl_5 1 rfl) ?_
    refine mr_ifnull (tgt := 24) C dX0_isBelow_6 (by decide) (fun hc => ?_) (fun i4 hc => ?_)
    · replace h_5 := h_5.1 hc
      subst hc
      refine lv_iconst (v := 0) hx hb dX0_isBelow_24 (by decide) ?_
      exact mr_zret C hM_5 hr hlk rfl h_5 dX0_isBelow_25
    · replace h_5 := h_5.2 i4 hc
      subst hc
      refine mr_aload_n C dX0_isBelow_9 rfl (ml_at hl_5 1 rfl) ?_
      refine mr_aload_n C dX0_isBelow_10 rfl (ml_at hl_5 0 rfl) ?_
      refine mr_acmp_ne (tgt := 16) C hM_5 dX0_isBelow_11 (by decide) (fun hc5 => ?_) (fun hc5 => ?_)
      · replace h_5 := h_5.1 hc5
        refine mr_aload_n C dX0_isBelow_16 rfl (ml_at hl_5 1 rfl) ?_
        obtain ⟨ho6, h_5⟩ := h_5
        refine fg_X0_25 C hM_5 ho6 dX0_isBelow_17 (fun r7 er7 => ?_)
        replace h_5 := h_5 r7 er7
        refine mr_astore_n (lv' := [(2, mV ad r7), (1, mV ad a1)]) C hl_5 dX0_isBelow_20 rfl (by decide) rfl (fun ls hl8 => ?_)
        clear hl_5
        refine lv_goto (tgt := 5) hx hb dX0_isBelow_21 (by decide) ?_
        obtain ⟨k9, hk9, h_5⟩ := h_5
        exact ih5 k9 hk9 r7 σ_5 _ _ _ h_5 hM_5 (ml_sub hl8 [1, 0] rfl)
      · replace h_5 := h_5.2 hc5
        refine lv_iconst (v := 1) hx hb dX0_isBelow_14 (by decide) ?_
        exact mr_zret C hM_5 hr hlk rfl h_5 dX0_isBelow_15
  exact hL5 nn5 r2 σ0 _ _ _ h hM (ml_sub hl3 [2, 0] rfl)
def w_X0_noteTry (i0 : Nat) (y1 : Int32) (σ0 : mS) (Q : mS → Prop) : Prop := (mO kdC 0 i0 σ0 ∧ (∀ σ3, σ3 = sI σ0 i0 14 ((mI σ0 i0 14) + (1 : Int32)) → (∀ σ5, σ5 = sI σ3 i0 15 ((mI σ3 i0 15) + (1 : Int32)) → (∀ σ7, σ7 = sI σ5 i0 17 y1 → (Q σ7)))))
set_option maxRecDepth 100000 in
set_option maxHeartbeats 4000000 in
theorem c_X0_noteTry (l : Launch) (G : mG) (ad : Nat → Nat) (i0 : Nat) (y1 : Int32) (σ0 : mS) (Q : mS → Prop) (h : w_X0_noteTry i0 y1 σ0 Q) : mKv l yX0_noteTry cX0_noteTry 2 0 0 G kdC ad σ0 [mV ad (some i0), .int y1] Q := by
  refine mr_start (lst := [(0, mV ad (some i0)), (1, .int y1)]) (by decide) (m_cR (m_cI m_c0)) rfl (Nat.le_of_ble_eq_true rfl) (fun p e s m below meth c C hM hr hlk ls hl => ?_)
  have hx := C.1.1
  have hb := C.1.2.1
  unfold w_X0_noteTry at h
  refine mr_aload_n C dX0_noteTry_0 rfl (ml_at hl 0 rfl) ?_
  refine lv_dup hx hb dX0_noteTry_1 (mV_cat _ _) ?_
  obtain ⟨ho1, h⟩ := h
  refine fg_X0_65 C hM ho1 dX0_noteTry_2 ?_
  refine lv_iconst (v := 1) hx hb dX0_noteTry_5 (by decide) ?_
  refine lv_iadd hx hb dX0_noteTry_6 ?_
  refine fp_X0_65 C hM ho1 dX0_noteTry_7 ((mI σ0 i0 14) + (1 : Int32)) (fun H locs hM2 => ?_)
  clear hM
  obtain ⟨σ3, eσ3⟩ : ∃ y, y = sI σ0 i0 14 ((mI σ0 i0 14) + (1 : Int32)) := ⟨_, rfl⟩
  rw [← eσ3] at hM2
  replace h := h σ3 eσ3
  refine mr_aload_n C dX0_noteTry_10 rfl (ml_at hl 0 rfl) ?_
  refine lv_dup hx hb dX0_noteTry_11 (mV_cat _ _) ?_
  refine fg_X0_71 C hM2 (mO_I eσ3 ho1) dX0_noteTry_12 ?_
  refine lv_iconst (v := 1) hx hb dX0_noteTry_15 (by decide) ?_
  refine lv_iadd hx hb dX0_noteTry_16 ?_
  refine fp_X0_71 C hM2 (mO_I eσ3 ho1) dX0_noteTry_17 ((mI σ3 i0 15) + (1 : Int32)) (fun H locs hM4 => ?_)
  clear hM2
  obtain ⟨σ5, eσ5⟩ : ∃ y, y = sI σ3 i0 15 ((mI σ3 i0 15) + (1 : Int32)) := ⟨_, rfl⟩
  rw [← eσ5] at hM4
  replace h := h σ5 eσ5
  refine mr_aload_n C dX0_noteTry_20 rfl (ml_at hl 0 rfl) ?_
  refine lv_iload_n hx hb dX0_noteTry_21 rfl (ml_at hl 1 rfl) ?_
  refine fp_X0_74 C hM4 (mO_I eσ5 (mO_I eσ3 ho1)) dX0_noteTry_22 y1 (fun H locs hM6 => ?_)
  clear hM4
  obtain ⟨σ7, eσ7⟩ : ∃ y, y = sI σ5 i0 17 y1 := ⟨_, rfl⟩
  rw [← eσ7] at hM6
  replace h := h σ7 eσ7
  exact mr_vret C hM6 hr hlk h dX0_noteTry_25
def w_X1_addToRow (i0 : Nat) (a1 : Option Nat) (σ0 : mS) (Q : Int32 → mS → Prop) : Prop := (kdC i0 = (0, 1) ∧ (((mI σ0 i0 11) < (3 : Int32) → (∃ i3, a1 = some i3 ∧ (kdC i3 = (0, 1) ∧ (∃ j5, (mI σ0 i0 11) = nI j5 ∧ (j5 < 3 ∧ (∀ σ8, σ8 = sR σ0 (i0 + 1) j5 (some i3) → (∀ σ10, σ10 = sI σ8 i0 11 ((mI σ8 i0 11) + (1 : Int32)) → (Q (1 : Int32) σ10)))))))) ∧ (¬ (mI σ0 i0 11) < (3 : Int32) → (Q (0 : Int32) σ0))))
set_option maxRecDepth 100000 in
set_option maxHeartbeats 4000000 in
theorem c_X1_addToRow (l : Launch) (G : mG) (ad : Nat → Nat) (i0 : Nat) (a1 : Option Nat) (σ0 : mS) (Q : Int32 → mS → Prop) (h : w_X1_addToRow i0 a1 σ0 Q) : mKz l yX1_addToRow cX1_addToRow 2 0 0 G kdC ad σ0 [mV ad (some i0), mV ad a1] Q := by
  refine mr_start (lst := [(0, mV ad (some i0)), (1, mV ad a1)]) (by decide) (m_cR (m_cR m_c0)) rfl (Nat.le_of_ble_eq_true rfl) (fun p e s m below meth c C hM hr hlk ls hl => ?_)
  have hx := C.1.1
  have hb := C.1.2.1
  unfold w_X1_addToRow at h
  refine mr_aload_n C dX1_addToRow_0 rfl (ml_at hl 0 rfl) ?_
  obtain ⟨hk1, h⟩ := h
  refine fg_X1_35 C hM (mO_sv hM hk1) dX1_addToRow_1 ?_
  refine mr_aload_n C dX1_addToRow_4 rfl (ml_at hl 0 rfl) ?_
  refine fg_X1_24 (i := i0) C hM (mO_sv hM hk1) dX1_addToRow_5 ?_
  refine mr_alen (v := 3) C hM (mB_row hM hk1) (by decide) (by decide) rfl dX1_addToRow_8 ?_
  refine lv_icmp_lt (tgt := 14) hx hb dX1_addToRow_9 (by decide) (fun hc2 => ?_) (fun hc2 => ?_)
  · replace h := h.1 hc2
    refine mr_aload_n C dX1_addToRow_14 rfl (ml_at hl 0 rfl) ?_
    refine fg_X1_24 (i := i0) C hM (mO_sv hM hk1) dX1_addToRow_15 ?_
    refine mr_aload_n C dX1_addToRow_18 rfl (ml_at hl 0 rfl) ?_
    refine fg_X1_35 C hM (mO_sv hM hk1) dX1_addToRow_19 ?_
    refine mr_aload_n C dX1_addToRow_22 rfl (ml_at hl 1 rfl) ?_
    obtain ⟨i3, rfl, h⟩ := h
    obtain ⟨hk4, h⟩ := h
    obtain ⟨j5, ej6, ej6b, h⟩ := h
    refine mr_sst C hM (mB_row hM hk1) (mO_sv hM hk4) ej6 ej6b (by decide) dX1_addToRow_23 (fun H locs hM7 => ?_)
    clear hM
    obtain ⟨σ8, eσ8⟩ : ∃ y, y = sR σ0 (i0 + 1) j5 (some i3) := ⟨_, rfl⟩
    rw [← eσ8] at hM7
    replace h := h σ8 eσ8
    refine mr_aload_n C dX1_addToRow_24 rfl (ml_at hl 0 rfl) ?_
    refine lv_dup hx hb dX1_addToRow_25 (mV_cat _ _) ?_
    refine fg_X1_35 C hM7 (mO_sv hM7 hk1) dX1_addToRow_26 ?_
    refine lv_iconst (v := 1) hx hb dX1_addToRow_29 (by decide) ?_
    refine lv_iadd hx hb dX1_addToRow_30 ?_
    refine fp_X1_35 C hM7 (mO_sv hM7 hk1) dX1_addToRow_31 ((mI σ8 i0 11) + (1 : Int32)) (fun H locs hM9 => ?_)
    clear hM7
    obtain ⟨σ10, eσ10⟩ : ∃ y, y = sI σ8 i0 11 ((mI σ8 i0 11) + (1 : Int32)) := ⟨_, rfl⟩
    rw [← eσ10] at hM9
    replace h := h σ10 eσ10
    refine lv_iconst (v := 1) hx hb dX1_addToRow_34 (by decide) ?_
    exact mr_zret C hM9 hr hlk rfl h dX1_addToRow_35
  · replace h := h.2 hc2
    refine lv_iconst (v := 0) hx hb dX1_addToRow_12 (by decide) ?_
    exact mr_zret C hM hr hlk rfl h dX1_addToRow_13
