def w_X2_serviceAt (y1 : Int32) (σ0 : mS) (b : Nat) (Q : Option Nat → mS → Prop) (X : String → mS → Prop) : Prop := (∃ J23 : Option Nat → Nat → mS → Prop, (∀ (rk0_23 : Option Nat) (u_23 : Nat) (σ_23 : mS), J23 rk0_23 u_23 σ_23 → ((rk0_23 = none → (u_23 + 1 ≤ b ∧ (X xIO σ_23))) ∧ (∀ i2, rk0_23 = some i2 → (Q (some i2) σ_23)))) ∧ (∃ J22 : Nat → mS → Prop, (∀ (u_22 : Nat) (σ_22 : mS), J22 u_22 σ_22 → (J23 none u_22 σ_22)) ∧ ((y1 < 0 → (J22 0 σ0)) ∧ (¬ y1 < 0 → (((6 : Int32) ≤ y1 → (J22 0 σ0)) ∧ (¬ (6 : Int32) ≤ y1 → (∃ j6, y1 = nI j6 ∧ (j6 < 6 ∧ (∀ r8, r8 = mR σ0 1 j6 → (J23 r8 0 σ0))))))))))
set_option maxRecDepth 100000 in
set_option maxHeartbeats 4000000 in
theorem c_X2_serviceAt (l : Launch) (hfl : l.stackTraces = false) (G : mG) (ad : Nat → Nat) (y1 : Int32) (σ0 : mS) (b : Nat) (Q : Option Nat → mS → Prop) (X : String → mS → Prop) (h : w_X2_serviceAt y1 σ0 b Q X) : vx_Met l yX2_serviceAt (mWs yX2_serviceAt cX2_serviceAt 3 (some (.object "DeadlineCalls$Service"))) (mRb 6 90 b) (va_Pc [mV ad (some 0), .int y1] (mPreZ G ad σ0)) (va_Qq (fun (a : Option Nat) (u : mS) => ∃ i : Option Nat, a = i.map ad ∧ Q i u) (mPost G kdC ad) (mA ad)) (mXC X G ad) b (18 * b) (mA ad) := by
  refine mr_xstart (lst := [(0, mV ad (some 0)), (1, .int y1)]) (by decide) (m_cR (m_cI m_c0)) rfl (Nat.le_of_ble_eq_true rfl) (fun p e s m below meth c C hM Z hr hlk hout ls hl => ?_)
  have hx := C.1.1
  have hb := C.1.2.1
  unfold w_X2_serviceAt at h
  refine lv_iload_n hx hb dX2_serviceAt_0 rfl (ml_at hl 1 rfl) ?_
  obtain ⟨J23, hJ23, h⟩ := h
  have hj23 : ∀ (rk0_23 : Option Nat) (u_23 : Nat) (σ_23 : mS) (H : Heap) (locs : List Loc) (ls : Array Slot), u_23 ≤ b → J23 rk0_23 u_23 σ_23 → mM G kdC ad s σ_23 H locs → ml_has ls 3 [] → W p l e (mRb 6 90 b) s m ([mV ad (some 0), .int y1] : List Value).toArray below meth c H locs u_23 (18 * u_23) (vx_MQ below (va_Qq (fun (a : Option Nat) (u : mS) => ∃ i : Option Nat, a = i.map ad ∧ Q i u) (mPost G kdC ad) (mA ad)) (mXC X G ad) ([mV ad (some 0), .int y1] : List Value).toArray s b (18 * b) (mA ad)) (F0 m 23 ls [mV ad rk0_23]) := by
    intro rk0_23 u_23 σ_23 H locs ls hu_23 h_23 hM_23 hl_23
    replace h_23 := hJ23 rk0_23 u_23 σ_23 h_23
    refine mr_astore_n (lv' := [(2, mV ad rk0_23)]) C hl_23 dX2_serviceAt_23 rfl (by decide) rfl (fun ls hl1 => ?_)
    clear hl_23
    refine mr_aload_n C dX2_serviceAt_24 rfl (ml_at hl1 0 rfl) ?_
    refine mr_ifnonnull (tgt := 38) C dX2_serviceAt_25 (by decide) (fun i2 hc => ?_) (fun hc => ?_)
    · replace h_23 := h_23.2 i2 hc
      subst hc
      refine mr_aload_n C dX2_serviceAt_38 rfl (ml_at hl1 0 rfl) ?_
      exact mr_wi hu_23 (vx_ret (mr_aret C hM_23 hr hlk h_23 dX2_serviceAt_39))
    · replace h_23 := h_23.1 hc
      subst hc
      obtain ⟨hb3, h_23⟩ := h_23
      exact mr_throw (ik := 162) (is := 178) (ic := 166) (cls := xIO) (text := "no such service") C hM_23 Z hfl hl1.1.1 (by decide +kernel) (mw_3 _ (List.mem_of_getElem? (i := 3) rfl)) (mw_3 _ (List.mem_of_getElem? (i := 4) rfl)) mF_IO mBd_IO mOt_IO (by decide +kernel) hout hlk (by decide) (by decide) hb3 dX2_serviceAt_28 dX2_serviceAt_31 dX2_serviceAt_32 dX2_serviceAt_34 dX2_serviceAt_37 h_23
  obtain ⟨J22, hJ22, h⟩ := h
  have hj22 : ∀ (u_22 : Nat) (σ_22 : mS) (H : Heap) (locs : List Loc) (ls : Array Slot), u_22 ≤ b → J22 u_22 σ_22 → mM G kdC ad s σ_22 H locs → ml_has ls 3 [] → W p l e (mRb 6 90 b) s m ([mV ad (some 0), .int y1] : List Value).toArray below meth c H locs u_22 (18 * u_22) (vx_MQ below (va_Qq (fun (a : Option Nat) (u : mS) => ∃ i : Option Nat, a = i.map ad ∧ Q i u) (mPost G kdC ad) (mA ad)) (mXC X G ad) ([mV ad (some 0), .int y1] : List Value).toArray s b (18 * b) (mA ad)) (F0 m 22 ls []) := by
    intro u_22 σ_22 H locs ls hu_22 h_22 hM_22 hl_22
    replace h_22 := hJ22 u_22 σ_22 h_22
    refine mr_null C ad dX2_serviceAt_22 ?_
    exact hj23 none u_22 σ_22 _ _ _ hu_22 h_22 hM_22 (ml_sub hl_22 [] rfl)
  refine lv_if_lt (tgt := 22) hx hb dX2_serviceAt_1 (by decide) (fun hc4 => ?_) (fun hc4 => ?_)
  · replace h := h.1 hc4
    exact hj22 0 σ0 _ _ _ (Nat.zero_le _) h hM (ml_sub hl [] rfl)
  · replace h := h.2 hc4
    refine lv_iload_n hx hb dX2_serviceAt_4 rfl (ml_at hl 1 rfl) ?_
    refine mr_aload_n C dX2_serviceAt_5 rfl (ml_at hl 0 rfl) ?_
    refine fg_X2_11 (i := 0) C hM (mO_fix hM rfl (by decide) (by decide) (by decide)) dX2_serviceAt_6 ?_
    refine mr_alen (v := 6) C hM (mB_fix hM rfl (by decide) (by decide) (by decide)) (by decide) (by decide) rfl dX2_serviceAt_9 ?_
    refine lv_icmp_ge (tgt := 22) hx hb dX2_serviceAt_10 (by decide) (fun hc5 => ?_) (fun hc5 => ?_)
    · replace h := h.1 hc5
      exact hj22 0 σ0 _ _ _ (Nat.zero_le _) h hM (ml_sub hl [] rfl)
    · replace h := h.2 hc5
      refine mr_aload_n C dX2_serviceAt_13 rfl (ml_at hl 0 rfl) ?_
      refine fg_X2_11 (i := 0) C hM (mO_fix hM rfl (by decide) (by decide) (by decide)) dX2_serviceAt_14 ?_
      refine lv_iload_n hx hb dX2_serviceAt_17 rfl (ml_at hl 1 rfl) ?_
      obtain ⟨j6, ej7, ej7b, h⟩ := h
      refine mr_sld C hM (mB_fix hM rfl (by decide) (by decide) (by decide)) ej7 ej7b (by decide) dX2_serviceAt_18 (fun r8 er8 => ?_)
      replace h := h r8 er8
      refine lv_goto (tgt := 23) hx hb dX2_serviceAt_19 (by decide) ?_
      exact hj23 r8 0 σ0 _ _ _ (Nat.zero_le _) h hM (ml_sub hl [] rfl)
def w_X2_checkRange (y0 : Int32) (y1 : Int32) (y2 : Int32) (σ0 : mS) (b : Nat) (Q : mS → Prop) (X : String → mS → Prop) : Prop := ((y0 < y1 → (0 + 1 ≤ b ∧ (X xIA σ0))) ∧ (¬ y0 < y1 → ((y0 ≤ y2 → (Q σ0)) ∧ (¬ y0 ≤ y2 → (0 + 1 ≤ b ∧ (X xIA σ0))))))
set_option maxRecDepth 100000 in
set_option maxHeartbeats 4000000 in
theorem c_X2_checkRange (l : Launch) (hfl : l.stackTraces = false) (G : mG) (ad : Nat → Nat) (y0 : Int32) (y1 : Int32) (y2 : Int32) (σ0 : mS) (b : Nat) (Q : mS → Prop) (X : String → mS → Prop) (h : w_X2_checkRange y0 y1 y2 σ0 b Q X) : vx_Met l yX2_checkRange (mWs yX2_checkRange cX2_checkRange 3 none) (mRb 6 90 b) (va_Pc [.int y0, .int y1, .int y2] (mPreZ G ad σ0)) (va_Qv Q (mPost G kdC ad) (mA ad)) (mXC X G ad) b (18 * b) (mA ad) := by
  refine mr_xstart (lst := [(0, .int y0), (1, .int y1), (2, .int y2)]) (by decide) (m_cI (m_cI (m_cI m_c0))) rfl (Nat.le_of_ble_eq_true rfl) (fun p e s m below meth c C hM Z hr hlk hout ls hl => ?_)
  have hx := C.1.1
  have hb := C.1.2.1
  unfold w_X2_checkRange at h
  refine lv_iload_n hx hb dX2_checkRange_0 rfl (ml_at hl 0 rfl) ?_
  refine lv_iload_n hx hb dX2_checkRange_1 rfl (ml_at hl 1 rfl) ?_
  refine lv_icmp_lt (tgt := 10) hx hb dX2_checkRange_2 (by decide) (fun hc1 => ?_) (fun hc1 => ?_)
  · replace h := h.1 hc1
    obtain ⟨hb2, h⟩ := h
    exact mr_throw (ik := 42) (is := 182) (ic := 46) (cls := xIA) (text := "an argument is out of range") C hM Z hfl hl.1.1 (by decide +kernel) (mw_6 _ (List.mem_of_getElem? (i := 14) rfl)) (mw_6 _ (List.mem_of_getElem? (i := 15) rfl)) mF_IA mBd_IA mOt_IA (by decide +kernel) hout hlk (by decide) (by decide) hb2 dX2_checkRange_10 dX2_checkRange_13 dX2_checkRange_14 dX2_checkRange_16 dX2_checkRange_19 h
  · replace h := h.2 hc1
    refine lv_iload_n hx hb dX2_checkRange_5 rfl (ml_at hl 0 rfl) ?_
    refine lv_iload_n hx hb dX2_checkRange_6 rfl (ml_at hl 2 rfl) ?_
    refine lv_icmp_le (tgt := 20) hx hb dX2_checkRange_7 (by decide) (fun hc3 => ?_) (fun hc3 => ?_)
    · replace h := h.1 hc3
      exact mr_wi (Nat.zero_le _) (vx_ret (mr_vret C hM hr hlk h dX2_checkRange_20))
    · replace h := h.2 hc3
      obtain ⟨hb4, h⟩ := h
      exact mr_throw (ik := 42) (is := 182) (ic := 46) (cls := xIA) (text := "an argument is out of range") C hM Z hfl hl.1.1 (by decide +kernel) (mw_6 _ (List.mem_of_getElem? (i := 14) rfl)) (mw_6 _ (List.mem_of_getElem? (i := 15) rfl)) mF_IA mBd_IA mOt_IA (by decide +kernel) hout hlk (by decide) (by decide) hb4 dX2_checkRange_10 dX2_checkRange_13 dX2_checkRange_14 dX2_checkRange_16 dX2_checkRange_19 h
def w_X2_setWork (y1 : Int32) (y2 : Int32) (y3 : Int32) (σ0 : mS) (b : Nat) (Q : Int32 → mS → Prop) (X : String → mS → Prop) : Prop := (∃ k1, 0 + k1 ≤ b ∧ w_X2_serviceAt y1 σ0 k1 (fun r5 σ2 => (∃ k7, (0 + k1) + k7 ≤ b ∧ w_X2_checkRange y2 (1 : Int32) (20 : Int32) σ2 k7 (fun σ8 => (∃ k11, ((0 + k1) + k7) + k11 ≤ b ∧ w_X2_checkRange y3 (0 : Int32) (20 : Int32) σ8 k11 (fun σ12 => (∃ i15, r5 = some i15 ∧ (kdC i15 = (0, 1) ∧ (∀ σ19, σ19 = sI σ12 i15 1 y2 → (∀ σ21, σ21 = sI σ19 i15 2 y3 → (∀ σ23, σ23 = sI σ21 i15 3 (0 : Int32) → (Q (mI σ12 i15 1) σ23))))))) X)) X)) X)
set_option maxRecDepth 100000 in
set_option maxHeartbeats 4000000 in
theorem c_X2_setWork (l : Launch) (hfl : l.stackTraces = false) (G : mG) (ad : Nat → Nat) (y1 : Int32) (y2 : Int32) (y3 : Int32) (σ0 : mS) (b : Nat) (Q : Int32 → mS → Prop) (X : String → mS → Prop) (h : w_X2_setWork y1 y2 y3 σ0 b Q X) : vx_Met l yX2_setWork (mWs yX2_setWork cX2_setWork 6 (some .int)) (mRb 7 112 b) (va_Pc [mV ad (some 0), .int y1, .int y2, .int y3] (mPreZ G ad σ0)) (va_Qi Q (mPost G kdC ad) (mA ad)) (mXC X G ad) b (18 * b) (mA ad) := by
  refine mr_xstart (lst := [(0, mV ad (some 0)), (1, .int y1), (2, .int y2), (3, .int y3)]) (by decide) (m_cR (m_cI (m_cI (m_cI m_c0)))) rfl (Nat.le_of_ble_eq_true rfl) (fun p e s m below meth c C hM Z hr hlk hout ls hl => ?_)
  have hx := C.1.1
  have hb := C.1.2.1
  unfold w_X2_setWork at h
  refine mr_aload_n C dX2_setWork_0 rfl (ml_at hl 0 rfl) ?_
  refine lv_iload_n hx hb dX2_setWork_1 rfl (ml_at hl 1 rfl) ?_
  obtain ⟨k1, hk1, h⟩ := h
  refine mr_xcq hM hout hlk hk1 (mr_xrunV (As := [.int y1]) C hM Z hl.1.1 (c_X2_serviceAt l hfl G ad y1 σ0 k1 _ _ h) cw_X2_24 (mO_fix hM rfl (by decide) (by decide) (by decide)) rfl rfl (n := 1) ⟨rfl, by decide, by decide, by decide +kernel⟩ rfl rfl ⟨Nat.le_of_ble_eq_true rfl, Nat.le_of_ble_eq_true rfl⟩ m_c0 (Nat.le_of_ble_eq_true rfl) dX2_setWork_2 hk1) (fun r5 σ2 H locs h3 hM4 => ?_)
  clear h hM
  refine mr_astore (lv' := [(4, mV ad r5), (0, mV ad (some 0)), (1, .int y1), (2, .int y2), (3, .int y3)]) C hl dX2_setWork_5 (by decide) rfl (fun ls hl6 => ?_)
  clear hl
  refine lv_iload_n hx hb dX2_setWork_7 rfl (ml_at hl6 3 rfl) ?_
  refine lv_iconst (v := 1) hx hb dX2_setWork_8 (by decide) ?_
  refine lv_bipush (v := 20) hx hb dX2_setWork_9 (by decide) ?_
  obtain ⟨k7, hk7, h3⟩ := h3
  refine mr_xcv hM4 hout hlk hk7 (mr_xrunS (As := [.int y2, .int (1 : Int32), .int (20 : Int32)]) C hM4 Z hl6.1.1 (c_X2_checkRange l hfl G ad y2 (1 : Int32) (20 : Int32) σ2 k7 _ _ h3) cw_X2_28 (n := 3) ⟨rfl, by decide, by decide, by decide +kernel⟩ rfl rfl ⟨Nat.le_of_ble_eq_true rfl, Nat.le_of_ble_eq_true rfl⟩ m_c0 (Nat.le_of_ble_eq_true rfl) dX2_setWork_11 hk7) (fun σ8 H locs h9 hM10 => ?_)
  clear h3 hM4
  refine lv_iload_n hx hb dX2_setWork_14 rfl (ml_at hl6 4 rfl) ?_
  refine lv_iconst (v := 0) hx hb dX2_setWork_15 (by decide) ?_
  refine lv_bipush (v := 20) hx hb dX2_setWork_16 (by decide) ?_
  obtain ⟨k11, hk11, h9⟩ := h9
  refine mr_xcv hM10 hout hlk hk11 (mr_xrunS (As := [.int y3, .int (0 : Int32), .int (20 : Int32)]) C hM10 Z hl6.1.1 (c_X2_checkRange l hfl G ad y3 (0 : Int32) (20 : Int32) σ8 k11 _ _ h9) cw_X2_28 (n := 3) ⟨rfl, by decide, by decide, by decide +kernel⟩ rfl rfl ⟨Nat.le_of_ble_eq_true rfl, Nat.le_of_ble_eq_true rfl⟩ m_c0 (Nat.le_of_ble_eq_true rfl) dX2_setWork_18 hk11) (fun σ12 H locs h13 hM14 => ?_)
  clear h9 hM10
  refine mr_aload C dX2_setWork_21 (ml_at hl6 0 rfl) ?_
  obtain ⟨i15, rfl, h13⟩ := h13
  obtain ⟨hk16, h13⟩ := h13
  refine fg_X2_32 C hM14 (mO_sv hM14 hk16) dX2_setWork_23 ?_
  refine mr_istore (lv' := [(5, .int (mI σ12 i15 1)), (4, mV ad (some i15)), (0, mV ad (some 0)), (1, .int y1), (2, .int y2), (3, .int y3)]) C hl6 dX2_setWork_26 (by decide) rfl (fun ls hl17 => ?_)
  clear hl6
  refine mr_aload C dX2_setWork_28 (ml_at hl17 1 rfl) ?_
  refine lv_iload_n hx hb dX2_setWork_30 rfl (ml_at hl17 4 rfl) ?_
  refine fp_X2_32 C hM14 (mO_sv hM14 hk16) dX2_setWork_31 y2 (fun H locs hM18 => ?_)
  clear hM14
  obtain ⟨σ19, eσ19⟩ : ∃ y, y = sI σ12 i15 1 y2 := ⟨_, rfl⟩
  rw [← eσ19] at hM18
  replace h13 := h13 σ19 eσ19
  refine mr_aload C dX2_setWork_34 (ml_at hl17 1 rfl) ?_
  refine lv_iload_n hx hb dX2_setWork_36 rfl (ml_at hl17 5 rfl) ?_
  refine fp_X2_36 C hM18 (mO_sv hM18 hk16) dX2_setWork_37 y3 (fun H locs hM20 => ?_)
  clear hM18
  obtain ⟨σ21, eσ21⟩ : ∃ y, y = sI σ19 i15 2 y3 := ⟨_, rfl⟩
  rw [← eσ21] at hM20
  replace h13 := h13 σ21 eσ21
  refine mr_aload C dX2_setWork_40 (ml_at hl17 1 rfl) ?_
  refine lv_iconst (v := 0) hx hb dX2_setWork_42 (by decide) ?_
  refine fp_X2_39 C hM20 (mO_sv hM20 hk16) dX2_setWork_43 (0 : Int32) (fun H locs hM22 => ?_)
  clear hM20
  obtain ⟨σ23, eσ23⟩ : ∃ y, y = sI σ21 i15 3 (0 : Int32) := ⟨_, rfl⟩
  rw [← eσ23] at hM22
  replace h13 := h13 σ23 eσ23
  refine lv_iload hx hb dX2_setWork_46 (ml_at hl17 0 rfl) ?_
  exact mr_wi hk11 (vx_ret (mr_iret C hM22 hr hlk h13 dX2_setWork_48))
def w_X2_ask (y1 : Int32) (y2 : Int32) (σ0 : mS) (b : Nat) (Q : Int32 → mS → Prop) (X : String → mS → Prop) : Prop := (∃ k1, 0 + k1 ≤ b ∧ w_X2_serviceAt y1 σ0 k1 (fun r5 σ2 => (∃ k7, (0 + k1) + k7 ≤ b ∧ w_X2_serviceAt y2 σ2 k7 (fun r11 σ8 => ((y1 < y2 → (∃ i14, r5 = some i14 ∧ (kdC i14 = (0, 1) ∧ w_X1_addToRow i14 r11 σ8 (fun x19 σ16 => ((¬ x19 = 0 → (Q (mI σ16 i14 11) σ16)) ∧ (x19 = 0 → (((0 + k1) + k7) + 1 ≤ b ∧ (X xIS σ16)))))))) ∧ (¬ y1 < y2 → (((0 + k1) + k7) + 1 ≤ b ∧ (X xIA σ8))))) X)) X)
set_option maxRecDepth 100000 in
set_option maxHeartbeats 4000000 in
theorem c_X2_ask (l : Launch) (hfl : l.stackTraces = false) (G : mG) (ad : Nat → Nat) (y1 : Int32) (y2 : Int32) (σ0 : mS) (b : Nat) (Q : Int32 → mS → Prop) (X : String → mS → Prop) (h : w_X2_ask y1 y2 σ0 b Q X) : vx_Met l yX2_ask (mWs yX2_ask cX2_ask 5 (some .int)) (mRb 7 112 b) (va_Pc [mV ad (some 0), .int y1, .int y2] (mPreZ G ad σ0)) (va_Qi Q (mPost G kdC ad) (mA ad)) (mXC X G ad) b (18 * b) (mA ad) := by
  refine mr_xstart (lst := [(0, mV ad (some 0)), (1, .int y1), (2, .int y2)]) (by decide) (m_cR (m_cI (m_cI m_c0))) rfl (Nat.le_of_ble_eq_true rfl) (fun p e s m below meth c C hM Z hr hlk hout ls hl => ?_)
  have hx := C.1.1
  have hb := C.1.2.1
  unfold w_X2_ask at h
  refine mr_aload_n C dX2_ask_0 rfl (ml_at hl 0 rfl) ?_
  refine lv_iload_n hx hb dX2_ask_1 rfl (ml_at hl 1 rfl) ?_
  obtain ⟨k1, hk1, h⟩ := h
  refine mr_xcq hM hout hlk hk1 (mr_xrunV (As := [.int y1]) C hM Z hl.1.1 (c_X2_serviceAt l hfl G ad y1 σ0 k1 _ _ h) cw_X2_24 (mO_fix hM rfl (by decide) (by decide) (by decide)) rfl rfl (n := 1) ⟨rfl, by decide, by decide, by decide +kernel⟩ rfl rfl ⟨Nat.le_of_ble_eq_true rfl, Nat.le_of_ble_eq_true rfl⟩ m_c0 (Nat.le_of_ble_eq_true rfl) dX2_ask_2 hk1) (fun r5 σ2 H locs h3 hM4 => ?_)
  clear h hM
  refine mr_astore_n (lv' := [(3, mV ad r5), (0, mV ad (some 0)), (1, .int y1), (2, .int y2)]) C hl dX2_ask_5 rfl (by decide) rfl (fun ls hl6 => ?_)
  clear hl
  refine mr_aload_n C dX2_ask_6 rfl (ml_at hl6 1 rfl) ?_
  refine lv_iload_n hx hb dX2_ask_7 rfl (ml_at hl6 3 rfl) ?_
  obtain ⟨k7, hk7, h3⟩ := h3
  refine mr_xcq hM4 hout hlk hk7 (mr_xrunV (As := [.int y2]) C hM4 Z hl6.1.1 (c_X2_serviceAt l hfl G ad y2 σ2 k7 _ _ h3) cw_X2_24 (mO_fix hM4 rfl (by decide) (by decide) (by decide)) rfl rfl (n := 1) ⟨rfl, by decide, by decide, by decide +kernel⟩ rfl rfl ⟨Nat.le_of_ble_eq_true rfl, Nat.le_of_ble_eq_true rfl⟩ m_c0 (Nat.le_of_ble_eq_true rfl) dX2_ask_8 hk7) (fun r11 σ8 H locs h9 hM10 => ?_)
  clear h3 hM4
  refine mr_astore (lv' := [(4, mV ad r11), (3, mV ad r5), (0, mV ad (some 0)), (1, .int y1), (2, .int y2)]) C hl6 dX2_ask_11 (by decide) rfl (fun ls hl12 => ?_)
  clear hl6
  refine lv_iload_n hx hb dX2_ask_13 rfl (ml_at hl12 4 rfl) ?_
  refine lv_iload_n hx hb dX2_ask_14 rfl (ml_at hl12 3 rfl) ?_
  refine lv_icmp_gt (tgt := 28) hx hb dX2_ask_15 (by decide) (fun hc13 => ?_) (fun hc13 => ?_)
  · replace h9 := h9.1 hc13
    refine mr_aload_n C dX2_ask_28 rfl (ml_at hl12 1 rfl) ?_
    refine mr_aload C dX2_ask_29 (ml_at hl12 0 rfl) ?_
    obtain ⟨i14, rfl, h9⟩ := h9
    obtain ⟨hk15, h9⟩ := h9
    refine mr_ci hM10 (mr_runV (As := [mV ad r11]) C hM10 hl12.1.1 (c_X1_addToRow l G ad i14 r11 σ8 _ h9) cw_X2_49 (mO_sv hM10 hk15) rfl rfl (n := 1) ⟨rfl, by decide, by decide, by decide +kernel⟩ rfl rfl ⟨Nat.le_of_ble_eq_true rfl, Nat.le_of_ble_eq_true rfl⟩ m_c0 (Nat.le_of_ble_eq_true rfl) dX2_ask_31 ⟨hk7, Nat.mul_le_mul_left 18 hk7⟩) (fun x19 σ16 H locs h17 hM18 => ?_)
    clear h9 hM10
    obtain ⟨h17, hzx19⟩ := h17
    refine lv_if_ne (tgt := 47) hx hb dX2_ask_34 (by decide) (fun hc20 => ?_) (fun hc20 => ?_)
    · replace h17 := h17.1 hc20
      refine mr_aload_n C dX2_ask_47 rfl (ml_at hl12 1 rfl) ?_
      refine fg_X2_58 C hM18 (mO_sv hM18 hk15) dX2_ask_48 ?_
      exact mr_wi hk7 (vx_ret (mr_iret C hM18 hr hlk h17 dX2_ask_51))
    · replace h17 := h17.2 hc20
      obtain ⟨hb21, h17⟩ := h17
      exact mr_throw (ik := 53) (is := 55) (ic := 57) (cls := xIS) (text := "the service asks 3 already") C hM18 Z hfl hl12.1.1 (by decide +kernel) (mw_8 _ (List.mem_of_getElem? (i := 5) rfl)) (mw_8 _ (List.mem_of_getElem? (i := 6) rfl)) mF_IS mBd_IS mOt_IS (by decide +kernel) hout hlk (by decide) (by decide) hb21 dX2_ask_37 dX2_ask_40 dX2_ask_41 dX2_ask_43 dX2_ask_46 h17
  · replace h9 := h9.2 hc13
    obtain ⟨hb22, h9⟩ := h9
    exact mr_throw (ik := 42) (is := 44) (ic := 46) (cls := xIA) (text := "a service asks services above it alone") C hM10 Z hfl hl12.1.1 (by decide +kernel) (mw_6 _ (List.mem_of_getElem? (i := 14) rfl)) (mw_6 _ (List.mem_of_getElem? (i := 15) rfl)) mF_IA mBd_IA mOt_IA (by decide +kernel) hout hlk (by decide) (by decide) hb22 dX2_ask_18 dX2_ask_21 dX2_ask_22 dX2_ask_24 dX2_ask_27 h9
def w_X2_setRoom (y1 : Int32) (y2 : Int32) (y3 : Int32) (y4 : Int32) (σ0 : mS) (b : Nat) (Q : Int32 → mS → Prop) (X : String → mS → Prop) : Prop := (∃ k1, 0 + k1 ≤ b ∧ w_X2_serviceAt y1 σ0 k1 (fun r5 σ2 => (∃ k7, (0 + k1) + k7 ≤ b ∧ w_X2_checkRange y2 (1 : Int32) (5 : Int32) σ2 k7 (fun σ8 => (∃ k11, ((0 + k1) + k7) + k11 ≤ b ∧ w_X2_checkRange y3 (0 : Int32) (8 : Int32) σ8 k11 (fun σ12 => (∃ k15, (((0 + k1) + k7) + k11) + k15 ≤ b ∧ w_X2_checkRange y4 (0 : Int32) (50 : Int32) σ12 k15 (fun σ16 => (∃ i19, r5 = some i19 ∧ (kdC i19 = (0, 1) ∧ (∀ σ23, σ23 = sI σ16 i19 4 y2 → (∀ σ25, σ25 = sI σ23 i19 5 y3 → (∀ σ27, σ27 = sI σ25 i19 6 y4 → (Q (mI σ16 i19 4) σ27))))))) X)) X)) X)) X)
set_option maxRecDepth 100000 in
set_option maxHeartbeats 4000000 in
theorem c_X2_setRoom (l : Launch) (hfl : l.stackTraces = false) (G : mG) (ad : Nat → Nat) (y1 : Int32) (y2 : Int32) (y3 : Int32) (y4 : Int32) (σ0 : mS) (b : Nat) (Q : Int32 → mS → Prop) (X : String → mS → Prop) (h : w_X2_setRoom y1 y2 y3 y4 σ0 b Q X) : vx_Met l yX2_setRoom (mWs yX2_setRoom cX2_setRoom 7 (some .int)) (mRb 7 112 b) (va_Pc [mV ad (some 0), .int y1, .int y2, .int y3, .int y4] (mPreZ G ad σ0)) (va_Qi Q (mPost G kdC ad) (mA ad)) (mXC X G ad) b (18 * b) (mA ad) := by
  refine mr_xstart (lst := [(0, mV ad (some 0)), (1, .int y1), (2, .int y2), (3, .int y3), (4, .int y4)]) (by decide) (m_cR (m_cI (m_cI (m_cI (m_cI m_c0))))) rfl (Nat.le_of_ble_eq_true rfl) (fun p e s m below meth c C hM Z hr hlk hout ls hl => ?_)
  have hx := C.1.1
  have hb := C.1.2.1
  unfold w_X2_setRoom at h
  refine mr_aload_n C dX2_setRoom_0 rfl (ml_at hl 0 rfl) ?_
  refine lv_iload_n hx hb dX2_setRoom_1 rfl (ml_at hl 1 rfl) ?_
  obtain ⟨k1, hk1, h⟩ := h
  refine mr_xcq hM hout hlk hk1 (mr_xrunV (As := [.int y1]) C hM Z hl.1.1 (c_X2_serviceAt l hfl G ad y1 σ0 k1 _ _ h) cw_X2_24 (mO_fix hM rfl (by decide) (by decide) (by decide)) rfl rfl (n := 1) ⟨rfl, by decide, by decide, by decide +kernel⟩ rfl rfl ⟨Nat.le_of_ble_eq_true rfl, Nat.le_of_ble_eq_true rfl⟩ m_c0 (Nat.le_of_ble_eq_true rfl) dX2_setRoom_2 hk1) (fun r5 σ2 H locs h3 hM4 => ?_)
  clear h hM
  refine mr_astore (lv' := [(5, mV ad r5), (0, mV ad (some 0)), (1, .int y1), (2, .int y2), (3, .int y3), (4, .int y4)]) C hl dX2_setRoom_5 (by decide) rfl (fun ls hl6 => ?_)
  clear hl
  refine lv_iload_n hx hb dX2_setRoom_7 rfl (ml_at hl6 3 rfl) ?_
  refine lv_iconst (v := 1) hx hb dX2_setRoom_8 (by decide) ?_
  refine lv_iconst (v := 5) hx hb dX2_setRoom_9 (by decide) ?_
  obtain ⟨k7, hk7, h3⟩ := h3
  refine mr_xcv hM4 hout hlk hk7 (mr_xrunS (As := [.int y2, .int (1 : Int32), .int (5 : Int32)]) C hM4 Z hl6.1.1 (c_X2_checkRange l hfl G ad y2 (1 : Int32) (5 : Int32) σ2 k7 _ _ h3) cw_X2_28 (n := 3) ⟨rfl, by decide, by decide, by decide +kernel⟩ rfl rfl ⟨Nat.le_of_ble_eq_true rfl, Nat.le_of_ble_eq_true rfl⟩ m_c0 (Nat.le_of_ble_eq_true rfl) dX2_setRoom_10 hk7) (fun σ8 H locs h9 hM10 => ?_)
  clear h3 hM4
  refine lv_iload_n hx hb dX2_setRoom_13 rfl (ml_at hl6 4 rfl) ?_
  refine lv_iconst (v := 0) hx hb dX2_setRoom_14 (by decide) ?_
  refine lv_bipush (v := 8) hx hb dX2_setRoom_15 (by decide) ?_
  obtain ⟨k11, hk11, h9⟩ := h9
  refine mr_xcv hM10 hout hlk hk11 (mr_xrunS (As := [.int y3, .int (0 : Int32), .int (8 : Int32)]) C hM10 Z hl6.1.1 (c_X2_checkRange l hfl G ad y3 (0 : Int32) (8 : Int32) σ8 k11 _ _ h9) cw_X2_28 (n := 3) ⟨rfl, by decide, by decide, by decide +kernel⟩ rfl rfl ⟨Nat.le_of_ble_eq_true rfl, Nat.le_of_ble_eq_true rfl⟩ m_c0 (Nat.le_of_ble_eq_true rfl) dX2_setRoom_17 hk11) (fun σ12 H locs h13 hM14 => ?_)
  clear h9 hM10
  refine lv_iload hx hb dX2_setRoom_20 (ml_at hl6 5 rfl) ?_
  refine lv_iconst (v := 0) hx hb dX2_setRoom_22 (by decide) ?_
  refine lv_bipush (v := 50) hx hb dX2_setRoom_23 (by decide) ?_
  obtain ⟨k15, hk15, h13⟩ := h13
  refine mr_xcv hM14 hout hlk hk15 (mr_xrunS (As := [.int y4, .int (0 : Int32), .int (50 : Int32)]) C hM14 Z hl6.1.1 (c_X2_checkRange l hfl G ad y4 (0 : Int32) (50 : Int32) σ12 k15 _ _ h13) cw_X2_28 (n := 3) ⟨rfl, by decide, by decide, by decide +kernel⟩ rfl rfl ⟨Nat.le_of_ble_eq_true rfl, Nat.le_of_ble_eq_true rfl⟩ m_c0 (Nat.le_of_ble_eq_true rfl) dX2_setRoom_25 hk15) (fun σ16 H locs h17 hM18 => ?_)
  clear h13 hM14
  refine mr_aload C dX2_setRoom_28 (ml_at hl6 0 rfl) ?_
  obtain ⟨i19, rfl, h17⟩ := h17
  obtain ⟨hk20, h17⟩ := h17
  refine fg_X2_61 C hM18 (mO_sv hM18 hk20) dX2_setRoom_30 ?_
  refine mr_istore (lv' := [(6, .int (mI σ16 i19 4)), (5, mV ad (some i19)), (0, mV ad (some 0)), (1, .int y1), (2, .int y2), (3, .int y3), (4, .int y4)]) C hl6 dX2_setRoom_33 (by decide) rfl (fun ls hl21 => ?_)
  clear hl6
  refine mr_aload C dX2_setRoom_35 (ml_at hl21 1 rfl) ?_
  refine lv_iload_n hx hb dX2_setRoom_37 rfl (ml_at hl21 4 rfl) ?_
  refine fp_X2_61 C hM18 (mO_sv hM18 hk20) dX2_setRoom_38 y2 (fun H locs hM22 => ?_)
  clear hM18
  obtain ⟨σ23, eσ23⟩ : ∃ y, y = sI σ16 i19 4 y2 := ⟨_, rfl⟩
  rw [← eσ23] at hM22
  replace h17 := h17 σ23 eσ23
  refine mr_aload C dX2_setRoom_41 (ml_at hl21 1 rfl) ?_
  refine lv_iload_n hx hb dX2_setRoom_43 rfl (ml_at hl21 5 rfl) ?_
  refine fp_X2_64 C hM22 (mO_sv hM22 hk20) dX2_setRoom_44 y3 (fun H locs hM24 => ?_)
  clear hM22
  obtain ⟨σ25, eσ25⟩ : ∃ y, y = sI σ23 i19 5 y3 := ⟨_, rfl⟩
  rw [← eσ25] at hM24
  replace h17 := h17 σ25 eσ25
  refine mr_aload C dX2_setRoom_47 (ml_at hl21 1 rfl) ?_
  refine lv_iload hx hb dX2_setRoom_49 (ml_at hl21 6 rfl) ?_
  refine fp_X2_67 C hM24 (mO_sv hM24 hk20) dX2_setRoom_51 y4 (fun H locs hM26 => ?_)
  clear hM24
  obtain ⟨σ27, eσ27⟩ : ∃ y, y = sI σ25 i19 6 y4 := ⟨_, rfl⟩
  rw [← eσ27] at hM26
  replace h17 := h17 σ27 eσ27
  refine lv_iload hx hb dX2_setRoom_54 (ml_at hl21 0 rfl) ?_
  exact mr_wi hk15 (vx_ret (mr_iret C hM26 hr hlk h17 dX2_setRoom_56))
def w_X0_init (i0 : Nat) (y1 : Int32) (a2 : Option Nat) (a3 : Option Nat) (y4 : Int32) (σ0 : mS) (b : Nat) (Q : mS → Prop) : Prop := (mO kdC 0 i0 σ0 ∧ (∀ σ3, σ3 = sI σ0 i0 4 (-1 : Int32) → (∀ σ5, σ5 = sI σ3 i0 5 (-1 : Int32) → (∀ σ7, σ7 = sI σ5 i0 0 y1 → (∀ σ9, σ9 = sR σ7 i0 1 a2 → (∀ σ11, σ11 = sR σ9 i0 2 a3 → (∀ σ13, σ13 = sI σ11 i0 3 y4 → (Q σ13))))))))
set_option maxRecDepth 100000 in
set_option maxHeartbeats 4000000 in
theorem c_X0_init (l : Launch) (G : mG) (ad : Nat → Nat) (i0 : Nat) (y1 : Int32) (a2 : Option Nat) (a3 : Option Nat) (y4 : Int32) (σ0 : mS) (b : Nat) (Q : mS → Prop) (h : w_X0_init i0 y1 a2 a3 y4 σ0 b Q) : Met l yX0_init (mWs yX0_init cX0_init 5 none) (mRb 1 20 b) (va_Pc [mV ad (some i0), .int y1, mV ad a2, mV ad a3, .int y4] (mPre G kdC ad σ0)) (va_Qv Q (mPost G kdC ad) (mA ad)) b (18 * b) (mA ad) := by
  refine mr_bstart (lst := [(0, mV ad (some i0)), (1, .int y1), (2, mV ad a2), (3, mV ad a3), (4, .int y4)]) (by decide) (m_cR (m_cI (m_cR (m_cR (m_cI m_c0))))) rfl (Nat.le_of_ble_eq_true rfl) (fun p e s m below meth c C hM hr hlk hin ls hl => ?_)
  have hx := C.1.1
  have hb := C.1.2.1
  unfold w_X0_init at h
  refine mr_aload_n C dX0_init_0 rfl (ml_at hl 0 rfl) ?_
  refine mr_obj C hl.1.1 (mw_13 _ (List.mem_of_getElem? (i := 23) rfl)) (mw_1 _ (List.mem_of_getElem? (i := 8) rfl)) (mw_1 _ (List.mem_of_getElem? (i := 9) rfl)) (Nat.le_of_ble_eq_true rfl) (Nat.le_of_ble_eq_true rfl) dX0_init_1 ?_
  refine mr_aload_n C dX0_init_4 rfl (ml_at hl 0 rfl) ?_
  refine lv_iconst (v := -1) hx hb dX0_init_5 (by decide) ?_
  obtain ⟨ho1, h⟩ := h
  refine fp_X0_9 C hM ho1 dX0_init_6 (-1 : Int32) (fun H locs hM2 => ?_)
  clear hM
  obtain ⟨σ3, eσ3⟩ : ∃ y, y = sI σ0 i0 4 (-1 : Int32) := ⟨_, rfl⟩
  rw [← eσ3] at hM2
  replace h := h σ3 eσ3
  refine mr_aload_n C dX0_init_9 rfl (ml_at hl 0 rfl) ?_
  refine lv_iconst (v := -1) hx hb dX0_init_10 (by decide) ?_
  refine fp_X0_15 C hM2 (mO_I eσ3 ho1) dX0_init_11 (-1 : Int32) (fun H locs hM4 => ?_)
  clear hM2
  obtain ⟨σ5, eσ5⟩ : ∃ y, y = sI σ3 i0 5 (-1 : Int32) := ⟨_, rfl⟩
  rw [← eσ5] at hM4
  replace h := h σ5 eσ5
  refine mr_aload_n C dX0_init_14 rfl (ml_at hl 0 rfl) ?_
  refine lv_iload_n hx hb dX0_init_15 rfl (ml_at hl 1 rfl) ?_
  refine ff_X0_18 C hM4 (mO_I eσ5 (mO_I eσ3 ho1)) hin dX0_init_16 y1 (fun H locs hM6 => ?_)
  clear hM4
  obtain ⟨σ7, eσ7⟩ : ∃ y, y = sI σ5 i0 0 y1 := ⟨_, rfl⟩
  rw [← eσ7] at hM6
  replace h := h σ7 eσ7
  refine mr_aload_n C dX0_init_19 rfl (ml_at hl 0 rfl) ?_
  refine mr_aload_n C dX0_init_20 rfl (ml_at hl 2 rfl) ?_
  refine ff_X0_21 C hM6 (mO_I eσ7 (mO_I eσ5 (mO_I eσ3 ho1))) hin dX0_init_21 a2 (fun H locs hM8 => ?_)
  clear hM6
  obtain ⟨σ9, eσ9⟩ : ∃ y, y = sR σ7 i0 1 a2 := ⟨_, rfl⟩
  rw [← eσ9] at hM8
  replace h := h σ9 eσ9
  refine mr_aload_n C dX0_init_24 rfl (ml_at hl 0 rfl) ?_
  refine mr_aload_n C dX0_init_25 rfl (ml_at hl 3 rfl) ?_
  refine ff_X0_25 C hM8 (mO_R eσ9 (mO_I eσ7 (mO_I eσ5 (mO_I eσ3 ho1)))) hin dX0_init_26 a3 (fun H locs hM10 => ?_)
  clear hM8
  obtain ⟨σ11, eσ11⟩ : ∃ y, y = sR σ9 i0 2 a3 := ⟨_, rfl⟩
  rw [← eσ11] at hM10
  replace h := h σ11 eσ11
  refine mr_aload_n C dX0_init_29 rfl (ml_at hl 0 rfl) ?_
  refine lv_iload hx hb dX0_init_30 (ml_at hl 4 rfl) ?_
  refine ff_X0_29 C hM10 (mO_R eσ11 (mO_R eσ9 (mO_I eσ7 (mO_I eσ5 (mO_I eσ3 ho1))))) hin dX0_init_32 y4 (fun H locs hM12 => ?_)
  clear hM10
  obtain ⟨σ13, eσ13⟩ : ∃ y, y = sI σ11 i0 3 y4 := ⟨_, rfl⟩
  rw [← eσ13] at hM12
  replace h := h σ13 eσ13
  exact mr_wi (Nat.zero_le _) (mr_vret C hM12 hr hlk h dX0_init_35)
def w_X2_makeCall (a1 : Option Nat) (a2 : Option Nat) (y3 : Int32) (σ0 : mS) (b : Nat) (Q : Option Nat → mS → Prop) : Prop := (0 + 1 ≤ b ∧ (∀ i2, i2 = mN σ0 → (∀ σ3, σ3 = sN σ0 → w_X0_init i2 (mI σ3 0 2) a1 a2 y3 σ3 0 (fun σ6 => (∃ J49 : Nat → mS → Prop, (∀ (u_49 : Nat) (σ_49 : mS), J49 u_49 σ_49 → (∀ r10, r10 = mR σ_49 0 6 → (mO kdC 0 i2 σ_49 ∧ (∀ σ13, σ13 = sR σ_49 i2 7 r10 → (∀ r14, r14 = mR σ13 0 6 → ((r14 = none → (∀ σ17, σ17 = sR σ13 0 5 (some i2) → (∀ σ19, σ19 = sR σ17 0 6 (some i2) → (Q (some i2) σ19)))) ∧ (∀ i15, r14 = some i15 → (∀ r20, r20 = mR σ13 0 6 → (∃ i21, r20 = some i21 ∧ (mO kdC 0 i21 σ13 ∧ (∀ σ24, σ24 = sR σ13 i21 8 (some i2) → (∀ σ26, σ26 = sR σ24 0 6 (some i2) → (Q (some i2) σ26))))))))))))) ∧ (((200 : Int32) ≤ (mI σ6 0 2) → (J49 (0 + 1) σ6)) ∧ (¬ (200 : Int32) ≤ (mI σ6 0 2) → (mO kdC 0 i2 σ6 ∧ (∃ j29, (mI σ6 0 2) = nI j29 ∧ (j29 < 200 ∧ (∀ σ32, σ32 = sR σ6 2 j29 (some i2) → (∀ σ34, σ34 = sI σ32 0 2 ((mI σ32 0 2) + (1 : Int32)) → (J49 (0 + 1) σ34)))))))))))))
set_option maxRecDepth 100000 in
set_option maxHeartbeats 4000000 in
theorem c_X2_makeCall (l : Launch) (G : mG) (ad : Nat → Nat) (a1 : Option Nat) (a2 : Option Nat) (y3 : Int32) (σ0 : mS) (b : Nat) (Q : Option Nat → mS → Prop) (h : w_X2_makeCall a1 a2 y3 σ0 b Q) : Met l yX2_makeCall (mWs yX2_makeCall cX2_makeCall 5 (some (.object "DeadlineCalls$Call"))) (mRb 2 44 b) (va_Pc [mV ad (some 0), mV ad a1, mV ad a2, .int y3] (mPre G kdC ad σ0)) (va_Qq (fun (a : Option Nat) (u : mS) => ∃ i : Option Nat, a = i.map ad ∧ Q i u) (mPost G kdC ad) (mA ad)) b (18 * b) (mA ad) := by
  refine mr_bstart (lst := [(0, mV ad (some 0)), (1, mV ad a1), (2, mV ad a2), (3, .int y3)]) (by decide) (m_cR (m_cR (m_cR (m_cI m_c0)))) rfl (Nat.le_of_ble_eq_true rfl) (fun p e s m below meth c C hM hr hlk hin ls hl => ?_)
  have hx := C.1.1
  have hb := C.1.2.1
  unfold w_X2_makeCall at h
  obtain ⟨hb1, h⟩ := h
  refine mr_new C hM (mw_1 _ (List.mem_of_getElem? (i := 12) rfl)) (mw_13 _ (List.mem_of_getElem? (i := 19) rfl)) (mw_4 _ (List.mem_of_getElem? (i := 18) rfl)) hb1 dX2_makeCall_0 (fun H hM5 ho4 => ?_)
  clear hM
  obtain ⟨i2, ei2⟩ : ∃ y, y = mN σ0 := ⟨_, rfl⟩
  obtain ⟨σ3, eσ3⟩ : ∃ y, y = sN σ0 := ⟨_, rfl⟩
  rw [← ei2, ← eσ3] at ho4
  rw [← eσ3] at hM5
  rw [← ei2]
  replace h := h i2 ei2 σ3 eσ3
  refine lv_dup hx hb dX2_makeCall_3 (mV_cat _ _) ?_
  refine mr_aload_n C dX2_makeCall_4 rfl (ml_at hl 0 rfl) ?_
  refine fg_X2_128 C hM5 (mO_fix hM5 rfl (by decide) (by decide) (by decide)) dX2_makeCall_5 ?_
  refine mr_aload_n C dX2_makeCall_8 rfl (ml_at hl 1 rfl) ?_
  refine mr_aload_n C dX2_makeCall_9 rfl (ml_at hl 2 rfl) ?_
  refine lv_iload_n hx hb dX2_makeCall_10 rfl (ml_at hl 3 rfl) ?_
  refine mr_cv hM5 (mr_runI (As := [.int (mI σ3 0 2), mV ad a1, mV ad a2, .int y3]) C hM5 hl.1.1 (c_X0_init l G ad i2 (mI σ3 0 2) a1 a2 y3 σ3 0 _ h) (mw_13 _ (List.mem_of_getElem? (i := 20) rfl)) (mw_13 _ (List.mem_of_getElem? (i := 21) rfl)) (mw_4 _ (List.mem_of_getElem? (i := 18) rfl)) (mw_13 _ (List.mem_of_getElem? (i := 22) rfl)) rfl (n := 4) ⟨by decide, by decide, by decide +kernel⟩ rfl rfl ⟨Nat.le_of_ble_eq_true rfl, Nat.le_of_ble_eq_true rfl⟩ (m_cR m_c0) (Nat.le_of_ble_eq_true rfl) dX2_makeCall_11 hb1) (fun σ6 H locs h7 hM8 => ?_)
  clear h hM5
  refine mr_astore (lv' := [(4, mV ad (some i2)), (0, mV ad (some 0)), (1, mV ad a1), (2, mV ad a2), (3, .int y3)]) C hl dX2_makeCall_14 (by decide) rfl (fun ls hl9 => ?_)
  clear hl
  refine mr_aload_n C dX2_makeCall_16 rfl (ml_at hl9 1 rfl) ?_
  refine fg_X2_128 C hM8 (mO_fix hM8 rfl (by decide) (by decide) (by decide)) dX2_makeCall_17 ?_
  refine mr_aload_n C dX2_makeCall_20 rfl (ml_at hl9 1 rfl) ?_
  refine fg_X2_17 (i := 0) C hM8 (mO_fix hM8 rfl (by decide) (by decide) (by decide)) dX2_makeCall_21 ?_
  refine mr_alen (v := 200) C hM8 (mB_fix hM8 rfl (by decide) (by decide) (by decide)) (by decide) (by decide) rfl dX2_makeCall_24 ?_
  obtain ⟨J49, hJ49, h7⟩ := h7
  have hj49 : ∀ (u_49 : Nat) (σ_49 : mS) (H : Heap) (locs : List Loc) (ls : Array Slot), u_49 ≤ b → J49 u_49 σ_49 → mM G kdC ad s σ_49 H locs → ml_has ls 5 [(0, mV ad (some 0)), (4, mV ad (some i2))] → W p l e (mRb 2 44 b) s m ([mV ad (some 0), mV ad a1, mV ad a2, .int y3] : List Value).toArray below meth c H locs u_49 (18 * u_49) (MQ below (va_Qq (fun (a : Option Nat) (u : mS) => ∃ i : Option Nat, a = i.map ad ∧ Q i u) (mPost G kdC ad) (mA ad)) ([mV ad (some 0), mV ad a1, mV ad a2, .int y3] : List Value).toArray s b (18 * b) (mA ad)) (F0 m 49 ls []) := by
    intro u_49 σ_49 H locs ls hu_49 h_49 hM_49 hl_49
    replace h_49 := hJ49 u_49 σ_49 h_49
    refine mr_aload C dX2_makeCall_49 (ml_at hl_49 1 rfl) ?_
    refine mr_aload_n C dX2_makeCall_51 rfl (ml_at hl_49 0 rfl) ?_
    refine fg_X2_187 C hM_49 (mO_fix hM_49 rfl (by decide) (by decide) (by decide)) dX2_makeCall_52 (fun r10 er10 => ?_)
    replace h_49 := h_49 r10 er10
    obtain ⟨ho11, h_49⟩ := h_49
    refine fp_X2_190 C hM_49 ho11 dX2_makeCall_55 r10 (fun H locs hM12 => ?_)
    clear hM_49
    obtain ⟨σ13, eσ13⟩ : ∃ y, y = sR σ_49 i2 7 r10 := ⟨_, rfl⟩
    rw [← eσ13] at hM12
    replace h_49 := h_49 σ13 eσ13
    refine mr_aload_n C dX2_makeCall_58 rfl (ml_at hl_49 0 rfl) ?_
    refine fg_X2_187 C hM12 (mO_fix hM12 rfl (by decide) (by decide) (by decide)) dX2_makeCall_59 (fun r14 er14 => ?_)
    replace h_49 := h_49 r14 er14
    refine mr_ifnonnull (tgt := 74) C dX2_makeCall_62 (by decide) (fun i15 hc => ?_) (fun hc => ?_)
    · replace h_49 := h_49.2 i15 hc
      subst hc
      refine mr_aload_n C dX2_makeCall_74 rfl (ml_at hl_49 0 rfl) ?_
      refine fg_X2_187 C hM12 (mO_fix hM12 rfl (by decide) (by decide) (by decide)) dX2_makeCall_75 (fun r20 er20 => ?_)
      replace h_49 := h_49 r20 er20
      refine mr_aload C dX2_makeCall_78 (ml_at hl_49 1 rfl) ?_
      obtain ⟨i21, rfl, h_49⟩ := h_49
      obtain ⟨ho22, h_49⟩ := h_49
      refine fp_X2_148 C hM12 ho22 dX2_makeCall_80 (some i2) (fun H locs hM23 => ?_)
      clear hM12
      obtain ⟨σ24, eσ24⟩ : ∃ y, y = sR σ13 i21 8 (some i2) := ⟨_, rfl⟩
      rw [← eσ24] at hM23
      replace h_49 := h_49 σ24 eσ24
      refine mr_aload_n C dX2_makeCall_83 rfl (ml_at hl_49 0 rfl) ?_
      refine mr_aload C dX2_makeCall_84 (ml_at hl_49 1 rfl) ?_
      refine fp_X2_187 C hM23 (mO_fix hM23 rfl (by decide) (by decide) (by decide)) dX2_makeCall_86 (some i2) (fun H locs hM25 => ?_)
      clear hM23
      obtain ⟨σ26, eσ26⟩ : ∃ y, y = sR σ24 0 6 (some i2) := ⟨_, rfl⟩
      rw [← eσ26] at hM25
      replace h_49 := h_49 σ26 eσ26
      refine mr_aload C dX2_makeCall_89 (ml_at hl_49 1 rfl) ?_
      exact mr_wi hu_49 (mr_aret C hM25 hr hlk h_49 dX2_makeCall_91)
    · replace h_49 := h_49.1 hc
      subst hc
      refine mr_aload_n C dX2_makeCall_65 rfl (ml_at hl_49 0 rfl) ?_
      refine mr_aload C dX2_makeCall_66 (ml_at hl_49 1 rfl) ?_
      refine fp_X2_155 C hM12 (mO_fix hM12 rfl (by decide) (by decide) (by decide)) dX2_makeCall_68 (some i2) (fun H locs hM16 => ?_)
      clear hM12
      obtain ⟨σ17, eσ17⟩ : ∃ y, y = sR σ13 0 5 (some i2) := ⟨_, rfl⟩
      rw [← eσ17] at hM16
      replace h_49 := h_49 σ17 eσ17
      refine lv_goto (tgt := 83) hx hb dX2_makeCall_71 (by decide) ?_
      refine mr_aload_n C dX2_makeCall_83 rfl (ml_at hl_49 0 rfl) ?_
      refine mr_aload C dX2_makeCall_84 (ml_at hl_49 1 rfl) ?_
      refine fp_X2_187 C hM16 (mO_fix hM16 rfl (by decide) (by decide) (by decide)) dX2_makeCall_86 (some i2) (fun H locs hM18 => ?_)
      clear hM16
      obtain ⟨σ19, eσ19⟩ : ∃ y, y = sR σ17 0 6 (some i2) := ⟨_, rfl⟩
      rw [← eσ19] at hM18
      replace h_49 := h_49 σ19 eσ19
      refine mr_aload C dX2_makeCall_89 (ml_at hl_49 1 rfl) ?_
      exact mr_wi hu_49 (mr_aret C hM18 hr hlk h_49 dX2_makeCall_91)
  refine lv_icmp_ge (tgt := 49) hx hb dX2_makeCall_25 (by decide) (fun hc27 => ?_) (fun hc27 => ?_)
  · replace h7 := h7.1 hc27
    exact hj49 (0 + 1) σ6 _ _ _ hb1 h7 hM8 (ml_sub hl9 [1, 0] rfl)
  · replace h7 := h7.2 hc27
    refine mr_aload_n C dX2_makeCall_28 rfl (ml_at hl9 1 rfl) ?_
    refine fg_X2_17 (i := 0) C hM8 (mO_fix hM8 rfl (by decide) (by decide) (by decide)) dX2_makeCall_29 ?_
    refine mr_aload_n C dX2_makeCall_32 rfl (ml_at hl9 1 rfl) ?_
    refine fg_X2_128 C hM8 (mO_fix hM8 rfl (by decide) (by decide) (by decide)) dX2_makeCall_33 ?_
    refine mr_aload C dX2_makeCall_36 (ml_at hl9 0 rfl) ?_
    obtain ⟨ho28, h7⟩ := h7
    obtain ⟨j29, ej30, ej30b, h7⟩ := h7
    refine mr_cst C hM8 (mB_fix hM8 rfl (by decide) (by decide) (by decide)) ho28 ej30 ej30b (by decide) dX2_makeCall_38 (fun H locs hM31 => ?_)
    clear hM8
    obtain ⟨σ32, eσ32⟩ : ∃ y, y = sR σ6 2 j29 (some i2) := ⟨_, rfl⟩
    rw [← eσ32] at hM31
    replace h7 := h7 σ32 eσ32
    refine mr_aload_n C dX2_makeCall_39 rfl (ml_at hl9 1 rfl) ?_
    refine lv_dup hx hb dX2_makeCall_40 (mV_cat _ _) ?_
    refine fg_X2_128 C hM31 (mO_fix hM31 rfl (by decide) (by decide) (by decide)) dX2_makeCall_41 ?_
    refine lv_iconst (v := 1) hx hb dX2_makeCall_44 (by decide) ?_
    refine lv_iadd hx hb dX2_makeCall_45 ?_
    refine fp_X2_128 C hM31 (mO_fix hM31 rfl (by decide) (by decide) (by decide)) dX2_makeCall_46 ((mI σ32 0 2) + (1 : Int32)) (fun H locs hM33 => ?_)
    clear hM31
    obtain ⟨σ34, eσ34⟩ : ∃ y, y = sI σ32 0 2 ((mI σ32 0 2) + (1 : Int32)) := ⟨_, rfl⟩
    rw [← eσ34] at hM33
    replace h7 := h7 σ34 eσ34
    exact hj49 (0 + 1) σ34 _ _ _ hb1 h7 hM33 (ml_sub hl9 [1, 0] rfl)
def w_X2_call (y1 : Int32) (y2 : Int32) (σ0 : mS) (b : Nat) (Q : Int32 → mS → Prop) (X : String → mS → Prop) : Prop := (∃ k1, 0 + k1 ≤ b ∧ w_X2_serviceAt y1 σ0 k1 (fun r5 σ2 => (∃ k7, (0 + k1) + k7 ≤ b ∧ w_X2_checkRange y2 (1 : Int32) (100 : Int32) σ2 k7 (fun σ8 => w_X2_isFull  σ8 (fun x14 σ11 => ((x14 = 0 → (∃ k16, ((0 + k1) + k7) + k16 ≤ b ∧ w_X2_makeCall r5 none ((mI σ11 0 3) + y2) σ11 k16 (fun r20 σ17 => w_X2_begin r20 σ17 (fun σ22 => (∃ i25, r20 = some i25 ∧ (mO kdC 0 i25 σ22 ∧ (Q (mI σ22 i25 0) σ22))))))) ∧ (¬ x14 = 0 → (((0 + k1) + k7) + 1 ≤ b ∧ (X xIS σ11)))))) X)) X)
set_option maxRecDepth 100000 in
set_option maxHeartbeats 4000000 in
theorem c_X2_call (l : Launch) (hfl : l.stackTraces = false) (G : mG) (ad : Nat → Nat) (y1 : Int32) (y2 : Int32) (σ0 : mS) (b : Nat) (Q : Int32 → mS → Prop) (X : String → mS → Prop) (h : w_X2_call y1 y2 σ0 b Q X) : vx_Met l yX2_call (mWs yX2_call cX2_call 5 (some .int)) (mRb 7 112 b) (va_Pc [mV ad (some 0), .int y1, .int y2] (mPreZ G ad σ0)) (va_Qi Q (mPost G kdC ad) (mA ad)) (mXC X G ad) b (18 * b) (mA ad) := by
  refine mr_xstart (lst := [(0, mV ad (some 0)), (1, .int y1), (2, .int y2)]) (by decide) (m_cR (m_cI (m_cI m_c0))) rfl (Nat.le_of_ble_eq_true rfl) (fun p e s m below meth c C hM Z hr hlk hout ls hl => ?_)
  have hx := C.1.1
  have hb := C.1.2.1
  unfold w_X2_call at h
  refine mr_aload_n C dX2_call_0 rfl (ml_at hl 0 rfl) ?_
  refine lv_iload_n hx hb dX2_call_1 rfl (ml_at hl 1 rfl) ?_
  obtain ⟨k1, hk1, h⟩ := h
  refine mr_xcq hM hout hlk hk1 (mr_xrunV (As := [.int y1]) C hM Z hl.1.1 (c_X2_serviceAt l hfl G ad y1 σ0 k1 _ _ h) cw_X2_24 (mO_fix hM rfl (by decide) (by decide) (by decide)) rfl rfl (n := 1) ⟨rfl, by decide, by decide, by decide +kernel⟩ rfl rfl ⟨Nat.le_of_ble_eq_true rfl, Nat.le_of_ble_eq_true rfl⟩ m_c0 (Nat.le_of_ble_eq_true rfl) dX2_call_2 hk1) (fun r5 σ2 H locs h3 hM4 => ?_)
  clear h hM
  refine mr_astore_n (lv' := [(3, mV ad r5), (0, mV ad (some 0)), (1, .int y1), (2, .int y2)]) C hl dX2_call_5 rfl (by decide) rfl (fun ls hl6 => ?_)
  clear hl
  refine lv_iload_n hx hb dX2_call_6 rfl (ml_at hl6 3 rfl) ?_
  refine lv_iconst (v := 1) hx hb dX2_call_7 (by decide) ?_
  refine lv_bipush (v := 100) hx hb dX2_call_8 (by decide) ?_
  obtain ⟨k7, hk7, h3⟩ := h3
  refine mr_xcv hM4 hout hlk hk7 (mr_xrunS (As := [.int y2, .int (1 : Int32), .int (100 : Int32)]) C hM4 Z hl6.1.1 (c_X2_checkRange l hfl G ad y2 (1 : Int32) (100 : Int32) σ2 k7 _ _ h3) cw_X2_28 (n := 3) ⟨rfl, by decide, by decide, by decide +kernel⟩ rfl rfl ⟨Nat.le_of_ble_eq_true rfl, Nat.le_of_ble_eq_true rfl⟩ m_c0 (Nat.le_of_ble_eq_true rfl) dX2_call_10 hk7) (fun σ8 H locs h9 hM10 => ?_)
  clear h3 hM4
  refine mr_aload_n C dX2_call_13 rfl (ml_at hl6 1 rfl) ?_
  refine mr_ci hM10 (mr_runV (As := []) C hM10 hl6.1.1 (c_X2_isFull l G ad  σ8 _ h9) cw_X2_70 (mO_fix hM10 rfl (by decide) (by decide) (by decide)) rfl rfl (n := 0) ⟨rfl, by decide, by decide, by decide +kernel⟩ rfl rfl ⟨Nat.le_of_ble_eq_true rfl, Nat.le_of_ble_eq_true rfl⟩ m_c0 (Nat.le_of_ble_eq_true rfl) dX2_call_14 ⟨hk7, Nat.mul_le_mul_left 18 hk7⟩) (fun x14 σ11 H locs h12 hM13 => ?_)
  clear h9 hM10
  obtain ⟨h12, hzx14⟩ := h12
  refine lv_if_eq (tgt := 30) hx hb dX2_call_17 (by decide) (fun hc15 => ?_) (fun hc15 => ?_)
  · replace h12 := h12.1 hc15
    refine mr_aload_n C dX2_call_30 rfl (ml_at hl6 1 rfl) ?_
    refine mr_aload_n C dX2_call_31 rfl (ml_at hl6 0 rfl) ?_
    refine mr_null C ad dX2_call_32 ?_
    refine mr_aload_n C dX2_call_33 rfl (ml_at hl6 1 rfl) ?_
    refine fg_X2_76 C hM13 (mO_fix hM13 rfl (by decide) (by decide) (by decide)) dX2_call_34 ?_
    refine lv_iload_n hx hb dX2_call_37 rfl (ml_at hl6 3 rfl) ?_
    refine lv_iadd hx hb dX2_call_38 ?_
    obtain ⟨k16, hk16, h12⟩ := h12
    refine mr_cqb hM13 (mr_runVb (As := [mV ad r5, mV ad none, .int ((mI σ11 0 3) + y2)]) C hM13 hl6.1.1 (c_X2_makeCall l G ad r5 none ((mI σ11 0 3) + y2) σ11 k16 _ h12) cw_X2_79 (mO_fix hM13 rfl (by decide) (by decide) (by decide)) rfl rfl (n := 3) ⟨rfl, by decide, by decide, by decide +kernel⟩ rfl rfl ⟨Nat.le_of_ble_eq_true rfl, Nat.le_of_ble_eq_true rfl⟩ m_c0 (Nat.le_of_ble_eq_true rfl) dX2_call_39 hk16) (fun r20 σ17 H locs h18 hM19 => ?_)
    clear h12 hM13
    refine mr_astore (lv' := [(4, mV ad r20), (3, mV ad r5), (0, mV ad (some 0)), (1, .int y1), (2, .int y2)]) C hl6 dX2_call_42 (by decide) rfl (fun ls hl21 => ?_)
    clear hl6
    refine mr_aload_n C dX2_call_44 rfl (ml_at hl21 2 rfl) ?_
    refine mr_aload C dX2_call_45 (ml_at hl21 0 rfl) ?_
    refine mr_cv hM19 (mr_runV (As := [mV ad r20]) C hM19 hl21.1.1 (c_X2_begin l G ad r20 σ17 _ h18) cw_X2_83 (mO_fix hM19 rfl (by decide) (by decide) (by decide)) rfl rfl (n := 1) ⟨rfl, by decide, by decide, by decide +kernel⟩ rfl rfl ⟨Nat.le_of_ble_eq_true rfl, Nat.le_of_ble_eq_true rfl⟩ m_c0 (Nat.le_of_ble_eq_true rfl) dX2_call_47 ⟨hk16, Nat.mul_le_mul_left 18 hk16⟩) (fun σ22 H locs h23 hM24 => ?_)
    clear h18 hM19
    refine mr_aload C dX2_call_50 (ml_at hl21 0 rfl) ?_
    obtain ⟨i25, rfl, h23⟩ := h23
    obtain ⟨ho26, h23⟩ := h23
    refine fg_X2_87 C hM24 ho26 dX2_call_52 ?_
    exact mr_wi hk16 (vx_ret (mr_iret C hM24 hr hlk h23 dX2_call_55))
  · replace h12 := h12.2 hc15
    obtain ⟨hb27, h12⟩ := h12
    exact mr_throw (ik := 53) (is := 74) (ic := 57) (cls := xIS) (text := "there are 200 calls") C hM13 Z hfl hl6.1.1 (by decide +kernel) (mw_8 _ (List.mem_of_getElem? (i := 5) rfl)) (mw_8 _ (List.mem_of_getElem? (i := 6) rfl)) mF_IS mBd_IS mOt_IS (by decide +kernel) hout hlk (by decide) (by decide) hb27 dX2_call_20 dX2_call_23 dX2_call_24 dX2_call_26 dX2_call_29 h12
def w_X2_callAt (y1 : Int32) (σ0 : mS) (b : Nat) (Q : Option Nat → mS → Prop) (X : String → mS → Prop) : Prop := (∃ J23 : Option Nat → Nat → mS → Prop, (∀ (rk0_23 : Option Nat) (u_23 : Nat) (σ_23 : mS), J23 rk0_23 u_23 σ_23 → ((rk0_23 = none → (u_23 + 1 ≤ b ∧ (X xIO σ_23))) ∧ (∀ i2, rk0_23 = some i2 → (Q (some i2) σ_23)))) ∧ (∃ J22 : Nat → mS → Prop, (∀ (u_22 : Nat) (σ_22 : mS), J22 u_22 σ_22 → (J23 none u_22 σ_22)) ∧ ((y1 < 0 → (J22 0 σ0)) ∧ (¬ y1 < 0 → (((200 : Int32) ≤ y1 → (J22 0 σ0)) ∧ (¬ (200 : Int32) ≤ y1 → (∃ j6, y1 = nI j6 ∧ (j6 < 200 ∧ (∀ r8, r8 = mR σ0 2 j6 → (J23 r8 0 σ0))))))))))
set_option maxRecDepth 100000 in
set_option maxHeartbeats 4000000 in
theorem c_X2_callAt (l : Launch) (hfl : l.stackTraces = false) (G : mG) (ad : Nat → Nat) (y1 : Int32) (σ0 : mS) (b : Nat) (Q : Option Nat → mS → Prop) (X : String → mS → Prop) (h : w_X2_callAt y1 σ0 b Q X) : vx_Met l yX2_callAt (mWs yX2_callAt cX2_callAt 3 (some (.object "DeadlineCalls$Call"))) (mRb 6 90 b) (va_Pc [mV ad (some 0), .int y1] (mPreZ G ad σ0)) (va_Qq (fun (a : Option Nat) (u : mS) => ∃ i : Option Nat, a = i.map ad ∧ Q i u) (mPost G kdC ad) (mA ad)) (mXC X G ad) b (18 * b) (mA ad) := by
  refine mr_xstart (lst := [(0, mV ad (some 0)), (1, .int y1)]) (by decide) (m_cR (m_cI m_c0)) rfl (Nat.le_of_ble_eq_true rfl) (fun p e s m below meth c C hM Z hr hlk hout ls hl => ?_)
  have hx := C.1.1
  have hb := C.1.2.1
  unfold w_X2_callAt at h
  refine lv_iload_n hx hb dX2_callAt_0 rfl (ml_at hl 1 rfl) ?_
  obtain ⟨J23, hJ23, h⟩ := h
  have hj23 : ∀ (rk0_23 : Option Nat) (u_23 : Nat) (σ_23 : mS) (H : Heap) (locs : List Loc) (ls : Array Slot), u_23 ≤ b → J23 rk0_23 u_23 σ_23 → mM G kdC ad s σ_23 H locs → ml_has ls 3 [] → W p l e (mRb 6 90 b) s m ([mV ad (some 0), .int y1] : List Value).toArray below meth c H locs u_23 (18 * u_23) (vx_MQ below (va_Qq (fun (a : Option Nat) (u : mS) => ∃ i : Option Nat, a = i.map ad ∧ Q i u) (mPost G kdC ad) (mA ad)) (mXC X G ad) ([mV ad (some 0), .int y1] : List Value).toArray s b (18 * b) (mA ad)) (F0 m 23 ls [mV ad rk0_23]) := by
    intro rk0_23 u_23 σ_23 H locs ls hu_23 h_23 hM_23 hl_23
    replace h_23 := hJ23 rk0_23 u_23 σ_23 h_23
    refine mr_astore_n (lv' := [(2, mV ad rk0_23)]) C hl_23 dX2_callAt_23 rfl (by decide) rfl (fun ls hl1 => ?_)
    clear hl_23
    refine mr_aload_n C dX2_callAt_24 rfl (ml_at hl1 0 rfl) ?_
    refine mr_ifnonnull (tgt := 38) C dX2_callAt_25 (by decide) (fun i2 hc => ?_) (fun hc => ?_)
    · replace h_23 := h_23.2 i2 hc
      subst hc
      refine mr_aload_n C dX2_callAt_38 rfl (ml_at hl1 0 rfl) ?_
      exact mr_wi hu_23 (vx_ret (mr_aret C hM_23 hr hlk h_23 dX2_callAt_39))
    · replace h_23 := h_23.1 hc
      subst hc
      obtain ⟨hb3, h_23⟩ := h_23
      exact mr_throw (ik := 162) (is := 180) (ic := 166) (cls := xIO) (text := "no such call") C hM_23 Z hfl hl1.1.1 (by decide +kernel) (mw_3 _ (List.mem_of_getElem? (i := 3) rfl)) (mw_3 _ (List.mem_of_getElem? (i := 4) rfl)) mF_IO mBd_IO mOt_IO (by decide +kernel) hout hlk (by decide) (by decide) hb3 dX2_callAt_28 dX2_callAt_31 dX2_callAt_32 dX2_callAt_34 dX2_callAt_37 h_23
  obtain ⟨J22, hJ22, h⟩ := h
  have hj22 : ∀ (u_22 : Nat) (σ_22 : mS) (H : Heap) (locs : List Loc) (ls : Array Slot), u_22 ≤ b → J22 u_22 σ_22 → mM G kdC ad s σ_22 H locs → ml_has ls 3 [] → W p l e (mRb 6 90 b) s m ([mV ad (some 0), .int y1] : List Value).toArray below meth c H locs u_22 (18 * u_22) (vx_MQ below (va_Qq (fun (a : Option Nat) (u : mS) => ∃ i : Option Nat, a = i.map ad ∧ Q i u) (mPost G kdC ad) (mA ad)) (mXC X G ad) ([mV ad (some 0), .int y1] : List Value).toArray s b (18 * b) (mA ad)) (F0 m 22 ls []) := by
    intro u_22 σ_22 H locs ls hu_22 h_22 hM_22 hl_22
    replace h_22 := hJ22 u_22 σ_22 h_22
    refine mr_null C ad dX2_callAt_22 ?_
    exact hj23 none u_22 σ_22 _ _ _ hu_22 h_22 hM_22 (ml_sub hl_22 [] rfl)
  refine lv_if_lt (tgt := 22) hx hb dX2_callAt_1 (by decide) (fun hc4 => ?_) (fun hc4 => ?_)
  · replace h := h.1 hc4
    exact hj22 0 σ0 _ _ _ (Nat.zero_le _) h hM (ml_sub hl [] rfl)
  · replace h := h.2 hc4
    refine lv_iload_n hx hb dX2_callAt_4 rfl (ml_at hl 1 rfl) ?_
    refine mr_aload_n C dX2_callAt_5 rfl (ml_at hl 0 rfl) ?_
    refine fg_X2_17 (i := 0) C hM (mO_fix hM rfl (by decide) (by decide) (by decide)) dX2_callAt_6 ?_
    refine mr_alen (v := 200) C hM (mB_fix hM rfl (by decide) (by decide) (by decide)) (by decide) (by decide) rfl dX2_callAt_9 ?_
    refine lv_icmp_ge (tgt := 22) hx hb dX2_callAt_10 (by decide) (fun hc5 => ?_) (fun hc5 => ?_)
    · replace h := h.1 hc5
      exact hj22 0 σ0 _ _ _ (Nat.zero_le _) h hM (ml_sub hl [] rfl)
    · replace h := h.2 hc5
      refine mr_aload_n C dX2_callAt_13 rfl (ml_at hl 0 rfl) ?_
      refine fg_X2_17 (i := 0) C hM (mO_fix hM rfl (by decide) (by decide) (by decide)) dX2_callAt_14 ?_
      refine lv_iload_n hx hb dX2_callAt_17 rfl (ml_at hl 1 rfl) ?_
      obtain ⟨j6, ej7, ej7b, h⟩ := h
      refine mr_cld C hM (mB_fix hM rfl (by decide) (by decide) (by decide)) ej7 ej7b (by decide) dX2_callAt_18 (fun r8 er8 => ?_)
      replace h := h r8 er8
      refine lv_goto (tgt := 23) hx hb dX2_callAt_19 (by decide) ?_
      exact hj23 r8 0 σ0 _ _ _ (Nat.zero_le _) h hM (ml_sub hl [] rfl)
def w_X2_cancel (y1 : Int32) (σ0 : mS) (b : Nat) (Q : Int32 → mS → Prop) (X : String → mS → Prop) : Prop := (∃ k1, 0 + k1 ≤ b ∧ w_X2_callAt y1 σ0 k1 (fun r5 σ2 => (∃ i7, r5 = some i7 ∧ (mO kdC 0 i7 σ2 ∧ w_X0_isOver i7 σ2 (fun x12 σ9 => ((¬ x12 = 0 → ((0 + k1) + 1 ≤ b ∧ (X xIS σ9))) ∧ (x12 = 0 → (mO kdC 0 i7 σ9 ∧ (∀ r16, r16 = mR σ9 i7 2 → ((r16 = none → w_X2_finish (some i7) (7 : Int32) σ9 (fun x21 σ18 => (Q ((1 : Int32) + x21) σ18))) ∧ (∀ i17, r16 = some i17 → ((0 + k1) + 1 ≤ b ∧ (X xIS σ9)))))))))))) X)
set_option maxRecDepth 100000 in
set_option maxHeartbeats 4000000 in
theorem c_X2_cancel (l : Launch) (hfl : l.stackTraces = false) (G : mG) (ad : Nat → Nat) (y1 : Int32) (σ0 : mS) (b : Nat) (Q : Int32 → mS → Prop) (X : String → mS → Prop) (h : w_X2_cancel y1 σ0 b Q X) : vx_Met l yX2_cancel (mWs yX2_cancel cX2_cancel 3 (some .int)) (mRb 7 112 b) (va_Pc [mV ad (some 0), .int y1] (mPreZ G ad σ0)) (va_Qi Q (mPost G kdC ad) (mA ad)) (mXC X G ad) b (18 * b) (mA ad) := by
  refine mr_xstart (lst := [(0, mV ad (some 0)), (1, .int y1)]) (by decide) (m_cR (m_cI m_c0)) rfl (Nat.le_of_ble_eq_true rfl) (fun p e s m below meth c C hM Z hr hlk hout ls hl => ?_)
  have hx := C.1.1
  have hb := C.1.2.1
  unfold w_X2_cancel at h
  refine mr_aload_n C dX2_cancel_0 rfl (ml_at hl 0 rfl) ?_
  refine lv_iload_n hx hb dX2_cancel_1 rfl (ml_at hl 1 rfl) ?_
  obtain ⟨k1, hk1, h⟩ := h
  refine mr_xcq hM hout hlk hk1 (mr_xrunV (As := [.int y1]) C hM Z hl.1.1 (c_X2_callAt l hfl G ad y1 σ0 k1 _ _ h) cw_X2_90 (mO_fix hM rfl (by decide) (by decide) (by decide)) rfl rfl (n := 1) ⟨rfl, by decide, by decide, by decide +kernel⟩ rfl rfl ⟨Nat.le_of_ble_eq_true rfl, Nat.le_of_ble_eq_true rfl⟩ m_c0 (Nat.le_of_ble_eq_true rfl) dX2_cancel_2 hk1) (fun r5 σ2 H locs h3 hM4 => ?_)
  clear h hM
  refine mr_astore_n (lv' := [(2, mV ad r5), (0, mV ad (some 0)), (1, .int y1)]) C hl dX2_cancel_5 rfl (by decide) rfl (fun ls hl6 => ?_)
  clear hl
  refine mr_aload_n C dX2_cancel_6 rfl (ml_at hl6 0 rfl) ?_
  obtain ⟨i7, rfl, h3⟩ := h3
  obtain ⟨ho8, h3⟩ := h3
  refine mr_ci hM4 (mr_runV (As := []) C hM4 hl6.1.1 (c_X0_isOver l G ad i7 σ2 _ h3) cw_X2_94 ho8 rfl rfl (n := 0) ⟨rfl, by decide, by decide, by decide +kernel⟩ rfl rfl ⟨Nat.le_of_ble_eq_true rfl, Nat.le_of_ble_eq_true rfl⟩ m_c0 (Nat.le_of_ble_eq_true rfl) dX2_cancel_7 ⟨hk1, Nat.mul_le_mul_left 18 hk1⟩) (fun x12 σ9 H locs h10 hM11 => ?_)
  clear h3 hM4
  obtain ⟨h10, hzx12⟩ := h10
  refine lv_if_ne (tgt := 20) hx hb dX2_cancel_10 (by decide) (fun hc13 => ?_) (fun hc13 => ?_)
  · replace h10 := h10.1 hc13
    obtain ⟨hb14, h10⟩ := h10
    exact mr_throw (ik := 53) (is := 101) (ic := 57) (cls := xIS) (text := "the call is over, or no root") C hM11 Z hfl hl6.1.1 (by decide +kernel) (mw_8 _ (List.mem_of_getElem? (i := 5) rfl)) (mw_8 _ (List.mem_of_getElem? (i := 6) rfl)) mF_IS mBd_IS mOt_IS (by decide +kernel) hout hlk (by decide) (by decide) hb14 dX2_cancel_20 dX2_cancel_23 dX2_cancel_24 dX2_cancel_26 dX2_cancel_29 h10
  · replace h10 := h10.2 hc13
    refine mr_aload_n C dX2_cancel_13 rfl (ml_at hl6 0 rfl) ?_
    obtain ⟨ho15, h10⟩ := h10
    refine fg_X2_97 C hM11 ho15 dX2_cancel_14 (fun r16 er16 => ?_)
    replace h10 := h10 r16 er16
    refine mr_ifnull (tgt := 30) C dX2_cancel_17 (by decide) (fun hc => ?_) (fun i17 hc => ?_)
    · replace h10 := h10.1 hc
      subst hc
      refine lv_iconst (v := 1) hx hb dX2_cancel_30 (by decide) ?_
      refine mr_aload_n C dX2_cancel_31 rfl (ml_at hl6 1 rfl) ?_
      refine mr_aload_n C dX2_cancel_32 rfl (ml_at hl6 0 rfl) ?_
      refine lv_bipush (v := 7) hx hb dX2_cancel_33 (by decide) ?_
      refine mr_ci hM11 (mr_runV (As := [mV ad (some i7), .int (7 : Int32)]) C hM11 hl6.1.1 (c_X2_finish l G ad (some i7) (7 : Int32) σ9 _ h10) cw_X2_103 (mO_fix hM11 rfl (by decide) (by decide) (by decide)) rfl rfl (n := 2) ⟨rfl, by decide, by decide, by decide +kernel⟩ rfl rfl ⟨Nat.le_of_ble_eq_true rfl, Nat.le_of_ble_eq_true rfl⟩ (m_cI m_c0) (Nat.le_of_ble_eq_true rfl) dX2_cancel_35 ⟨hk1, Nat.mul_le_mul_left 18 hk1⟩) (fun x21 σ18 H locs h19 hM20 => ?_)
      clear h10 hM11
      refine lv_iadd hx hb dX2_cancel_38 ?_
      exact mr_wi hk1 (vx_ret (mr_iret C hM20 hr hlk h19 dX2_cancel_39))
    · replace h10 := h10.2 i17 hc
      subst hc
      obtain ⟨hb22, h10⟩ := h10
      exact mr_throw (ik := 53) (is := 101) (ic := 57) (cls := xIS) (text := "the call is over, or no root") C hM11 Z hfl hl6.1.1 (by decide +kernel) (mw_8 _ (List.mem_of_getElem? (i := 5) rfl)) (mw_8 _ (List.mem_of_getElem? (i := 6) rfl)) mF_IS mBd_IS mOt_IS (by decide +kernel) hout hlk (by decide) (by decide) hb22 dX2_cancel_20 dX2_cancel_23 dX2_cancel_24 dX2_cancel_26 dX2_cancel_29 h10
def w_X2_makeTry (a1 : Option Nat) (a2 : Option Nat) (σ0 : mS) (b : Nat) (Q : mS → Prop) : Prop := (∃ i1, a1 = some i1 ∧ (mO kdC 0 i1 σ0 ∧ (∀ σ4, σ4 = sI σ0 i1 12 (0 : Int32) → w_X2_isFull  σ4 (fun x8 σ5 => ((x8 = 0 → (mO kdC 0 i1 σ5 ∧ w_X0_noteTry i1 (mI σ5 0 3) σ5 (fun σ11 => (mO kdC 0 i1 σ11 ∧ (∃ k15, 0 + k15 ≤ b ∧ w_X2_makeCall a2 (some i1) ((mI σ11 i1 3) - (1 : Int32)) σ11 k15 (fun r19 σ16 => w_X2_begin r19 σ16 (fun σ20 => (Q σ20)))))))) ∧ (¬ x8 = 0 → w_X2_finish (some i1) (4 : Int32) σ5 (fun x26 σ23 => (Q σ23))))))))
set_option maxRecDepth 100000 in
set_option maxHeartbeats 4000000 in
theorem c_X2_makeTry (l : Launch) (G : mG) (ad : Nat → Nat) (a1 : Option Nat) (a2 : Option Nat) (σ0 : mS) (b : Nat) (Q : mS → Prop) (h : w_X2_makeTry a1 a2 σ0 b Q) : Met l yX2_makeTry (mWs yX2_makeTry cX2_makeTry 3 none) (mRb 4 90 b) (va_Pc [mV ad (some 0), mV ad a1, mV ad a2] (mPre G kdC ad σ0)) (va_Qv Q (mPost G kdC ad) (mA ad)) b (18 * b) (mA ad) := by
  refine mr_bstart (lst := [(0, mV ad (some 0)), (1, mV ad a1), (2, mV ad a2)]) (by decide) (m_cR (m_cR (m_cR m_c0))) rfl (Nat.le_of_ble_eq_true rfl) (fun p e s m below meth c C hM hr hlk hin ls hl => ?_)
  have hx := C.1.1
  have hb := C.1.2.1
  unfold w_X2_makeTry at h
  refine mr_aload_n C dX2_makeTry_0 rfl (ml_at hl 1 rfl) ?_
  refine lv_iconst (v := 0) hx hb dX2_makeTry_1 (by decide) ?_
  obtain ⟨i1, rfl, h⟩ := h
  obtain ⟨ho2, h⟩ := h
  refine fp_X2_241 C hM ho2 dX2_makeTry_2 (0 : Int32) (rfl) (fun H locs hM3 => ?_)
  clear hM
  obtain ⟨σ4, eσ4⟩ : ∃ y, y = sI σ0 i1 12 (0 : Int32) := ⟨_, rfl⟩
  rw [← eσ4] at hM3
  replace h := h σ4 eσ4
  refine mr_aload_n C dX2_makeTry_5 rfl (ml_at hl 0 rfl) ?_
  refine mr_ci hM3 (mr_runV (As := []) C hM3 hl.1.1 (c_X2_isFull l G ad  σ4 _ h) cw_X2_70 (mO_fix hM3 rfl (by decide) (by decide) (by decide)) rfl rfl (n := 0) ⟨rfl, by decide, by decide, by decide +kernel⟩ rfl rfl ⟨Nat.le_of_ble_eq_true rfl, Nat.le_of_ble_eq_true rfl⟩ m_c0 (Nat.le_of_ble_eq_true rfl) dX2_makeTry_6 ⟨(Nat.zero_le _), Nat.mul_le_mul_left 18 (Nat.zero_le _)⟩) (fun x8 σ5 H locs h6 hM7 => ?_)
  clear h hM3
  obtain ⟨h6, hzx8⟩ := h6
  refine lv_if_eq (tgt := 20) hx hb dX2_makeTry_9 (by decide) (fun hc9 => ?_) (fun hc9 => ?_)
  · replace h6 := h6.1 hc9
    refine mr_aload_n C dX2_makeTry_20 rfl (ml_at hl 1 rfl) ?_
    refine mr_aload_n C dX2_makeTry_21 rfl (ml_at hl 0 rfl) ?_
    refine fg_X2_76 C hM7 (mO_fix hM7 rfl (by decide) (by decide) (by decide)) dX2_makeTry_22 ?_
    obtain ⟨ho10, h6⟩ := h6
    refine mr_cv hM7 (mr_runV (As := [.int (mI σ5 0 3)]) C hM7 hl.1.1 (c_X0_noteTry l G ad i1 (mI σ5 0 3) σ5 _ h6) cw_X2_279 ho10 rfl rfl (n := 1) ⟨rfl, by decide, by decide, by decide +kernel⟩ rfl rfl ⟨Nat.le_of_ble_eq_true rfl, Nat.le_of_ble_eq_true rfl⟩ m_c0 (Nat.le_of_ble_eq_true rfl) dX2_makeTry_25 ⟨(Nat.zero_le _), Nat.mul_le_mul_left 18 (Nat.zero_le _)⟩) (fun σ11 H locs h12 hM13 => ?_)
    clear h6 hM7
    refine mr_aload_n C dX2_makeTry_28 rfl (ml_at hl 0 rfl) ?_
    refine mr_aload_n C dX2_makeTry_29 rfl (ml_at hl 0 rfl) ?_
    refine mr_aload_n C dX2_makeTry_30 rfl (ml_at hl 2 rfl) ?_
    refine mr_aload_n C dX2_makeTry_31 rfl (ml_at hl 1 rfl) ?_
    refine mr_aload_n C dX2_makeTry_32 rfl (ml_at hl 1 rfl) ?_
    obtain ⟨ho14, h12⟩ := h12
    refine fg_X2_139 C hM13 ho14 dX2_makeTry_33 ?_
    refine lv_iconst (v := 1) hx hb dX2_makeTry_36 (by decide) ?_
    refine lv_isub hx hb dX2_makeTry_37 ?_
    obtain ⟨k15, hk15, h12⟩ := h12
    refine mr_cqb hM13 (mr_runVb (As := [mV ad a2, mV ad (some i1), .int ((mI σ11 i1 3) - (1 : Int32))]) C hM13 hl.1.1 (c_X2_makeCall l G ad a2 (some i1) ((mI σ11 i1 3) - (1 : Int32)) σ11 k15 _ h12) cw_X2_79 (mO_fix hM13 rfl (by decide) (by decide) (by decide)) rfl rfl (n := 3) ⟨rfl, by decide, by decide, by decide +kernel⟩ rfl rfl ⟨Nat.le_of_ble_eq_true rfl, Nat.le_of_ble_eq_true rfl⟩ (m_cR m_c0) (Nat.le_of_ble_eq_true rfl) dX2_makeTry_38 hk15) (fun r19 σ16 H locs h17 hM18 => ?_)
    clear h12 hM13
    refine mr_cv hM18 (mr_runV (As := [mV ad r19]) C hM18 hl.1.1 (c_X2_begin l G ad r19 σ16 _ h17) cw_X2_83 (mO_fix hM18 rfl (by decide) (by decide) (by decide)) rfl rfl (n := 1) ⟨rfl, by decide, by decide, by decide +kernel⟩ rfl rfl ⟨Nat.le_of_ble_eq_true rfl, Nat.le_of_ble_eq_true rfl⟩ m_c0 (Nat.le_of_ble_eq_true rfl) dX2_makeTry_41 ⟨hk15, Nat.mul_le_mul_left 18 hk15⟩) (fun σ20 H locs h21 hM22 => ?_)
    clear h17 hM18
    exact mr_wi hk15 (mr_vret C hM22 hr hlk h21 dX2_makeTry_44)
  · replace h6 := h6.2 hc9
    refine mr_aload_n C dX2_makeTry_12 rfl (ml_at hl 0 rfl) ?_
    refine mr_aload_n C dX2_makeTry_13 rfl (ml_at hl 1 rfl) ?_
    refine lv_iconst (v := 4) hx hb dX2_makeTry_14 (by decide) ?_
    refine mr_ci hM7 (mr_runV (As := [mV ad (some i1), .int (4 : Int32)]) C hM7 hl.1.1 (c_X2_finish l G ad (some i1) (4 : Int32) σ5 _ h6) cw_X2_103 (mO_fix hM7 rfl (by decide) (by decide) (by decide)) rfl rfl (n := 2) ⟨rfl, by decide, by decide, by decide +kernel⟩ rfl rfl ⟨Nat.le_of_ble_eq_true rfl, Nat.le_of_ble_eq_true rfl⟩ m_c0 (Nat.le_of_ble_eq_true rfl) dX2_makeTry_15 ⟨(Nat.zero_le _), Nat.mul_le_mul_left 18 (Nat.zero_le _)⟩) (fun x26 σ23 H locs h24 hM25 => ?_)
    clear h6 hM7
    refine lv_pop hx hb dX2_makeTry_18 rfl ?_
    exact mr_wi (Nat.zero_le _) (mr_vret C hM25 hr hlk h24 dX2_makeTry_19)
def w_X2_makeTries  (σ0 : mS) (b : Nat) (Q : mS → Prop) : Prop := (∀ r1, r1 = mR σ0 0 6 → (∀ r3, r3 = mR σ0 0 5 → (∃ I10 : Nat → Option Nat → Nat → mS → Prop, (∀ (n10 : Nat) (r2_10 : Option Nat) (u_10 : Nat) (σ_10 : mS), I10 n10 r2_10 u_10 σ_10 → ((r2_10 = none → (Q σ_10)) ∧ (∀ i5, r2_10 = some i5 → (mO kdC 0 i5 σ_10 ∧ (∀ r7, r7 = mR σ_10 i5 11 → (∃ J44 : Nat → mS → Prop, (∀ (u_44 : Nat) (σ_44 : mS), J44 u_44 σ_44 → ((¬ (some i5) = r1 → (mO kdC 0 i5 σ_44 ∧ (∀ r11, r11 = mR σ_44 i5 8 → (∃ k13, k13 < n10 ∧ I10 k13 r11 u_44 σ_44)))) ∧ ((some i5) = r1 → (Q σ_44)))) ∧ ((¬ (mI σ_10 i5 4) = (2 : Int32) → (J44 u_10 σ_10)) ∧ ((mI σ_10 i5 4) = (2 : Int32) → (((mI σ_10 i5 12) = 0 → (J44 u_10 σ_10)) ∧ (¬ (mI σ_10 i5 12) = 0 → ((r7 = none → (J44 u_10 σ_10)) ∧ (∀ i16, r7 = some i16 → (∃ k17, u_10 + k17 ≤ b ∧ w_X2_makeTry (some i5) (some i16) σ_10 k17 (fun σ18 => (J44 (u_10 + k17) σ18))))))))))))))) ∧ ∃ n, I10 n r3 0 σ0)))
set_option maxRecDepth 100000 in
set_option maxHeartbeats 4000000 in
theorem c_X2_makeTries (l : Launch) (G : mG) (ad : Nat → Nat)  (σ0 : mS) (b : Nat) (Q : mS → Prop) (h : w_X2_makeTries  σ0 b Q) : Met l yX2_makeTries (mWs yX2_makeTries cX2_makeTries 4 none) (mRb 5 112 b) (va_Pc [mV ad (some 0)] (mPre G kdC ad σ0)) (va_Qv Q (mPost G kdC ad) (mA ad)) b (18 * b) (mA ad) := by
  refine mr_bstart (lst := [(0, mV ad (some 0))]) (by decide) (m_cR m_c0) rfl (Nat.le_of_ble_eq_true rfl) (fun p e s m below meth c C hM hr hlk hin ls hl => ?_)
  have hx := C.1.1
  have hb := C.1.2.1
  unfold w_X2_makeTries at h
  refine mr_aload_n C dX2_makeTries_0 rfl (ml_at hl 0 rfl) ?_
  refine fg_X2_187 C hM (mO_fix hM rfl (by decide) (by decide) (by decide)) dX2_makeTries_1 (fun r1 er1 => ?_)
  replace h := h r1 er1
  refine mr_astore_n (lv' := [(1, mV ad r1), (0, mV ad (some 0))]) C hl dX2_makeTries_4 rfl (by decide) rfl (fun ls hl2 => ?_)
  clear hl
  refine mr_aload_n C dX2_makeTries_5 rfl (ml_at hl2 1 rfl) ?_
  refine fg_X2_155 C hM (mO_fix hM rfl (by decide) (by decide) (by decide)) dX2_makeTries_6 (fun r3 er3 => ?_)
  replace h := h r3 er3
  refine mr_astore_n (lv' := [(2, mV ad r3), (1, mV ad r1), (0, mV ad (some 0))]) C hl2 dX2_makeTries_9 rfl (by decide) rfl (fun ls hl4 => ?_)
  clear hl2
  obtain ⟨I10, hI10, nn10, h⟩ := h
  have hL10 : ∀ (n10 : Nat) (r2_10 : Option Nat) (u_10 : Nat) (σ_10 : mS) (H : Heap) (locs : List Loc) (ls : Array Slot), u_10 ≤ b → I10 n10 r2_10 u_10 σ_10 → mM G kdC ad s σ_10 H locs → ml_has ls 4 [(0, mV ad (some 0)), (1, mV ad r1), (2, mV ad r2_10)] → W p l e (mRb 5 112 b) s m ([mV ad (some 0)] : List Value).toArray below meth c H locs u_10 (18 * u_10) (MQ below (va_Qv Q (mPost G kdC ad) (mA ad)) ([mV ad (some 0)] : List Value).toArray s b (18 * b) (mA ad)) (F0 m 10 ls []) := by
    refine m_loop (fun n10 ih10 => ?_)
    intro r2_10 u_10 σ_10 H locs ls hu_10 h_10 hM_10 hl_10
    replace h_10 := hI10 n10 r2_10 u_10 σ_10 h_10
    refine mr_aload_n C dX2_makeTries_10 rfl (ml_at hl_10 2 rfl) ?_
    refine mr_ifnull (tgt := 60) C dX2_makeTries_11 (by decide) (fun hc => ?_) (fun i5 hc => ?_)
    · replace h_10 := h_10.1 hc
      subst hc
      exact mr_wi hu_10 (mr_vret C hM_10 hr hlk h_10 dX2_makeTries_60)
    · replace h_10 := h_10.2 i5 hc
      subst hc
      refine mr_aload_n C dX2_makeTries_14 rfl (ml_at hl_10 2 rfl) ?_
      obtain ⟨ho6, h_10⟩ := h_10
      refine fg_X2_238 C hM_10 ho6 dX2_makeTries_15 (fun r7 er7 => ?_)
      replace h_10 := h_10 r7 er7
      refine mr_astore_n (lv' := [(3, mV ad r7), (0, mV ad (some 0)), (1, mV ad r1), (2, mV ad (some i5))]) C hl_10 dX2_makeTries_18 rfl (by decide) rfl (fun ls hl8 => ?_)
      clear hl_10
      refine mr_aload_n C dX2_makeTries_19 rfl (ml_at hl8 3 rfl) ?_
      refine fg_X2_131 C hM_10 ho6 dX2_makeTries_20 ?_
      refine lv_iconst (v := 2) hx hb dX2_makeTries_23 (by decide) ?_
      obtain ⟨J44, hJ44, h_10⟩ := h_10
      have hj44 : ∀ (u_44 : Nat) (σ_44 : mS) (H : Heap) (locs : List Loc) (ls : Array Slot), u_44 ≤ b → J44 u_44 σ_44 → mM G kdC ad s σ_44 H locs → ml_has ls 4 [(0, mV ad (some 0)), (1, mV ad r1), (2, mV ad (some i5))] → W p l e (mRb 5 112 b) s m ([mV ad (some 0)] : List Value).toArray below meth c H locs u_44 (18 * u_44) (MQ below (va_Qv Q (mPost G kdC ad) (mA ad)) ([mV ad (some 0)] : List Value).toArray s b (18 * b) (mA ad)) (F0 m 44 ls []) := by
        intro u_44 σ_44 H locs ls hu_44 h_44 hM_44 hl_44
        replace h_44 := hJ44 u_44 σ_44 h_44
        refine mr_aload_n C dX2_makeTries_44 rfl (ml_at hl_44 2 rfl) ?_
        refine mr_aload_n C dX2_makeTries_45 rfl (ml_at hl_44 1 rfl) ?_
        refine mr_acmp_ne (tgt := 52) C hM_44 dX2_makeTries_46 (by decide) (fun hc9 => ?_) (fun hc9 => ?_)
        · replace h_44 := h_44.1 hc9
          refine mr_aload_n C dX2_makeTries_52 rfl (ml_at hl_44 2 rfl) ?_
          obtain ⟨ho10, h_44⟩ := h_44
          refine fg_X2_148 C hM_44 ho10 dX2_makeTries_53 (fun r11 er11 => ?_)
          replace h_44 := h_44 r11 er11
          refine mr_astore_n (lv' := [(2, mV ad r11), (0, mV ad (some 0)), (1, mV ad r1)]) C hl_44 dX2_makeTries_56 rfl (by decide) rfl (fun ls hl12 => ?_)
          clear hl_44
          refine lv_goto (tgt := 10) hx hb dX2_makeTries_57 (by decide) ?_
          obtain ⟨k13, hk13, h_44⟩ := h_44
          exact ih10 k13 hk13 r11 u_44 σ_44 _ _ _ hu_44 h_44 hM_44 (ml_sub hl12 [1, 2, 0] rfl)
        · replace h_44 := h_44.2 hc9
          refine lv_goto (tgt := 60) hx hb dX2_makeTries_49 (by decide) ?_
          exact mr_wi hu_44 (mr_vret C hM_44 hr hlk h_44 dX2_makeTries_60)
      refine lv_icmp_ne (tgt := 44) hx hb dX2_makeTries_24 (by decide) (fun hc14 => ?_) (fun hc14 => ?_)
      · replace h_10 := h_10.1 hc14
        exact hj44 u_10 σ_10 _ _ _ hu_10 h_10 hM_10 (ml_sub hl8 [1, 2, 3] rfl)
      · replace h_10 := h_10.2 hc14
        refine mr_aload_n C dX2_makeTries_27 rfl (ml_at hl8 3 rfl) ?_
        refine fg_X2_241 C hM_10 ho6 dX2_makeTries_28 ?_
        refine lv_if_eq (tgt := 44) hx hb dX2_makeTries_31 (by decide) (fun hc15 => ?_) (fun hc15 => ?_)
        · replace h_10 := h_10.1 hc15
          exact hj44 u_10 σ_10 _ _ _ hu_10 h_10 hM_10 (ml_sub hl8 [1, 2, 3] rfl)
        · replace h_10 := h_10.2 hc15
          refine mr_aload_n C dX2_makeTries_34 rfl (ml_at hl8 0 rfl) ?_
          refine mr_ifnull (tgt := 44) C dX2_makeTries_35 (by decide) (fun hc => ?_) (fun i16 hc => ?_)
          · replace h_10 := h_10.1 hc
            subst hc
            exact hj44 u_10 σ_10 _ _ _ hu_10 h_10 hM_10 (ml_sub hl8 [1, 2, 3] rfl)
          · replace h_10 := h_10.2 i16 hc
            subst hc
            refine mr_aload_n C dX2_makeTries_38 rfl (ml_at hl8 1 rfl) ?_
            refine mr_aload_n C dX2_makeTries_39 rfl (ml_at hl8 3 rfl) ?_
            refine mr_aload_n C dX2_makeTries_40 rfl (ml_at hl8 0 rfl) ?_
            obtain ⟨k17, hk17, h_10⟩ := h_10
            refine mr_cvb hM_10 (mr_runVb (As := [mV ad (some i5), mV ad (some i16)]) C hM_10 hl8.1.1 (c_X2_makeTry l G ad (some i5) (some i16) σ_10 k17 _ h_10) cw_X2_276 (mO_fix hM_10 rfl (by decide) (by decide) (by decide)) rfl rfl (n := 2) ⟨rfl, by decide, by decide, by decide +kernel⟩ rfl rfl ⟨Nat.le_of_ble_eq_true rfl, Nat.le_of_ble_eq_true rfl⟩ m_c0 (Nat.le_of_ble_eq_true rfl) dX2_makeTries_41 hk17) (fun σ18 H locs h19 hM20 => ?_)
            clear h_10 hM_10
            exact hj44 (u_10 + k17) σ18 _ _ _ hk17 h19 hM20 (ml_sub hl8 [1, 2, 3] rfl)
  exact hL10 nn10 r3 0 σ0 _ _ _ (Nat.zero_le _) h hM (ml_sub hl4 [2, 1, 0] rfl)
def w_X2_pass (y1 : Int32) (σ0 : mS) (b : Nat) (Q : Int32 → mS → Prop) (X : String → mS → Prop) : Prop := (∃ k1, 0 + k1 ≤ b ∧ w_X2_checkRange y1 (1 : Int32) (100 : Int32) σ0 k1 (fun σ2 => (∃ I14 : Nat → Int32 → Nat → mS → Prop, (∀ (n14 : Nat) (x3_14 : Int32) (u_14 : Nat) (σ_14 : mS), I14 n14 x3_14 u_14 σ_14 → ((y1 ≤ x3_14 → (Q ((mI σ_14 0 4) - (mI σ2 0 4)) σ_14)) ∧ (¬ y1 ≤ x3_14 → (∀ σ9, σ9 = sI σ_14 0 3 ((mI σ_14 0 3) + (1 : Int32)) → w_X2_cutOffHead  σ9 (fun σ10 => w_X2_endLate  σ10 (fun σ13 => w_X2_endWork  σ13 (fun σ16 => w_X2_judgeAsking  σ16 (fun σ19 => (∃ k22, u_14 + k22 ≤ b ∧ w_X2_makeTries  σ19 k22 (fun σ23 => w_X2_startQueued  σ23 (fun σ26 => (∃ k30, k30 < n14 ∧ I14 k30 (x3_14 + 1) (u_14 + k22) σ26)))))))))))) ∧ ∃ n, I14 n (0 : Int32) (0 + k1) σ2)) X)
set_option maxRecDepth 100000 in
set_option maxHeartbeats 4000000 in
theorem c_X2_pass (l : Launch) (hfl : l.stackTraces = false) (G : mG) (ad : Nat → Nat) (y1 : Int32) (σ0 : mS) (b : Nat) (Q : Int32 → mS → Prop) (X : String → mS → Prop) (h : w_X2_pass y1 σ0 b Q X) : vx_Met l yX2_pass (mWs yX2_pass cX2_pass 4 (some .int)) (mRb 7 135 b) (va_Pc [mV ad (some 0), .int y1] (mPreZ G ad σ0)) (va_Qi Q (mPost G kdC ad) (mA ad)) (mXC X G ad) b (18 * b) (mA ad) := by
  refine mr_xstart (lst := [(0, mV ad (some 0)), (1, .int y1)]) (by decide) (m_cR (m_cI m_c0)) rfl (Nat.le_of_ble_eq_true rfl) (fun p e s m below meth c C hM Z hr hlk hout ls hl => ?_)
  have hx := C.1.1
  have hb := C.1.2.1
  unfold w_X2_pass at h
  refine lv_iload_n hx hb dX2_pass_0 rfl (ml_at hl 1 rfl) ?_
  refine lv_iconst (v := 1) hx hb dX2_pass_1 (by decide) ?_
  refine lv_bipush (v := 100) hx hb dX2_pass_2 (by decide) ?_
  obtain ⟨k1, hk1, h⟩ := h
  refine mr_xcv hM hout hlk hk1 (mr_xrunS (As := [.int y1, .int (1 : Int32), .int (100 : Int32)]) C hM Z hl.1.1 (c_X2_checkRange l hfl G ad y1 (1 : Int32) (100 : Int32) σ0 k1 _ _ h) cw_X2_28 (n := 3) ⟨rfl, by decide, by decide, by decide +kernel⟩ rfl rfl ⟨Nat.le_of_ble_eq_true rfl, Nat.le_of_ble_eq_true rfl⟩ m_c0 (Nat.le_of_ble_eq_true rfl) dX2_pass_4 hk1) (fun σ2 H locs h3 hM4 => ?_)
  clear h hM
  refine mr_aload_n C dX2_pass_7 rfl (ml_at hl 0 rfl) ?_
  refine fg_X2_107 C hM4 (mO_fix hM4 rfl (by decide) (by decide) (by decide)) dX2_pass_8 ?_
  refine mr_istore_n (lv' := [(2, .int (mI σ2 0 4)), (0, mV ad (some 0)), (1, .int y1)]) C hl dX2_pass_11 rfl (by decide) rfl (fun ls hl5 => ?_)
  clear hl
  refine lv_iconst (v := 0) hx hb dX2_pass_12 (by decide) ?_
  refine mr_istore_n (lv' := [(3, .int (0 : Int32)), (2, .int (mI σ2 0 4)), (0, mV ad (some 0)), (1, .int y1)]) C hl5 dX2_pass_13 rfl (by decide) rfl (fun ls hl6 => ?_)
  clear hl5
  obtain ⟨I14, hI14, nn14, h3⟩ := h3
  have hL14 : ∀ (n14 : Nat) (x3_14 : Int32) (u_14 : Nat) (σ_14 : mS) (H : Heap) (locs : List Loc) (ls : Array Slot), u_14 ≤ b → I14 n14 x3_14 u_14 σ_14 → mM G kdC ad s σ_14 H locs → ml_has ls 4 [(0, mV ad (some 0)), (1, .int y1), (2, .int (mI σ2 0 4)), (3, .int x3_14)] → W p l e (mRb 7 135 b) s m ([mV ad (some 0), .int y1] : List Value).toArray below meth c H locs u_14 (18 * u_14) (vx_MQ below (va_Qi Q (mPost G kdC ad) (mA ad)) (mXC X G ad) ([mV ad (some 0), .int y1] : List Value).toArray s b (18 * b) (mA ad)) (F0 m 14 ls []) := by
    refine m_loop (fun n14 ih14 => ?_)
    intro x3_14 u_14 σ_14 H locs ls hu_14 h_14 hM_14 hl_14
    replace h_14 := hI14 n14 x3_14 u_14 σ_14 h_14
    refine lv_iload_n hx hb dX2_pass_14 rfl (ml_at hl_14 3 rfl) ?_
    refine lv_iload_n hx hb dX2_pass_15 rfl (ml_at hl_14 1 rfl) ?_
    refine lv_icmp_ge (tgt := 59) hx hb dX2_pass_16 (by decide) (fun hc7 => ?_) (fun hc7 => ?_)
    · replace h_14 := h_14.1 hc7
      refine mr_aload_n C dX2_pass_59 rfl (ml_at hl_14 0 rfl) ?_
      refine fg_X2_107 C hM_14 (mO_fix hM_14 rfl (by decide) (by decide) (by decide)) dX2_pass_60 ?_
      refine lv_iload_n hx hb dX2_pass_63 rfl (ml_at hl_14 2 rfl) ?_
      refine lv_isub hx hb dX2_pass_64 ?_
      exact mr_wi hu_14 (vx_ret (mr_iret C hM_14 hr hlk h_14 dX2_pass_65))
    · replace h_14 := h_14.2 hc7
      refine mr_aload_n C dX2_pass_19 rfl (ml_at hl_14 0 rfl) ?_
      refine lv_dup hx hb dX2_pass_20 (mV_cat _ _) ?_
      refine fg_X2_76 C hM_14 (mO_fix hM_14 rfl (by decide) (by decide) (by decide)) dX2_pass_21 ?_
      refine lv_iconst (v := 1) hx hb dX2_pass_24 (by decide) ?_
      refine lv_iadd hx hb dX2_pass_25 ?_
      refine fp_X2_76 C hM_14 (mO_fix hM_14 rfl (by decide) (by decide) (by decide)) dX2_pass_26 ((mI σ_14 0 3) + (1 : Int32)) (fun H locs hM8 => ?_)
      clear hM_14
      obtain ⟨σ9, eσ9⟩ : ∃ y, y = sI σ_14 0 3 ((mI σ_14 0 3) + (1 : Int32)) := ⟨_, rfl⟩
      rw [← eσ9] at hM8
      replace h_14 := h_14 σ9 eσ9
      refine mr_aload_n C dX2_pass_29 rfl (ml_at hl_14 0 rfl) ?_
      refine mr_cv hM8 (mr_runV (As := []) C hM8 hl_14.1.1 (c_X2_cutOffHead l G ad  σ9 _ h_14) cw_X2_110 (mO_fix hM8 rfl (by decide) (by decide) (by decide)) rfl rfl (n := 0) ⟨rfl, by decide, by decide, by decide +kernel⟩ rfl rfl ⟨Nat.le_of_ble_eq_true rfl, Nat.le_of_ble_eq_true rfl⟩ m_c0 (Nat.le_of_ble_eq_true rfl) dX2_pass_30 ⟨hu_14, Nat.mul_le_mul_left 18 hu_14⟩) (fun σ10 H locs h11 hM12 => ?_)
      clear h_14 hM8
      refine mr_aload_n C dX2_pass_33 rfl (ml_at hl_14 0 rfl) ?_
      refine mr_cv hM12 (mr_runV (As := []) C hM12 hl_14.1.1 (c_X2_endLate l G ad  σ10 _ h11) cw_X2_113 (mO_fix hM12 rfl (by decide) (by decide) (by decide)) rfl rfl (n := 0) ⟨rfl, by decide, by decide, by decide +kernel⟩ rfl rfl ⟨Nat.le_of_ble_eq_true rfl, Nat.le_of_ble_eq_true rfl⟩ m_c0 (Nat.le_of_ble_eq_true rfl) dX2_pass_34 ⟨hu_14, Nat.mul_le_mul_left 18 hu_14⟩) (fun σ13 H locs h14 hM15 => ?_)
      clear h11 hM12
      refine mr_aload_n C dX2_pass_37 rfl (ml_at hl_14 0 rfl) ?_
      refine mr_cv hM15 (mr_runV (As := []) C hM15 hl_14.1.1 (c_X2_endWork l G ad  σ13 _ h14) cw_X2_116 (mO_fix hM15 rfl (by decide) (by decide) (by decide)) rfl rfl (n := 0) ⟨rfl, by decide, by decide, by decide +kernel⟩ rfl rfl ⟨Nat.le_of_ble_eq_true rfl, Nat.le_of_ble_eq_true rfl⟩ m_c0 (Nat.le_of_ble_eq_true rfl) dX2_pass_38 ⟨hu_14, Nat.mul_le_mul_left 18 hu_14⟩) (fun σ16 H locs h17 hM18 => ?_)
      clear h14 hM15
      refine mr_aload_n C dX2_pass_41 rfl (ml_at hl_14 0 rfl) ?_
      refine mr_cv hM18 (mr_runV (As := []) C hM18 hl_14.1.1 (c_X2_judgeAsking l G ad  σ16 _ h17) cw_X2_119 (mO_fix hM18 rfl (by decide) (by decide) (by decide)) rfl rfl (n := 0) ⟨rfl, by decide, by decide, by decide +kernel⟩ rfl rfl ⟨Nat.le_of_ble_eq_true rfl, Nat.le_of_ble_eq_true rfl⟩ m_c0 (Nat.le_of_ble_eq_true rfl) dX2_pass_42 ⟨hu_14, Nat.mul_le_mul_left 18 hu_14⟩) (fun σ19 H locs h20 hM21 => ?_)
      clear h17 hM18
      refine mr_aload_n C dX2_pass_45 rfl (ml_at hl_14 0 rfl) ?_
      obtain ⟨k22, hk22, h20⟩ := h20
      refine mr_cvb hM21 (mr_runVb (As := []) C hM21 hl_14.1.1 (c_X2_makeTries l G ad  σ19 k22 _ h20) cw_X2_122 (mO_fix hM21 rfl (by decide) (by decide) (by decide)) rfl rfl (n := 0) ⟨rfl, by decide, by decide, by decide +kernel⟩ rfl rfl ⟨Nat.le_of_ble_eq_true rfl, Nat.le_of_ble_eq_true rfl⟩ m_c0 (Nat.le_of_ble_eq_true rfl) dX2_pass_46 hk22) (fun σ23 H locs h24 hM25 => ?_)
      clear h20 hM21
      refine mr_aload_n C dX2_pass_49 rfl (ml_at hl_14 0 rfl) ?_
      refine mr_cv hM25 (mr_runV (As := []) C hM25 hl_14.1.1 (c_X2_startQueued l G ad  σ23 _ h24) cw_X2_125 (mO_fix hM25 rfl (by decide) (by decide) (by decide)) rfl rfl (n := 0) ⟨rfl, by decide, by decide, by decide +kernel⟩ rfl rfl ⟨Nat.le_of_ble_eq_true rfl, Nat.le_of_ble_eq_true rfl⟩ m_c0 (Nat.le_of_ble_eq_true rfl) dX2_pass_50 ⟨hk22, Nat.mul_le_mul_left 18 hk22⟩) (fun σ26 H locs h27 hM28 => ?_)
      clear h24 hM25
      refine mr_iinc (v := (x3_14 + 1)) (lv' := [(3, .int (x3_14 + 1)), (0, mV ad (some 0)), (1, .int y1), (2, .int (mI σ2 0 4))]) C hl_14 dX2_pass_53 (k := 3) rfl rfl (by decide) rfl (fun ls hl29 => ?_)
      clear hl_14
      refine lv_goto (tgt := 14) hx hb dX2_pass_56 (by decide) ?_
      obtain ⟨k30, hk30, h27⟩ := h27
      exact ih14 k30 hk30 (x3_14 + 1) (u_14 + k22) σ26 _ _ _ hk22 h27 hM28 (ml_sub hl29 [1, 2, 3, 0] rfl)
  exact hL14 nn14 (0 : Int32) (0 + k1) σ2 _ _ _ hk1 h3 hM4 (ml_sub hl6 [2, 3, 1, 0] rfl)
def w_X2_state (y1 : Int32) (σ0 : mS) (b : Nat) (Q : Int32 → mS → Prop) (X : String → mS → Prop) : Prop := (∃ k1, 0 + k1 ≤ b ∧ w_X2_callAt y1 σ0 k1 (fun r5 σ2 => (∃ i6, r5 = some i6 ∧ (mO kdC 0 i6 σ2 ∧ (Q (mI σ2 i6 4) σ2)))) X)
set_option maxRecDepth 100000 in
set_option maxHeartbeats 4000000 in
theorem c_X2_state (l : Launch) (hfl : l.stackTraces = false) (G : mG) (ad : Nat → Nat) (y1 : Int32) (σ0 : mS) (b : Nat) (Q : Int32 → mS → Prop) (X : String → mS → Prop) (h : w_X2_state y1 σ0 b Q X) : vx_Met l yX2_state (mWs yX2_state cX2_state 2 (some .int)) (mRb 7 112 b) (va_Pc [mV ad (some 0), .int y1] (mPreZ G ad σ0)) (va_Qi Q (mPost G kdC ad) (mA ad)) (mXC X G ad) b (18 * b) (mA ad) := by
  refine mr_xstart (lst := [(0, mV ad (some 0)), (1, .int y1)]) (by decide) (m_cR (m_cI m_c0)) rfl (Nat.le_of_ble_eq_true rfl) (fun p e s m below meth c C hM Z hr hlk hout ls hl => ?_)
  have hx := C.1.1
  have hb := C.1.2.1
  unfold w_X2_state at h
  refine mr_aload_n C dX2_state_0 rfl (ml_at hl 0 rfl) ?_
  refine lv_iload_n hx hb dX2_state_1 rfl (ml_at hl 1 rfl) ?_
  obtain ⟨k1, hk1, h⟩ := h
  refine mr_xcq hM hout hlk hk1 (mr_xrunV (As := [.int y1]) C hM Z hl.1.1 (c_X2_callAt l hfl G ad y1 σ0 k1 _ _ h) cw_X2_90 (mO_fix hM rfl (by decide) (by decide) (by decide)) rfl rfl (n := 1) ⟨rfl, by decide, by decide, by decide +kernel⟩ rfl rfl ⟨Nat.le_of_ble_eq_true rfl, Nat.le_of_ble_eq_true rfl⟩ m_c0 (Nat.le_of_ble_eq_true rfl) dX2_state_2 hk1) (fun r5 σ2 H locs h3 hM4 => ?_)
  clear h hM
  obtain ⟨i6, rfl, h3⟩ := h3
  obtain ⟨ho7, h3⟩ := h3
  refine fg_X2_131 C hM4 ho7 dX2_state_5 ?_
  exact mr_wi hk1 (vx_ret (mr_iret C hM4 hr hlk h3 dX2_state_8))
def w_X2_origin (y1 : Int32) (σ0 : mS) (b : Nat) (Q : Int32 → mS → Prop) (X : String → mS → Prop) : Prop := (∃ k1, 0 + k1 ≤ b ∧ w_X2_callAt y1 σ0 k1 (fun r5 σ2 => (∃ i7, r5 = some i7 ∧ (mO kdC 0 i7 σ2 ∧ (∀ r9, r9 = mR σ2 i7 2 → ((r9 = none → (∀ r12, r12 = mR σ2 i7 1 → (∃ i13, r12 = some i13 ∧ (kdC i13 = (0, 1) ∧ (Q (((1000 : Int32) * (mI σ2 i13 0)) + (0 : Int32)) σ2))))) ∧ (∀ i10, r9 = some i10 → (∀ r15, r15 = mR σ2 i7 2 → (∃ i16, r15 = some i16 ∧ (mO kdC 0 i16 σ2 ∧ (∀ r19, r19 = mR σ2 i7 1 → (∃ i20, r19 = some i20 ∧ (kdC i20 = (0, 1) ∧ (Q (((1000 : Int32) * (mI σ2 i20 0)) + ((mI σ2 i16 0) + (1 : Int32))) σ2))))))))))))) X)
set_option maxRecDepth 100000 in
set_option maxHeartbeats 4000000 in
theorem c_X2_origin (l : Launch) (hfl : l.stackTraces = false) (G : mG) (ad : Nat → Nat) (y1 : Int32) (σ0 : mS) (b : Nat) (Q : Int32 → mS → Prop) (X : String → mS → Prop) (h : w_X2_origin y1 σ0 b Q X) : vx_Met l yX2_origin (mWs yX2_origin cX2_origin 4 (some .int)) (mRb 7 112 b) (va_Pc [mV ad (some 0), .int y1] (mPreZ G ad σ0)) (va_Qi Q (mPost G kdC ad) (mA ad)) (mXC X G ad) b (18 * b) (mA ad) := by
  refine mr_xstart (lst := [(0, mV ad (some 0)), (1, .int y1)]) (by decide) (m_cR (m_cI m_c0)) rfl (Nat.le_of_ble_eq_true rfl) (fun p e s m below meth c C hM Z hr hlk hout ls hl => ?_)
  have hx := C.1.1
  have hb := C.1.2.1
  unfold w_X2_origin at h
  refine mr_aload_n C dX2_origin_0 rfl (ml_at hl 0 rfl) ?_
  refine lv_iload_n hx hb dX2_origin_1 rfl (ml_at hl 1 rfl) ?_
  obtain ⟨k1, hk1, h⟩ := h
  refine mr_xcq hM hout hlk hk1 (mr_xrunV (As := [.int y1]) C hM Z hl.1.1 (c_X2_callAt l hfl G ad y1 σ0 k1 _ _ h) cw_X2_90 (mO_fix hM rfl (by decide) (by decide) (by decide)) rfl rfl (n := 1) ⟨rfl, by decide, by decide, by decide +kernel⟩ rfl rfl ⟨Nat.le_of_ble_eq_true rfl, Nat.le_of_ble_eq_true rfl⟩ m_c0 (Nat.le_of_ble_eq_true rfl) dX2_origin_2 hk1) (fun r5 σ2 H locs h3 hM4 => ?_)
  clear h hM
  refine mr_astore_n (lv' := [(2, mV ad r5), (0, mV ad (some 0)), (1, .int y1)]) C hl dX2_origin_5 rfl (by decide) rfl (fun ls hl6 => ?_)
  clear hl
  refine mr_aload_n C dX2_origin_6 rfl (ml_at hl6 0 rfl) ?_
  obtain ⟨i7, rfl, h3⟩ := h3
  obtain ⟨ho8, h3⟩ := h3
  refine fg_X2_97 C hM4 ho8 dX2_origin_7 (fun r9 er9 => ?_)
  replace h3 := h3 r9 er9
  refine mr_ifnonnull (tgt := 17) C dX2_origin_10 (by decide) (fun i10 hc => ?_) (fun hc => ?_)
  · replace h3 := h3.2 i10 hc
    subst hc
    refine mr_aload_n C dX2_origin_17 rfl (ml_at hl6 0 rfl) ?_
    refine fg_X2_97 C hM4 ho8 dX2_origin_18 (fun r15 er15 => ?_)
    replace h3 := h3 r15 er15
    obtain ⟨i16, rfl, h3⟩ := h3
    obtain ⟨ho17, h3⟩ := h3
    refine fg_X2_87 C hM4 ho17 dX2_origin_21 ?_
    refine lv_iconst (v := 1) hx hb dX2_origin_24 (by decide) ?_
    refine lv_iadd hx hb dX2_origin_25 ?_
    refine mr_istore_n (lv' := [(3, .int ((mI σ2 i16 0) + (1 : Int32))), (2, mV ad (some i7)), (0, mV ad (some 0)), (1, .int y1)]) C hl6 dX2_origin_26 rfl (by decide) rfl (fun ls hl18 => ?_)
    clear hl6
    refine lv_sipush (v := 1000) hx hb dX2_origin_27 (by decide) ?_
    refine mr_aload_n C dX2_origin_30 rfl (ml_at hl18 1 rfl) ?_
    refine fg_X2_134 C hM4 ho8 dX2_origin_31 (fun r19 er19 => ?_)
    replace h3 := h3 r19 er19
    obtain ⟨i20, rfl, h3⟩ := h3
    obtain ⟨hk21, h3⟩ := h3
    refine fg_X2_138 C hM4 (mO_sv hM4 hk21) dX2_origin_34 ?_
    refine lv_imul hx hb dX2_origin_37 ?_
    refine lv_iload_n hx hb dX2_origin_38 rfl (ml_at hl18 0 rfl) ?_
    refine lv_iadd hx hb dX2_origin_39 ?_
    exact mr_wi hk1 (vx_ret (mr_iret C hM4 hr hlk h3 dX2_origin_40))
  · replace h3 := h3.1 hc
    subst hc
    refine lv_iconst (v := 0) hx hb dX2_origin_13 (by decide) ?_
    refine lv_goto (tgt := 26) hx hb dX2_origin_14 (by decide) ?_
    refine mr_istore_n (lv' := [(3, .int (0 : Int32)), (2, mV ad (some i7)), (0, mV ad (some 0)), (1, .int y1)]) C hl6 dX2_origin_26 rfl (by decide) rfl (fun ls hl11 => ?_)
    clear hl6
    refine lv_sipush (v := 1000) hx hb dX2_origin_27 (by decide) ?_
    refine mr_aload_n C dX2_origin_30 rfl (ml_at hl11 1 rfl) ?_
    refine fg_X2_134 C hM4 ho8 dX2_origin_31 (fun r12 er12 => ?_)
    replace h3 := h3 r12 er12
    obtain ⟨i13, rfl, h3⟩ := h3
    obtain ⟨hk14, h3⟩ := h3
    refine fg_X2_138 C hM4 (mO_sv hM4 hk14) dX2_origin_34 ?_
    refine lv_imul hx hb dX2_origin_37 ?_
    refine lv_iload_n hx hb dX2_origin_38 rfl (ml_at hl11 0 rfl) ?_
    refine lv_iadd hx hb dX2_origin_39 ?_
    exact mr_wi hk1 (vx_ret (mr_iret C hM4 hr hlk h3 dX2_origin_40))
def w_X2_deadline (y1 : Int32) (σ0 : mS) (b : Nat) (Q : Int32 → mS → Prop) (X : String → mS → Prop) : Prop := (∃ k1, 0 + k1 ≤ b ∧ w_X2_callAt y1 σ0 k1 (fun r5 σ2 => (∃ i6, r5 = some i6 ∧ (mO kdC 0 i6 σ2 ∧ (Q (mI σ2 i6 3) σ2)))) X)
set_option maxRecDepth 100000 in
set_option maxHeartbeats 4000000 in
theorem c_X2_deadline (l : Launch) (hfl : l.stackTraces = false) (G : mG) (ad : Nat → Nat) (y1 : Int32) (σ0 : mS) (b : Nat) (Q : Int32 → mS → Prop) (X : String → mS → Prop) (h : w_X2_deadline y1 σ0 b Q X) : vx_Met l yX2_deadline (mWs yX2_deadline cX2_deadline 2 (some .int)) (mRb 7 112 b) (va_Pc [mV ad (some 0), .int y1] (mPreZ G ad σ0)) (va_Qi Q (mPost G kdC ad) (mA ad)) (mXC X G ad) b (18 * b) (mA ad) := by
  refine mr_xstart (lst := [(0, mV ad (some 0)), (1, .int y1)]) (by decide) (m_cR (m_cI m_c0)) rfl (Nat.le_of_ble_eq_true rfl) (fun p e s m below meth c C hM Z hr hlk hout ls hl => ?_)
  have hx := C.1.1
  have hb := C.1.2.1
  unfold w_X2_deadline at h
  refine mr_aload_n C dX2_deadline_0 rfl (ml_at hl 0 rfl) ?_
  refine lv_iload_n hx hb dX2_deadline_1 rfl (ml_at hl 1 rfl) ?_
  obtain ⟨k1, hk1, h⟩ := h
  refine mr_xcq hM hout hlk hk1 (mr_xrunV (As := [.int y1]) C hM Z hl.1.1 (c_X2_callAt l hfl G ad y1 σ0 k1 _ _ h) cw_X2_90 (mO_fix hM rfl (by decide) (by decide) (by decide)) rfl rfl (n := 1) ⟨rfl, by decide, by decide, by decide +kernel⟩ rfl rfl ⟨Nat.le_of_ble_eq_true rfl, Nat.le_of_ble_eq_true rfl⟩ m_c0 (Nat.le_of_ble_eq_true rfl) dX2_deadline_2 hk1) (fun r5 σ2 H locs h3 hM4 => ?_)
  clear h hM
  obtain ⟨i6, rfl, h3⟩ := h3
  obtain ⟨ho7, h3⟩ := h3
  refine fg_X2_139 C hM4 ho7 dX2_deadline_5 ?_
  exact mr_wi hk1 (vx_ret (mr_iret C hM4 hr hlk h3 dX2_deadline_8))
def w_X2_overAt (y1 : Int32) (σ0 : mS) (b : Nat) (Q : Int32 → mS → Prop) (X : String → mS → Prop) : Prop := (∃ k1, 0 + k1 ≤ b ∧ w_X2_callAt y1 σ0 k1 (fun r5 σ2 => (∃ i6, r5 = some i6 ∧ (mO kdC 0 i6 σ2 ∧ (Q (mI σ2 i6 5) σ2)))) X)
set_option maxRecDepth 100000 in
set_option maxHeartbeats 4000000 in
theorem c_X2_overAt (l : Launch) (hfl : l.stackTraces = false) (G : mG) (ad : Nat → Nat) (y1 : Int32) (σ0 : mS) (b : Nat) (Q : Int32 → mS → Prop) (X : String → mS → Prop) (h : w_X2_overAt y1 σ0 b Q X) : vx_Met l yX2_overAt (mWs yX2_overAt cX2_overAt 2 (some .int)) (mRb 7 112 b) (va_Pc [mV ad (some 0), .int y1] (mPreZ G ad σ0)) (va_Qi Q (mPost G kdC ad) (mA ad)) (mXC X G ad) b (18 * b) (mA ad) := by
  refine mr_xstart (lst := [(0, mV ad (some 0)), (1, .int y1)]) (by decide) (m_cR (m_cI m_c0)) rfl (Nat.le_of_ble_eq_true rfl) (fun p e s m below meth c C hM Z hr hlk hout ls hl => ?_)
  have hx := C.1.1
  have hb := C.1.2.1
  unfold w_X2_overAt at h
  refine mr_aload_n C dX2_overAt_0 rfl (ml_at hl 0 rfl) ?_
  refine lv_iload_n hx hb dX2_overAt_1 rfl (ml_at hl 1 rfl) ?_
  obtain ⟨k1, hk1, h⟩ := h
  refine mr_xcq hM hout hlk hk1 (mr_xrunV (As := [.int y1]) C hM Z hl.1.1 (c_X2_callAt l hfl G ad y1 σ0 k1 _ _ h) cw_X2_90 (mO_fix hM rfl (by decide) (by decide) (by decide)) rfl rfl (n := 1) ⟨rfl, by decide, by decide, by decide +kernel⟩ rfl rfl ⟨Nat.le_of_ble_eq_true rfl, Nat.le_of_ble_eq_true rfl⟩ m_c0 (Nat.le_of_ble_eq_true rfl) dX2_overAt_2 hk1) (fun r5 σ2 H locs h3 hM4 => ?_)
  clear h hM
  obtain ⟨i6, rfl, h3⟩ := h3
  obtain ⟨ho7, h3⟩ := h3
  refine fg_X2_142 C hM4 ho7 dX2_overAt_5 ?_
  exact mr_wi hk1 (vx_ret (mr_iret C hM4 hr hlk h3 dX2_overAt_8))
def w_X2_place (y1 : Int32) (σ0 : mS) (b : Nat) (Q : Int32 → mS → Prop) (X : String → mS → Prop) : Prop := (∃ k1, 0 + k1 ≤ b ∧ w_X2_callAt y1 σ0 k1 (fun r5 σ2 => (∃ i7, r5 = some i7 ∧ (mO kdC 0 i7 σ2 ∧ ((¬ (mI σ2 i7 4) = (2 : Int32) → (Q (-1 : Int32) σ2)) ∧ ((mI σ2 i7 4) = (2 : Int32) → (Q (mI σ2 i7 10) σ2)))))) X)
set_option maxRecDepth 100000 in
set_option maxHeartbeats 4000000 in
theorem c_X2_place (l : Launch) (hfl : l.stackTraces = false) (G : mG) (ad : Nat → Nat) (y1 : Int32) (σ0 : mS) (b : Nat) (Q : Int32 → mS → Prop) (X : String → mS → Prop) (h : w_X2_place y1 σ0 b Q X) : vx_Met l yX2_place (mWs yX2_place cX2_place 3 (some .int)) (mRb 7 112 b) (va_Pc [mV ad (some 0), .int y1] (mPreZ G ad σ0)) (va_Qi Q (mPost G kdC ad) (mA ad)) (mXC X G ad) b (18 * b) (mA ad) := by
  refine mr_xstart (lst := [(0, mV ad (some 0)), (1, .int y1)]) (by decide) (m_cR (m_cI m_c0)) rfl (Nat.le_of_ble_eq_true rfl) (fun p e s m below meth c C hM Z hr hlk hout ls hl => ?_)
  have hx := C.1.1
  have hb := C.1.2.1
  unfold w_X2_place at h
  refine mr_aload_n C dX2_place_0 rfl (ml_at hl 0 rfl) ?_
  refine lv_iload_n hx hb dX2_place_1 rfl (ml_at hl 1 rfl) ?_
  obtain ⟨k1, hk1, h⟩ := h
  refine mr_xcq hM hout hlk hk1 (mr_xrunV (As := [.int y1]) C hM Z hl.1.1 (c_X2_callAt l hfl G ad y1 σ0 k1 _ _ h) cw_X2_90 (mO_fix hM rfl (by decide) (by decide) (by decide)) rfl rfl (n := 1) ⟨rfl, by decide, by decide, by decide +kernel⟩ rfl rfl ⟨Nat.le_of_ble_eq_true rfl, Nat.le_of_ble_eq_true rfl⟩ m_c0 (Nat.le_of_ble_eq_true rfl) dX2_place_2 hk1) (fun r5 σ2 H locs h3 hM4 => ?_)
  clear h hM
  refine mr_astore_n (lv' := [(2, mV ad r5), (0, mV ad (some 0)), (1, .int y1)]) C hl dX2_place_5 rfl (by decide) rfl (fun ls hl6 => ?_)
  clear hl
  refine mr_aload_n C dX2_place_6 rfl (ml_at hl6 0 rfl) ?_
  obtain ⟨i7, rfl, h3⟩ := h3
  obtain ⟨ho8, h3⟩ := h3
  refine fg_X2_131 C hM4 ho8 dX2_place_7 ?_
  refine lv_iconst (v := 2) hx hb dX2_place_10 (by decide) ?_
  refine lv_icmp_ne (tgt := 21) hx hb dX2_place_11 (by decide) (fun hc9 => ?_) (fun hc9 => ?_)
  · replace h3 := h3.1 hc9
    refine lv_iconst (v := -1) hx hb dX2_place_21 (by decide) ?_
    exact mr_wi hk1 (vx_ret (mr_iret C hM4 hr hlk h3 dX2_place_22))
  · replace h3 := h3.2 hc9
    refine mr_aload_n C dX2_place_14 rfl (ml_at hl6 0 rfl) ?_
    refine fg_X2_145 C hM4 ho8 dX2_place_15 ?_
    refine lv_goto (tgt := 22) hx hb dX2_place_18 (by decide) ?_
    exact mr_wi hk1 (vx_ret (mr_iret C hM4 hr hlk h3 dX2_place_22))
def w_X2_below (y1 : Int32) (σ0 : mS) (b : Nat) (Q : Int32 → mS → Prop) (X : String → mS → Prop) : Prop := (∃ k1, 0 + k1 ≤ b ∧ w_X2_callAt y1 σ0 k1 (fun r5 σ2 => (∃ i8, r5 = some i8 ∧ (mO kdC 0 i8 σ2 ∧ (∀ r10, r10 = mR σ2 i8 8 → (∃ I14 : Nat → Int32 → Option Nat → mS → Prop, (∀ (n14 : Nat) (x3_14 : Int32) (r4_14 : Option Nat) (σ_14 : mS), I14 n14 x3_14 r4_14 σ_14 → ((r4_14 = none → (Q x3_14 σ_14)) ∧ (∀ i12, r4_14 = some i12 → (mO kdC 0 i12 σ_14 ∧ w_X0_isOver i12 σ_14 (fun x17 σ14 => ((¬ x17 = 0 → (mO kdC 0 i12 σ14 ∧ (∀ r20, r20 = mR σ14 i12 8 → (∃ k22, k22 < n14 ∧ I14 k22 x3_14 r20 σ14)))) ∧ (x17 = 0 → (mO kdC 0 i12 σ14 ∧ w_X0_isBelow i12 (some i8) σ14 (fun x27 σ24 => ((x27 = 0 → (mO kdC 0 i12 σ24 ∧ (∀ r30, r30 = mR σ24 i12 8 → (∃ k32, k32 < n14 ∧ I14 k32 x3_14 r30 σ24)))) ∧ (¬ x27 = 0 → (mO kdC 0 i12 σ24 ∧ (∀ r35, r35 = mR σ24 i12 8 → (∃ k37, k37 < n14 ∧ I14 k37 (x3_14 + 1) r35 σ24)))))))))))))) ∧ ∃ n, I14 n (0 : Int32) r10 σ2))))) X)
set_option maxRecDepth 100000 in
set_option maxHeartbeats 4000000 in
theorem c_X2_below (l : Launch) (hfl : l.stackTraces = false) (G : mG) (ad : Nat → Nat) (y1 : Int32) (σ0 : mS) (b : Nat) (Q : Int32 → mS → Prop) (X : String → mS → Prop) (h : w_X2_below y1 σ0 b Q X) : vx_Met l yX2_below (mWs yX2_below cX2_below 5 (some .int)) (mRb 7 112 b) (va_Pc [mV ad (some 0), .int y1] (mPreZ G ad σ0)) (va_Qi Q (mPost G kdC ad) (mA ad)) (mXC X G ad) b (18 * b) (mA ad) := by
  refine mr_xstart (lst := [(0, mV ad (some 0)), (1, .int y1)]) (by decide) (m_cR (m_cI m_c0)) rfl (Nat.le_of_ble_eq_true rfl) (fun p e s m below meth c C hM Z hr hlk hout ls hl => ?_)
  have hx := C.1.1
  have hb := C.1.2.1
  unfold w_X2_below at h
  refine mr_aload_n C dX2_below_0 rfl (ml_at hl 0 rfl) ?_
  refine lv_iload_n hx hb dX2_below_1 rfl (ml_at hl 1 rfl) ?_
  obtain ⟨k1, hk1, h⟩ := h
  refine mr_xcq hM hout hlk hk1 (mr_xrunV (As := [.int y1]) C hM Z hl.1.1 (c_X2_callAt l hfl G ad y1 σ0 k1 _ _ h) cw_X2_90 (mO_fix hM rfl (by decide) (by decide) (by decide)) rfl rfl (n := 1) ⟨rfl, by decide, by decide, by decide +kernel⟩ rfl rfl ⟨Nat.le_of_ble_eq_true rfl, Nat.le_of_ble_eq_true rfl⟩ m_c0 (Nat.le_of_ble_eq_true rfl) dX2_below_2 hk1) (fun r5 σ2 H locs h3 hM4 => ?_)
  clear h hM
  refine mr_astore_n (lv' := [(2, mV ad r5), (0, mV ad (some 0)), (1, .int y1)]) C hl dX2_below_5 rfl (by decide) rfl (fun ls hl6 => ?_)
  clear hl
  refine lv_iconst (v := 0) hx hb dX2_below_6 (by decide) ?_
  refine mr_istore_n (lv' := [(3, .int (0 : Int32)), (2, mV ad r5), (0, mV ad (some 0)), (1, .int y1)]) C hl6 dX2_below_7 rfl (by decide) rfl (fun ls hl7 => ?_)
  clear hl6
  refine mr_aload_n C dX2_below_8 rfl (ml_at hl7 1 rfl) ?_
  obtain ⟨i8, rfl, h3⟩ := h3
  obtain ⟨ho9, h3⟩ := h3
  refine fg_X2_148 C hM4 ho9 dX2_below_9 (fun r10 er10 => ?_)
  replace h3 := h3 r10 er10
  refine mr_astore (lv' := [(4, mV ad r10), (3, .int (0 : Int32)), (2, mV ad (some i8)), (0, mV ad (some 0)), (1, .int y1)]) C hl7 dX2_below_12 (by decide) rfl (fun ls hl11 => ?_)
  clear hl7
  obtain ⟨I14, hI14, nn14, h3⟩ := h3
  have hL14 : ∀ (n14 : Nat) (x3_14 : Int32) (r4_14 : Option Nat) (σ_14 : mS) (H : Heap) (locs : List Loc) (ls : Array Slot), I14 n14 x3_14 r4_14 σ_14 → mM G kdC ad s σ_14 H locs → ml_has ls 5 [(2, mV ad (some i8)), (3, .int x3_14), (4, mV ad r4_14)] → W p l e (mRb 7 112 b) s m ([mV ad (some 0), .int y1] : List Value).toArray below meth c H locs (0 + k1) (18 * (0 + k1)) (vx_MQ below (va_Qi Q (mPost G kdC ad) (mA ad)) (mXC X G ad) ([mV ad (some 0), .int y1] : List Value).toArray s b (18 * b) (mA ad)) (F0 m 14 ls []) := by
    refine m_loop (fun n14 ih14 => ?_)
    intro x3_14 r4_14 σ_14 H locs ls h_14 hM_14 hl_14
    replace h_14 := hI14 n14 x3_14 r4_14 σ_14 h_14
    refine mr_aload C dX2_below_14 (ml_at hl_14 2 rfl) ?_
    refine mr_ifnull (tgt := 49) C dX2_below_16 (by decide) (fun hc => ?_) (fun i12 hc => ?_)
    · replace h_14 := h_14.1 hc
      subst hc
      refine lv_iload_n hx hb dX2_below_49 rfl (ml_at hl_14 1 rfl) ?_
      exact mr_wi hk1 (vx_ret (mr_iret C hM_14 hr hlk h_14 dX2_below_50))
    · replace h_14 := h_14.2 i12 hc
      subst hc
      refine mr_aload C dX2_below_19 (ml_at hl_14 2 rfl) ?_
      obtain ⟨ho13, h_14⟩ := h_14
      refine mr_ci hM_14 (mr_runV (As := []) C hM_14 hl_14.1.1 (c_X0_isOver l G ad i12 σ_14 _ h_14) cw_X2_94 ho13 rfl rfl (n := 0) ⟨rfl, by decide, by decide, by decide +kernel⟩ rfl rfl ⟨Nat.le_of_ble_eq_true rfl, Nat.le_of_ble_eq_true rfl⟩ m_c0 (Nat.le_of_ble_eq_true rfl) dX2_below_21 ⟨hk1, Nat.mul_le_mul_left 18 hk1⟩) (fun x17 σ14 H locs h15 hM16 => ?_)
      clear h_14 hM_14
      obtain ⟨h15, hzx17⟩ := h15
      refine lv_if_ne (tgt := 39) hx hb dX2_below_24 (by decide) (fun hc18 => ?_) (fun hc18 => ?_)
      · replace h15 := h15.1 hc18
        refine mr_aload C dX2_below_39 (ml_at hl_14 2 rfl) ?_
        obtain ⟨ho19, h15⟩ := h15
        refine fg_X2_148 C hM16 ho19 dX2_below_41 (fun r20 er20 => ?_)
        replace h15 := h15 r20 er20
        refine mr_astore (lv' := [(4, mV ad r20), (2, mV ad (some i8)), (3, .int x3_14)]) C hl_14 dX2_below_44 (by decide) rfl (fun ls hl21 => ?_)
        clear hl_14
        refine lv_goto (tgt := 14) hx hb dX2_below_46 (by decide) ?_
        obtain ⟨k22, hk22, h15⟩ := h15
        exact ih14 k22 hk22 x3_14 r20 σ14 _ _ _ h15 hM16 (ml_sub hl21 [1, 2, 0] rfl)
      · replace h15 := h15.2 hc18
        refine mr_aload C dX2_below_27 (ml_at hl_14 2 rfl) ?_
        refine mr_aload_n C dX2_below_29 rfl (ml_at hl_14 0 rfl) ?_
        obtain ⟨ho23, h15⟩ := h15
        refine mr_ci hM16 (mr_runV (As := [mV ad (some i8)]) C hM16 hl_14.1.1 (c_X0_isBelow l G ad i12 (some i8) σ14 _ h15) cw_X2_151 ho23 rfl rfl (n := 1) ⟨rfl, by decide, by decide, by decide +kernel⟩ rfl rfl ⟨Nat.le_of_ble_eq_true rfl, Nat.le_of_ble_eq_true rfl⟩ m_c0 (Nat.le_of_ble_eq_true rfl) dX2_below_30 ⟨hk1, Nat.mul_le_mul_left 18 hk1⟩) (fun x27 σ24 H locs h25 hM26 => ?_)
        clear h15 hM16
        obtain ⟨h25, hzx27⟩ := h25
        refine lv_if_eq (tgt := 39) hx hb dX2_below_33 (by decide) (fun hc28 => ?_) (fun hc28 => ?_)
        · replace h25 := h25.1 hc28
          refine mr_aload C dX2_below_39 (ml_at hl_14 2 rfl) ?_
          obtain ⟨ho29, h25⟩ := h25
          refine fg_X2_148 C hM26 ho29 dX2_below_41 (fun r30 er30 => ?_)
          replace h25 := h25 r30 er30
          refine mr_astore (lv' := [(4, mV ad r30), (2, mV ad (some i8)), (3, .int x3_14)]) C hl_14 dX2_below_44 (by decide) rfl (fun ls hl31 => ?_)
          clear hl_14
          refine lv_goto (tgt := 14) hx hb dX2_below_46 (by decide) ?_
          obtain ⟨k32, hk32, h25⟩ := h25
          exact ih14 k32 hk32 x3_14 r30 σ24 _ _ _ h25 hM26 (ml_sub hl31 [1, 2, 0] rfl)
        · replace h25 := h25.2 hc28
          refine mr_iinc (v := (x3_14 + 1)) (lv' := [(3, .int (x3_14 + 1)), (2, mV ad (some i8)), (4, mV ad (some i12))]) C hl_14 dX2_below_36 (k := 1) rfl rfl (by decide) rfl (fun ls hl33 => ?_)
          clear hl_14
          refine mr_aload C dX2_below_39 (ml_at hl33 2 rfl) ?_
          obtain ⟨ho34, h25⟩ := h25
          refine fg_X2_148 C hM26 ho34 dX2_below_41 (fun r35 er35 => ?_)
          replace h25 := h25 r35 er35
          refine mr_astore (lv' := [(4, mV ad r35), (3, .int (x3_14 + 1)), (2, mV ad (some i8))]) C hl33 dX2_below_44 (by decide) rfl (fun ls hl36 => ?_)
          clear hl33
          refine lv_goto (tgt := 14) hx hb dX2_below_46 (by decide) ?_
          obtain ⟨k37, hk37, h25⟩ := h25
          exact ih14 k37 hk37 (x3_14 + 1) r35 σ24 _ _ _ h25 hM26 (ml_sub hl36 [2, 1, 0] rfl)
  exact hL14 nn14 (0 : Int32) r10 σ2 _ _ _ h3 hM4 (ml_sub hl11 [2, 1, 0] rfl)
def w_X2_queuedAt (y1 : Int32) (y2 : Int32) (σ0 : mS) (b : Nat) (Q : Int32 → mS → Prop) (X : String → mS → Prop) : Prop := (∃ k1, 0 + k1 ≤ b ∧ w_X2_serviceAt y1 σ0 k1 (fun r5 σ2 => (∀ r8, r8 = mR σ2 0 5 → (∃ I15 : Nat → Int32 → Option Nat → mS → Prop, (∀ (n15 : Nat) (x4_15 : Int32) (r5_15 : Option Nat) (σ_15 : mS), I15 n15 x4_15 r5_15 σ_15 → ((r5_15 = none → ((0 + k1) + 1 ≤ b ∧ (X xIO σ_15))) ∧ (∀ i10, r5_15 = some i10 → (mO kdC 0 i10 σ_15 ∧ w_X0_isOf i10 r5 (0 : Int32) σ_15 (fun x16 σ13 => ((x16 = 0 → (mO kdC 0 i10 σ13 ∧ (∀ r19, r19 = mR σ13 i10 8 → (∃ k21, k21 < n15 ∧ I15 k21 x4_15 r19 σ13)))) ∧ (¬ x16 = 0 → ((¬ x4_15 = y2 → (mO kdC 0 i10 σ13 ∧ (∀ r25, r25 = mR σ13 i10 8 → (∃ k27, k27 < n15 ∧ I15 k27 (x4_15 + 1) r25 σ13)))) ∧ (x4_15 = y2 → (mO kdC 0 i10 σ13 ∧ (Q (mI σ13 i10 0) σ13))))))))))) ∧ ∃ n, I15 n (0 : Int32) r8 σ2))) X)
set_option maxRecDepth 100000 in
set_option maxHeartbeats 4000000 in
theorem c_X2_queuedAt (l : Launch) (hfl : l.stackTraces = false) (G : mG) (ad : Nat → Nat) (y1 : Int32) (y2 : Int32) (σ0 : mS) (b : Nat) (Q : Int32 → mS → Prop) (X : String → mS → Prop) (h : w_X2_queuedAt y1 y2 σ0 b Q X) : vx_Met l yX2_queuedAt (mWs yX2_queuedAt cX2_queuedAt 6 (some .int)) (mRb 7 112 b) (va_Pc [mV ad (some 0), .int y1, .int y2] (mPreZ G ad σ0)) (va_Qi Q (mPost G kdC ad) (mA ad)) (mXC X G ad) b (18 * b) (mA ad) := by
  refine mr_xstart (lst := [(0, mV ad (some 0)), (1, .int y1), (2, .int y2)]) (by decide) (m_cR (m_cI (m_cI m_c0))) rfl (Nat.le_of_ble_eq_true rfl) (fun p e s m below meth c C hM Z hr hlk hout ls hl => ?_)
  have hx := C.1.1
  have hb := C.1.2.1
  unfold w_X2_queuedAt at h
  refine mr_aload_n C dX2_queuedAt_0 rfl (ml_at hl 0 rfl) ?_
  refine lv_iload_n hx hb dX2_queuedAt_1 rfl (ml_at hl 1 rfl) ?_
  obtain ⟨k1, hk1, h⟩ := h
  refine mr_xcq hM hout hlk hk1 (mr_xrunV (As := [.int y1]) C hM Z hl.1.1 (c_X2_serviceAt l hfl G ad y1 σ0 k1 _ _ h) cw_X2_24 (mO_fix hM rfl (by decide) (by decide) (by decide)) rfl rfl (n := 1) ⟨rfl, by decide, by decide, by decide +kernel⟩ rfl rfl ⟨Nat.le_of_ble_eq_true rfl, Nat.le_of_ble_eq_true rfl⟩ m_c0 (Nat.le_of_ble_eq_true rfl) dX2_queuedAt_2 hk1) (fun r5 σ2 H locs h3 hM4 => ?_)
  clear h hM
  refine mr_astore_n (lv' := [(3, mV ad r5), (0, mV ad (some 0)), (1, .int y1), (2, .int y2)]) C hl dX2_queuedAt_5 rfl (by decide) rfl (fun ls hl6 => ?_)
  clear hl
  refine lv_iconst (v := 0) hx hb dX2_queuedAt_6 (by decide) ?_
  refine mr_istore (lv' := [(4, .int (0 : Int32)), (3, mV ad r5), (0, mV ad (some 0)), (1, .int y1), (2, .int y2)]) C hl6 dX2_queuedAt_7 (by decide) rfl (fun ls hl7 => ?_)
  clear hl6
  refine mr_aload_n C dX2_queuedAt_9 rfl (ml_at hl7 2 rfl) ?_
  refine fg_X2_155 C hM4 (mO_fix hM4 rfl (by decide) (by decide) (by decide)) dX2_queuedAt_10 (fun r8 er8 => ?_)
  replace h3 := h3 r8 er8
  refine mr_astore (lv' := [(5, mV ad r8), (4, .int (0 : Int32)), (3, mV ad r5), (0, mV ad (some 0)), (1, .int y1), (2, .int y2)]) C hl7 dX2_queuedAt_13 (by decide) rfl (fun ls hl9 => ?_)
  clear hl7
  obtain ⟨I15, hI15, nn15, h3⟩ := h3
  have hL15 : ∀ (n15 : Nat) (x4_15 : Int32) (r5_15 : Option Nat) (σ_15 : mS) (H : Heap) (locs : List Loc) (ls : Array Slot), I15 n15 x4_15 r5_15 σ_15 → mM G kdC ad s σ_15 H locs → ml_has ls 6 [(2, .int y2), (3, mV ad r5), (4, .int x4_15), (5, mV ad r5_15)] → W p l e (mRb 7 112 b) s m ([mV ad (some 0), .int y1, .int y2] : List Value).toArray below meth c H locs (0 + k1) (18 * (0 + k1)) (vx_MQ below (va_Qi Q (mPost G kdC ad) (mA ad)) (mXC X G ad) ([mV ad (some 0), .int y1, .int y2] : List Value).toArray s b (18 * b) (mA ad)) (F0 m 15 ls []) := by
    refine m_loop (fun n15 ih15 => ?_)
    intro x4_15 r5_15 σ_15 H locs ls h_15 hM_15 hl_15
    replace h_15 := hI15 n15 x4_15 r5_15 σ_15 h_15
    refine mr_aload C dX2_queuedAt_15 (ml_at hl_15 3 rfl) ?_
    refine mr_ifnull (tgt := 55) C dX2_queuedAt_17 (by decide) (fun hc => ?_) (fun i10 hc => ?_)
    · replace h_15 := h_15.1 hc
      subst hc
      obtain ⟨hb11, h_15⟩ := h_15
      exact mr_throw (ik := 162) (is := 164) (ic := 166) (cls := xIO) (text := "so many are not queued") C hM_15 Z hfl hl_15.1.1 (by decide +kernel) (mw_3 _ (List.mem_of_getElem? (i := 3) rfl)) (mw_3 _ (List.mem_of_getElem? (i := 4) rfl)) mF_IO mBd_IO mOt_IO (by decide +kernel) hout hlk (by decide) (by decide) hb11 dX2_queuedAt_55 dX2_queuedAt_58 dX2_queuedAt_59 dX2_queuedAt_61 dX2_queuedAt_64 h_15
    · replace h_15 := h_15.2 i10 hc
      subst hc
      refine mr_aload C dX2_queuedAt_20 (ml_at hl_15 3 rfl) ?_
      refine mr_aload_n C dX2_queuedAt_22 rfl (ml_at hl_15 1 rfl) ?_
      refine lv_iconst (v := 0) hx hb dX2_queuedAt_23 (by decide) ?_
      obtain ⟨ho12, h_15⟩ := h_15
      refine mr_ci hM_15 (mr_runV (As := [mV ad r5, .int (0 : Int32)]) C hM_15 hl_15.1.1 (c_X0_isOf l G ad i10 r5 (0 : Int32) σ_15 _ h_15) cw_X2_158 ho12 rfl rfl (n := 2) ⟨rfl, by decide, by decide, by decide +kernel⟩ rfl rfl ⟨Nat.le_of_ble_eq_true rfl, Nat.le_of_ble_eq_true rfl⟩ m_c0 (Nat.le_of_ble_eq_true rfl) dX2_queuedAt_24 ⟨hk1, Nat.mul_le_mul_left 18 hk1⟩) (fun x16 σ13 H locs h14 hM15 => ?_)
      clear h_15 hM_15
      obtain ⟨h14, hzx16⟩ := h14
      refine lv_if_eq (tgt := 45) hx hb dX2_queuedAt_27 (by decide) (fun hc17 => ?_) (fun hc17 => ?_)
      · replace h14 := h14.1 hc17
        refine mr_aload C dX2_queuedAt_45 (ml_at hl_15 3 rfl) ?_
        obtain ⟨ho18, h14⟩ := h14
        refine fg_X2_148 C hM15 ho18 dX2_queuedAt_47 (fun r19 er19 => ?_)
        replace h14 := h14 r19 er19
        refine mr_astore (lv' := [(5, mV ad r19), (2, .int y2), (3, mV ad r5), (4, .int x4_15)]) C hl_15 dX2_queuedAt_50 (by decide) rfl (fun ls hl20 => ?_)
        clear hl_15
        refine lv_goto (tgt := 15) hx hb dX2_queuedAt_52 (by decide) ?_
        obtain ⟨k21, hk21, h14⟩ := h14
        exact ih15 k21 hk21 x4_15 r19 σ13 _ _ _ h14 hM15 (ml_sub hl20 [1, 2, 3, 0] rfl)
      · replace h14 := h14.2 hc17
        refine lv_iload hx hb dX2_queuedAt_30 (ml_at hl_15 2 rfl) ?_
        refine lv_iload_n hx hb dX2_queuedAt_32 rfl (ml_at hl_15 0 rfl) ?_
        refine lv_icmp_ne (tgt := 42) hx hb dX2_queuedAt_33 (by decide) (fun hc22 => ?_) (fun hc22 => ?_)
        · replace h14 := h14.1 hc22
          refine mr_iinc (v := (x4_15 + 1)) (lv' := [(4, .int (x4_15 + 1)), (2, .int y2), (3, mV ad r5), (5, mV ad (some i10))]) C hl_15 dX2_queuedAt_42 (k := 2) rfl rfl (by decide) rfl (fun ls hl23 => ?_)
          clear hl_15
          refine mr_aload C dX2_queuedAt_45 (ml_at hl23 3 rfl) ?_
          obtain ⟨ho24, h14⟩ := h14
          refine fg_X2_148 C hM15 ho24 dX2_queuedAt_47 (fun r25 er25 => ?_)
          replace h14 := h14 r25 er25
          refine mr_astore (lv' := [(5, mV ad r25), (4, .int (x4_15 + 1)), (2, .int y2), (3, mV ad r5)]) C hl23 dX2_queuedAt_50 (by decide) rfl (fun ls hl26 => ?_)
          clear hl23
          refine lv_goto (tgt := 15) hx hb dX2_queuedAt_52 (by decide) ?_
          obtain ⟨k27, hk27, h14⟩ := h14
          exact ih15 k27 hk27 (x4_15 + 1) r25 σ13 _ _ _ h14 hM15 (ml_sub hl26 [2, 3, 1, 0] rfl)
        · replace h14 := h14.2 hc22
          refine mr_aload C dX2_queuedAt_36 (ml_at hl_15 3 rfl) ?_
          obtain ⟨ho28, h14⟩ := h14
          refine fg_X2_87 C hM15 ho28 dX2_queuedAt_38 ?_
          exact mr_wi hk1 (vx_ret (mr_iret C hM15 hr hlk h14 dX2_queuedAt_41))
  exact hL15 nn15 (0 : Int32) r8 σ2 _ _ _ h3 hM4 (ml_sub hl9 [5, 2, 1, 0] rfl)
def w_X2_count (y1 : Int32) (y2 : Int32) (σ0 : mS) (b : Nat) (Q : Int32 → mS → Prop) (X : String → mS → Prop) : Prop := (∃ k1, 0 + k1 ≤ b ∧ w_X2_serviceAt y1 σ0 k1 (fun r5 σ2 => (∃ k7, (0 + k1) + k7 ≤ b ∧ w_X2_checkRange y2 (0 : Int32) (7 : Int32) σ2 k7 (fun σ8 => (∃ i11, r5 = some i11 ∧ (kdC i11 = (0, 1) ∧ w_X1_countOf i11 y2 σ8 (fun x16 σ13 => (Q x16 σ13))))) X)) X)
set_option maxRecDepth 100000 in
set_option maxHeartbeats 4000000 in
theorem c_X2_count (l : Launch) (hfl : l.stackTraces = false) (G : mG) (ad : Nat → Nat) (y1 : Int32) (y2 : Int32) (σ0 : mS) (b : Nat) (Q : Int32 → mS → Prop) (X : String → mS → Prop) (h : w_X2_count y1 y2 σ0 b Q X) : vx_Met l yX2_count (mWs yX2_count cX2_count 4 (some .int)) (mRb 7 112 b) (va_Pc [mV ad (some 0), .int y1, .int y2] (mPreZ G ad σ0)) (va_Qi Q (mPost G kdC ad) (mA ad)) (mXC X G ad) b (18 * b) (mA ad) := by
  refine mr_xstart (lst := [(0, mV ad (some 0)), (1, .int y1), (2, .int y2)]) (by decide) (m_cR (m_cI (m_cI m_c0))) rfl (Nat.le_of_ble_eq_true rfl) (fun p e s m below meth c C hM Z hr hlk hout ls hl => ?_)
  have hx := C.1.1
  have hb := C.1.2.1
  unfold w_X2_count at h
  refine mr_aload_n C dX2_count_0 rfl (ml_at hl 0 rfl) ?_
  refine lv_iload_n hx hb dX2_count_1 rfl (ml_at hl 1 rfl) ?_
  obtain ⟨k1, hk1, h⟩ := h
  refine mr_xcq hM hout hlk hk1 (mr_xrunV (As := [.int y1]) C hM Z hl.1.1 (c_X2_serviceAt l hfl G ad y1 σ0 k1 _ _ h) cw_X2_24 (mO_fix hM rfl (by decide) (by decide) (by decide)) rfl rfl (n := 1) ⟨rfl, by decide, by decide, by decide +kernel⟩ rfl rfl ⟨Nat.le_of_ble_eq_true rfl, Nat.le_of_ble_eq_true rfl⟩ m_c0 (Nat.le_of_ble_eq_true rfl) dX2_count_2 hk1) (fun r5 σ2 H locs h3 hM4 => ?_)
  clear h hM
  refine mr_astore_n (lv' := [(3, mV ad r5), (0, mV ad (some 0)), (1, .int y1), (2, .int y2)]) C hl dX2_count_5 rfl (by decide) rfl (fun ls hl6 => ?_)
  clear hl
  refine lv_iload_n hx hb dX2_count_6 rfl (ml_at hl6 3 rfl) ?_
  refine lv_iconst (v := 0) hx hb dX2_count_7 (by decide) ?_
  refine lv_bipush (v := 7) hx hb dX2_count_8 (by decide) ?_
  obtain ⟨k7, hk7, h3⟩ := h3
  refine mr_xcv hM4 hout hlk hk7 (mr_xrunS (As := [.int y2, .int (0 : Int32), .int (7 : Int32)]) C hM4 Z hl6.1.1 (c_X2_checkRange l hfl G ad y2 (0 : Int32) (7 : Int32) σ2 k7 _ _ h3) cw_X2_28 (n := 3) ⟨rfl, by decide, by decide, by decide +kernel⟩ rfl rfl ⟨Nat.le_of_ble_eq_true rfl, Nat.le_of_ble_eq_true rfl⟩ m_c0 (Nat.le_of_ble_eq_true rfl) dX2_count_10 hk7) (fun σ8 H locs h9 hM10 => ?_)
  clear h3 hM4
  refine mr_aload_n C dX2_count_13 rfl (ml_at hl6 0 rfl) ?_
  refine lv_iload_n hx hb dX2_count_14 rfl (ml_at hl6 3 rfl) ?_
  obtain ⟨i11, rfl, h9⟩ := h9
  obtain ⟨hk12, h9⟩ := h9
  refine mr_ci hM10 (mr_runV (As := [.int y2]) C hM10 hl6.1.1 (c_X1_countOf l G ad i11 y2 σ8 _ h9) cw_X2_167 (mO_sv hM10 hk12) rfl rfl (n := 1) ⟨rfl, by decide, by decide, by decide +kernel⟩ rfl rfl ⟨Nat.le_of_ble_eq_true rfl, Nat.le_of_ble_eq_true rfl⟩ m_c0 (Nat.le_of_ble_eq_true rfl) dX2_count_15 ⟨hk7, Nat.mul_le_mul_left 18 hk7⟩) (fun x16 σ13 H locs h14 hM15 => ?_)
  clear h9 hM10
  exact mr_wi hk7 (vx_ret (mr_iret C hM15 hr hlk h14 dX2_count_18))
def w_X2_tokens (y1 : Int32) (σ0 : mS) (b : Nat) (Q : Int32 → mS → Prop) (X : String → mS → Prop) : Prop := (∃ k1, 0 + k1 ≤ b ∧ w_X2_serviceAt y1 σ0 k1 (fun r5 σ2 => (∃ i6, r5 = some i6 ∧ (kdC i6 = (0, 1) ∧ (Q (mI σ2 i6 7) σ2)))) X)
set_option maxRecDepth 100000 in
set_option maxHeartbeats 4000000 in
theorem c_X2_tokens (l : Launch) (hfl : l.stackTraces = false) (G : mG) (ad : Nat → Nat) (y1 : Int32) (σ0 : mS) (b : Nat) (Q : Int32 → mS → Prop) (X : String → mS → Prop) (h : w_X2_tokens y1 σ0 b Q X) : vx_Met l yX2_tokens (mWs yX2_tokens cX2_tokens 2 (some .int)) (mRb 7 112 b) (va_Pc [mV ad (some 0), .int y1] (mPreZ G ad σ0)) (va_Qi Q (mPost G kdC ad) (mA ad)) (mXC X G ad) b (18 * b) (mA ad) := by
  refine mr_xstart (lst := [(0, mV ad (some 0)), (1, .int y1)]) (by decide) (m_cR (m_cI m_c0)) rfl (Nat.le_of_ble_eq_true rfl) (fun p e s m below meth c C hM Z hr hlk hout ls hl => ?_)
  have hx := C.1.1
  have hb := C.1.2.1
  unfold w_X2_tokens at h
  refine mr_aload_n C dX2_tokens_0 rfl (ml_at hl 0 rfl) ?_
  refine lv_iload_n hx hb dX2_tokens_1 rfl (ml_at hl 1 rfl) ?_
  obtain ⟨k1, hk1, h⟩ := h
  refine mr_xcq hM hout hlk hk1 (mr_xrunV (As := [.int y1]) C hM Z hl.1.1 (c_X2_serviceAt l hfl G ad y1 σ0 k1 _ _ h) cw_X2_24 (mO_fix hM rfl (by decide) (by decide) (by decide)) rfl rfl (n := 1) ⟨rfl, by decide, by decide, by decide +kernel⟩ rfl rfl ⟨Nat.le_of_ble_eq_true rfl, Nat.le_of_ble_eq_true rfl⟩ m_c0 (Nat.le_of_ble_eq_true rfl) dX2_tokens_2 hk1) (fun r5 σ2 H locs h3 hM4 => ?_)
  clear h hM
  obtain ⟨i6, rfl, h3⟩ := h3
  obtain ⟨hk7, h3⟩ := h3
  refine fg_X2_171 C hM4 (mO_sv hM4 hk7) dX2_tokens_5 ?_
  exact mr_wi hk1 (vx_ret (mr_iret C hM4 hr hlk h3 dX2_tokens_8))
def w_X2_isOpen (y1 : Int32) (σ0 : mS) (b : Nat) (Q : Int32 → mS → Prop) (X : String → mS → Prop) : Prop := (∃ k1, 0 + k1 ≤ b ∧ w_X2_serviceAt y1 σ0 k1 (fun r5 σ2 => (∃ i6, r5 = some i6 ∧ (kdC i6 = (0, 1) ∧ w_X1_refusesAt i6 (mI σ2 0 3) σ2 (fun x11 σ8 => (Q x11 σ8))))) X)
set_option maxRecDepth 100000 in
set_option maxHeartbeats 4000000 in
theorem c_X2_isOpen (l : Launch) (hfl : l.stackTraces = false) (G : mG) (ad : Nat → Nat) (y1 : Int32) (σ0 : mS) (b : Nat) (Q : Int32 → mS → Prop) (X : String → mS → Prop) (h : w_X2_isOpen y1 σ0 b Q X) : vx_Met l yX2_isOpen (mWs yX2_isOpen cX2_isOpen 2 (some .boolean)) (mRb 7 112 b) (va_Pc [mV ad (some 0), .int y1] (mPreZ G ad σ0)) (va_Qi (fun r u => Q r u ∧ narrow .boolean (.int r) = .int r) (mPost G kdC ad) (mA ad)) (mXC X G ad) b (18 * b) (mA ad) := by
  refine mr_xstart (lst := [(0, mV ad (some 0)), (1, .int y1)]) (by decide) (m_cR (m_cI m_c0)) rfl (Nat.le_of_ble_eq_true rfl) (fun p e s m below meth c C hM Z hr hlk hout ls hl => ?_)
  have hx := C.1.1
  have hb := C.1.2.1
  unfold w_X2_isOpen at h
  refine mr_aload_n C dX2_isOpen_0 rfl (ml_at hl 0 rfl) ?_
  refine lv_iload_n hx hb dX2_isOpen_1 rfl (ml_at hl 1 rfl) ?_
  obtain ⟨k1, hk1, h⟩ := h
  refine mr_xcq hM hout hlk hk1 (mr_xrunV (As := [.int y1]) C hM Z hl.1.1 (c_X2_serviceAt l hfl G ad y1 σ0 k1 _ _ h) cw_X2_24 (mO_fix hM rfl (by decide) (by decide) (by decide)) rfl rfl (n := 1) ⟨rfl, by decide, by decide, by decide +kernel⟩ rfl rfl ⟨Nat.le_of_ble_eq_true rfl, Nat.le_of_ble_eq_true rfl⟩ m_c0 (Nat.le_of_ble_eq_true rfl) dX2_isOpen_2 hk1) (fun r5 σ2 H locs h3 hM4 => ?_)
  clear h hM
  refine mr_aload_n C dX2_isOpen_5 rfl (ml_at hl 0 rfl) ?_
  refine fg_X2_76 C hM4 (mO_fix hM4 rfl (by decide) (by decide) (by decide)) dX2_isOpen_6 ?_
  obtain ⟨i6, rfl, h3⟩ := h3
  obtain ⟨hk7, h3⟩ := h3
  refine mr_ci hM4 (mr_runV (As := [.int (mI σ2 0 3)]) C hM4 hl.1.1 (c_X1_refusesAt l G ad i6 (mI σ2 0 3) σ2 _ h3) cw_X2_174 (mO_sv hM4 hk7) rfl rfl (n := 1) ⟨rfl, by decide, by decide, by decide +kernel⟩ rfl rfl ⟨Nat.le_of_ble_eq_true rfl, Nat.le_of_ble_eq_true rfl⟩ m_c0 (Nat.le_of_ble_eq_true rfl) dX2_isOpen_9 ⟨hk1, Nat.mul_le_mul_left 18 hk1⟩) (fun x11 σ8 H locs h9 hM10 => ?_)
  clear h3 hM4
  obtain ⟨h9, hzx11⟩ := h9
  exact mr_wi hk1 (vx_ret (mr_zret C hM10 hr hlk hzx11 h9 dX2_isOpen_12))
