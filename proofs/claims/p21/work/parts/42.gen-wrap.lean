theorem m_cA {x : Nat} {r : List Value} (h : ∀ v ∈ r, v.category = 1) : ∀ v ∈ Value.ref x :: r, v.category = 1 := fun v hv => (List.mem_cons.mp hv).elim (fun e => by rw [e]; rfl) (h v)
theorem cw_L_8 : mCw RL 8 RX2 yX2_setWork cX2_setWork 6 (some .int) := ⟨(mw_16 _ (List.mem_of_getElem? (i := 3) rfl)), (mw_16 _ (List.mem_of_getElem? (i := 4) rfl)), (mw_16 _ (List.mem_of_getElem? (i := 5) rfl)), (mw_1 _ (List.mem_of_getElem? (i := 3) rfl)), (mw_16 _ (List.mem_of_getElem? (i := 6) rfl))⟩
theorem cw_L_18 : mCw RL 18 RX2 yX2_ask cX2_ask 5 (some .int) := ⟨(mw_16 _ (List.mem_of_getElem? (i := 12) rfl)), (mw_16 _ (List.mem_of_getElem? (i := 13) rfl)), (mw_16 _ (List.mem_of_getElem? (i := 14) rfl)), (mw_1 _ (List.mem_of_getElem? (i := 3) rfl)), (mw_16 _ (List.mem_of_getElem? (i := 15) rfl))⟩
theorem cw_L_24 : mCw RL 24 RX2 yX2_setRoom cX2_setRoom 7 (some .int) := ⟨(mw_17 _ (List.mem_of_getElem? (i := 0) rfl)), (mw_17 _ (List.mem_of_getElem? (i := 1) rfl)), (mw_17 _ (List.mem_of_getElem? (i := 2) rfl)), (mw_1 _ (List.mem_of_getElem? (i := 3) rfl)), (mw_17 _ (List.mem_of_getElem? (i := 3) rfl))⟩
theorem cw_L_28 : mCw RL 28 RX2 yX2_call cX2_call 5 (some .int) := ⟨(mw_15 _ (List.mem_of_getElem? (i := 13) rfl)), (mw_15 _ (List.mem_of_getElem? (i := 14) rfl)), (mw_15 _ (List.mem_of_getElem? (i := 15) rfl)), (mw_1 _ (List.mem_of_getElem? (i := 3) rfl)), (mw_15 _ (List.mem_of_getElem? (i := 16) rfl))⟩
theorem cw_L_31 : mCw RL 31 RX2 yX2_cancel cX2_cancel 3 (some .int) := ⟨(mw_8 _ (List.mem_of_getElem? (i := 1) rfl)), (mw_8 _ (List.mem_of_getElem? (i := 2) rfl)), (mw_8 _ (List.mem_of_getElem? (i := 3) rfl)), (mw_1 _ (List.mem_of_getElem? (i := 3) rfl)), (mw_8 _ (List.mem_of_getElem? (i := 4) rfl))⟩
theorem cw_L_35 : mCw RL 35 RX2 yX2_pass cX2_pass 4 (some .int) := ⟨(mw_9 _ (List.mem_of_getElem? (i := 11) rfl)), (mw_9 _ (List.mem_of_getElem? (i := 12) rfl)), (mw_9 _ (List.mem_of_getElem? (i := 13) rfl)), (mw_1 _ (List.mem_of_getElem? (i := 3) rfl)), (mw_9 _ (List.mem_of_getElem? (i := 14) rfl))⟩
theorem cw_L_38 : mCw RL 38 RX2 yX2_state cX2_state 2 (some .int) := ⟨(mw_2 _ (List.mem_of_getElem? (i := 18) rfl)), (mw_2 _ (List.mem_of_getElem? (i := 19) rfl)), (mw_2 _ (List.mem_of_getElem? (i := 20) rfl)), (mw_1 _ (List.mem_of_getElem? (i := 3) rfl)), (mw_2 _ (List.mem_of_getElem? (i := 21) rfl))⟩
theorem cw_L_41 : mCw RL 41 RX2 yX2_place cX2_place 3 (some .int) := ⟨(mw_4 _ (List.mem_of_getElem? (i := 2) rfl)), (mw_4 _ (List.mem_of_getElem? (i := 3) rfl)), (mw_4 _ (List.mem_of_getElem? (i := 4) rfl)), (mw_1 _ (List.mem_of_getElem? (i := 3) rfl)), (mw_4 _ (List.mem_of_getElem? (i := 5) rfl))⟩
theorem cw_L_44 : mCw RL 44 RX2 yX2_queuedAt cX2_queuedAt 6 (some .int) := ⟨(mw_7 _ (List.mem_of_getElem? (i := 2) rfl)), (mw_7 _ (List.mem_of_getElem? (i := 3) rfl)), (mw_7 _ (List.mem_of_getElem? (i := 4) rfl)), (mw_1 _ (List.mem_of_getElem? (i := 3) rfl)), (mw_7 _ (List.mem_of_getElem? (i := 5) rfl))⟩
theorem cw_L_47 : mCw RL 47 RX2 yX2_count cX2_count 4 (some .int) := ⟨(mw_6 _ (List.mem_of_getElem? (i := 7) rfl)), (mw_6 _ (List.mem_of_getElem? (i := 8) rfl)), (mw_6 _ (List.mem_of_getElem? (i := 9) rfl)), (mw_1 _ (List.mem_of_getElem? (i := 3) rfl)), (mw_6 _ (List.mem_of_getElem? (i := 10) rfl))⟩
theorem cw_L_50 : mCw RL 50 RX2 yX2_tokens cX2_tokens 2 (some .int) := ⟨(mw_5 _ (List.mem_of_getElem? (i := 8) rfl)), (mw_5 _ (List.mem_of_getElem? (i := 9) rfl)), (mw_5 _ (List.mem_of_getElem? (i := 10) rfl)), (mw_1 _ (List.mem_of_getElem? (i := 3) rfl)), (mw_5 _ (List.mem_of_getElem? (i := 11) rfl))⟩
set_option maxRecDepth 100000 in
set_option maxHeartbeats 4000000 in
theorem c_L_setWork (l : Launch) (hfl : l.stackTraces = false) (G : mG) (ad : Nat → Nat) (y1 : Int32) (y2 : Int32) (y3 : Int32) (σ0 : mS) (b : Nat) (Q : Int32 → mS → Prop) (h : w_X2_setWork y1 y2 y3 σ0 b (fun r σ => Q r σ) (fun E σ => (E = xIO ∧ Q (-71) σ) ∨ (E = xIA ∧ Q (-72) σ))) : Met l yL_setWork (mWL yL_setWork cL_setWork 6 [(0, 9, 12, 14), (0, 9, 17, 16)]) (mRb 8 137 b) (va_Pc [mV ad (some 0), .int y1, .int y2, .int y3] (mPreN G ad σ0)) (va_Qi Q (mPostN G ad) (mA ad)) b (18 * b) (mA ad) := by
  refine ml_start (lst := [(0, mV ad (some 0)), (1, .int y1), (2, .int y2), (3, .int y3)]) (by decide) (m_cR (m_cI (m_cI (m_cI m_c0)))) rfl (Nat.le_of_ble_eq_true rfl) (fun p e s m below meth c C hM Z hN hr hlk htb ls hl => ?_)
  have hx := C.1.1
  have hb := C.1.2.1
  refine mr_aload_n C dL_setWork_0 rfl (ml_at hl 0 rfl) ?_
  refine lv_iload_n hx hb dL_setWork_1 rfl (ml_at hl 1 rfl) ?_
  refine lv_iload_n hx hb dL_setWork_2 rfl (ml_at hl 2 rfl) ?_
  refine lv_iload_n hx hb dL_setWork_3 rfl (ml_at hl 3 rfl) ?_
  refine ml_call (mr_xrunV (As := [.int y1, .int y2, .int y3]) C hM Z hl.1.1 (c_X2_setWork l hfl G ad y1 y2 y3 σ0 b _ _ h) cw_L_8 (mO_fix hM rfl (by decide) (by decide) (by decide)) rfl rfl (n := 3) ⟨rfl, by decide, by decide, by decide +kernel⟩ rfl rfl ⟨Nat.le_of_ble_eq_true rfl, Nat.le_of_ble_eq_true rfl⟩ m_c0 (Nat.le_of_ble_eq_true rfl) dL_setWork_4 (by rw [Nat.zero_add]; exact Nat.le_refl b)) (fun E ce q9 v H1 locs1 hX hP1 hS1 hcell hcv hcl => ?_) (fun r v H1 locs1 hq hP1 hS1 => ?_)
  · rcases hX with ⟨rfl, hX⟩ | ⟨rfl, hX⟩
    · refine vx_catch (own := RL) (name := xIO) C.1.2.2.2.1 [] (⟨0, 9, 12, 14⟩ : ExceptionTableEntry) [(⟨0, 9, 17, 16⟩ : ExceptionTableEntry)] (by rw [htb]; rfl) (fun z hz => absurd hz List.not_mem_nil) (by decide) (by decide) (C.1.2.2.2.2 _ (mw_2 _ (List.mem_of_getElem? (i := 17) rfl))) ((Z.2.2.1 _ (by decide +kernel)).use rfl) hcell hcv hcl ?_
      refine W.eq (g2 := F0 m 12 ls [.ref q9]) rfl ?_
      refine lv_astore (lv' := (5, .ref q9) :: [(0, mV ad (some 0)), (1, .int y1), (2, .int y2), (3, .int y3)].filter (fun q => !(q.1 == 5))) hx hb dL_setWork_12 hl.1 (by decide) (by rw [ml_filter hl.2] <;> rfl) (fun ls hl2 => ?_)
      refine lv_bipush (v := -71) hx hb dL_setWork_14 (by decide) ?_
      exact ml_ret C hr hlk hX hP1 hS1 dL_setWork_16
    · refine vx_catch (own := RL) (name := xIA) C.1.2.2.2.1 [(⟨0, 9, 12, 14⟩ : ExceptionTableEntry)] (⟨0, 9, 17, 16⟩ : ExceptionTableEntry) [] (by rw [htb]; rfl) (fun z hz => by
        simp only [List.mem_cons, List.not_mem_nil, or_false] at hz
        subst hz
        exact Or.inr ⟨by decide, xIO, C.1.2.2.2.2 _ (mw_2 _ (List.mem_of_getElem? (i := 17) rfl)), hN.1⟩) (by decide) (by decide) (C.1.2.2.2.2 _ (mw_6 _ (List.mem_of_getElem? (i := 6) rfl))) ((Z.2.2.1 _ (by decide +kernel)).use rfl) hcell hcv hcl ?_
      refine W.eq (g2 := F0 m 17 ls [.ref q9]) rfl ?_
      refine lv_astore (lv' := (5, .ref q9) :: [(0, mV ad (some 0)), (1, .int y1), (2, .int y2), (3, .int y3)].filter (fun q => !(q.1 == 5))) hx hb dL_setWork_17 hl.1 (by decide) (by rw [ml_filter hl.2] <;> rfl) (fun ls hl2 => ?_)
      refine lv_bipush (v := -72) hx hb dL_setWork_19 (by decide) ?_
      exact ml_ret C hr hlk hX hP1 hS1 dL_setWork_21
  · refine mr_istore (lv' := (4, .int r) :: [(0, mV ad (some 0)), (1, .int y1), (2, .int y2), (3, .int y3)]) C hl dL_setWork_7 (by decide) rfl (fun ls hl2 => ?_)
    refine lv_goto (tgt := 22) hx hb dL_setWork_9 (by decide) ?_
    refine lv_iload hx hb dL_setWork_22 (ml_at hl2 0 rfl) ?_
    exact ml_ret C hr hlk hq hP1 hS1 dL_setWork_24
set_option maxRecDepth 100000 in
set_option maxHeartbeats 4000000 in
theorem c_L_ask (l : Launch) (hfl : l.stackTraces = false) (G : mG) (ad : Nat → Nat) (y1 : Int32) (y2 : Int32) (σ0 : mS) (b : Nat) (Q : Int32 → mS → Prop) (h : w_X2_ask y1 y2 σ0 b (fun r σ => Q r σ) (fun E σ => (E = xIO ∧ Q (-71) σ) ∨ (E = xIA ∧ Q (-72) σ) ∨ (E = xIS ∧ Q (-73) σ))) : Met l yL_ask (mWL yL_ask cL_ask 5 [(0, 7, 10, 14), (0, 7, 15, 16), (0, 7, 20, 22)]) (mRb 8 136 b) (va_Pc [mV ad (some 0), .int y1, .int y2] (mPreN G ad σ0)) (va_Qi Q (mPostN G ad) (mA ad)) b (18 * b) (mA ad) := by
  refine ml_start (lst := [(0, mV ad (some 0)), (1, .int y1), (2, .int y2)]) (by decide) (m_cR (m_cI (m_cI m_c0))) rfl (Nat.le_of_ble_eq_true rfl) (fun p e s m below meth c C hM Z hN hr hlk htb ls hl => ?_)
  have hx := C.1.1
  have hb := C.1.2.1
  refine mr_aload_n C dL_ask_0 rfl (ml_at hl 0 rfl) ?_
  refine lv_iload_n hx hb dL_ask_1 rfl (ml_at hl 1 rfl) ?_
  refine lv_iload_n hx hb dL_ask_2 rfl (ml_at hl 2 rfl) ?_
  refine ml_call (mr_xrunV (As := [.int y1, .int y2]) C hM Z hl.1.1 (c_X2_ask l hfl G ad y1 y2 σ0 b _ _ h) cw_L_18 (mO_fix hM rfl (by decide) (by decide) (by decide)) rfl rfl (n := 2) ⟨rfl, by decide, by decide, by decide +kernel⟩ rfl rfl ⟨Nat.le_of_ble_eq_true rfl, Nat.le_of_ble_eq_true rfl⟩ m_c0 (Nat.le_of_ble_eq_true rfl) dL_ask_3 (by rw [Nat.zero_add]; exact Nat.le_refl b)) (fun E ce q9 v H1 locs1 hX hP1 hS1 hcell hcv hcl => ?_) (fun r v H1 locs1 hq hP1 hS1 => ?_)
  · rcases hX with ⟨rfl, hX⟩ | ⟨rfl, hX⟩ | ⟨rfl, hX⟩
    · refine vx_catch (own := RL) (name := xIO) C.1.2.2.2.1 [] (⟨0, 7, 10, 14⟩ : ExceptionTableEntry) [(⟨0, 7, 15, 16⟩ : ExceptionTableEntry), (⟨0, 7, 20, 22⟩ : ExceptionTableEntry)] (by rw [htb]; rfl) (fun z hz => absurd hz List.not_mem_nil) (by decide) (by decide) (C.1.2.2.2.2 _ (mw_2 _ (List.mem_of_getElem? (i := 17) rfl))) ((Z.2.2.1 _ (by decide +kernel)).use rfl) hcell hcv hcl ?_
      refine W.eq (g2 := F0 m 10 ls [.ref q9]) rfl ?_
      refine lv_astore (lv' := (4, .ref q9) :: [(0, mV ad (some 0)), (1, .int y1), (2, .int y2)].filter (fun q => !(q.1 == 4))) hx hb dL_ask_10 hl.1 (by decide) (by rw [ml_filter hl.2] <;> rfl) (fun ls hl2 => ?_)
      refine lv_bipush (v := -71) hx hb dL_ask_12 (by decide) ?_
      exact ml_ret C hr hlk hX hP1 hS1 dL_ask_14
    · refine vx_catch (own := RL) (name := xIA) C.1.2.2.2.1 [(⟨0, 7, 10, 14⟩ : ExceptionTableEntry)] (⟨0, 7, 15, 16⟩ : ExceptionTableEntry) [(⟨0, 7, 20, 22⟩ : ExceptionTableEntry)] (by rw [htb]; rfl) (fun z hz => by
        simp only [List.mem_cons, List.not_mem_nil, or_false] at hz
        subst hz
        exact Or.inr ⟨by decide, xIO, C.1.2.2.2.2 _ (mw_2 _ (List.mem_of_getElem? (i := 17) rfl)), hN.1⟩) (by decide) (by decide) (C.1.2.2.2.2 _ (mw_6 _ (List.mem_of_getElem? (i := 6) rfl))) ((Z.2.2.1 _ (by decide +kernel)).use rfl) hcell hcv hcl ?_
      refine W.eq (g2 := F0 m 15 ls [.ref q9]) rfl ?_
      refine lv_astore (lv' := (4, .ref q9) :: [(0, mV ad (some 0)), (1, .int y1), (2, .int y2)].filter (fun q => !(q.1 == 4))) hx hb dL_ask_15 hl.1 (by decide) (by rw [ml_filter hl.2] <;> rfl) (fun ls hl2 => ?_)
      refine lv_bipush (v := -72) hx hb dL_ask_17 (by decide) ?_
      exact ml_ret C hr hlk hX hP1 hS1 dL_ask_19
    · refine vx_catch (own := RL) (name := xIS) C.1.2.2.2.1 [(⟨0, 7, 10, 14⟩ : ExceptionTableEntry), (⟨0, 7, 15, 16⟩ : ExceptionTableEntry)] (⟨0, 7, 20, 22⟩ : ExceptionTableEntry) [] (by rw [htb]; rfl) (fun z hz => by
        simp only [List.mem_cons, List.not_mem_nil, or_false] at hz
        rcases hz with rfl | rfl
        · exact Or.inr ⟨by decide, xIO, C.1.2.2.2.2 _ (mw_2 _ (List.mem_of_getElem? (i := 17) rfl)), hN.2.1⟩
        · exact Or.inr ⟨by decide, xIA, C.1.2.2.2.2 _ (mw_6 _ (List.mem_of_getElem? (i := 6) rfl)), hN.2.2⟩) (by decide) (by decide) (C.1.2.2.2.2 _ (mw_8 _ (List.mem_of_getElem? (i := 0) rfl))) ((Z.2.2.1 _ (by decide +kernel)).use rfl) hcell hcv hcl ?_
      refine W.eq (g2 := F0 m 20 ls [.ref q9]) rfl ?_
      refine lv_astore (lv' := (4, .ref q9) :: [(0, mV ad (some 0)), (1, .int y1), (2, .int y2)].filter (fun q => !(q.1 == 4))) hx hb dL_ask_20 hl.1 (by decide) (by rw [ml_filter hl.2] <;> rfl) (fun ls hl2 => ?_)
      refine lv_bipush (v := -73) hx hb dL_ask_22 (by decide) ?_
      exact ml_ret C hr hlk hX hP1 hS1 dL_ask_24
  · refine mr_istore_n (lv' := (3, .int r) :: [(0, mV ad (some 0)), (1, .int y1), (2, .int y2)]) C hl dL_ask_6 rfl (by decide) rfl (fun ls hl2 => ?_)
    refine lv_goto (tgt := 25) hx hb dL_ask_7 (by decide) ?_
    refine lv_iload_n hx hb dL_ask_25 rfl (ml_at hl2 0 rfl) ?_
    exact ml_ret C hr hlk hq hP1 hS1 dL_ask_26
set_option maxRecDepth 100000 in
set_option maxHeartbeats 4000000 in
theorem c_L_setRoom (l : Launch) (hfl : l.stackTraces = false) (G : mG) (ad : Nat → Nat) (y1 : Int32) (y2 : Int32) (y3 : Int32) (y4 : Int32) (σ0 : mS) (b : Nat) (Q : Int32 → mS → Prop) (h : w_X2_setRoom y1 y2 y3 y4 σ0 b (fun r σ => Q r σ) (fun E σ => (E = xIO ∧ Q (-71) σ) ∨ (E = xIA ∧ Q (-72) σ))) : Met l yL_setRoom (mWL yL_setRoom cL_setRoom 7 [(0, 11, 14, 14), (0, 11, 19, 16)]) (mRb 8 138 b) (va_Pc [mV ad (some 0), .int y1, .int y2, .int y3, .int y4] (mPreN G ad σ0)) (va_Qi Q (mPostN G ad) (mA ad)) b (18 * b) (mA ad) := by
  refine ml_start (lst := [(0, mV ad (some 0)), (1, .int y1), (2, .int y2), (3, .int y3), (4, .int y4)]) (by decide) (m_cR (m_cI (m_cI (m_cI (m_cI m_c0))))) rfl (Nat.le_of_ble_eq_true rfl) (fun p e s m below meth c C hM Z hN hr hlk htb ls hl => ?_)
  have hx := C.1.1
  have hb := C.1.2.1
  refine mr_aload_n C dL_setRoom_0 rfl (ml_at hl 0 rfl) ?_
  refine lv_iload_n hx hb dL_setRoom_1 rfl (ml_at hl 1 rfl) ?_
  refine lv_iload_n hx hb dL_setRoom_2 rfl (ml_at hl 2 rfl) ?_
  refine lv_iload_n hx hb dL_setRoom_3 rfl (ml_at hl 3 rfl) ?_
  refine lv_iload hx hb dL_setRoom_4 (ml_at hl 4 rfl) ?_
  refine ml_call (mr_xrunV (As := [.int y1, .int y2, .int y3, .int y4]) C hM Z hl.1.1 (c_X2_setRoom l hfl G ad y1 y2 y3 y4 σ0 b _ _ h) cw_L_24 (mO_fix hM rfl (by decide) (by decide) (by decide)) rfl rfl (n := 4) ⟨rfl, by decide, by decide, by decide +kernel⟩ rfl rfl ⟨Nat.le_of_ble_eq_true rfl, Nat.le_of_ble_eq_true rfl⟩ m_c0 (Nat.le_of_ble_eq_true rfl) dL_setRoom_6 (by rw [Nat.zero_add]; exact Nat.le_refl b)) (fun E ce q9 v H1 locs1 hX hP1 hS1 hcell hcv hcl => ?_) (fun r v H1 locs1 hq hP1 hS1 => ?_)
  · rcases hX with ⟨rfl, hX⟩ | ⟨rfl, hX⟩
    · refine vx_catch (own := RL) (name := xIO) C.1.2.2.2.1 [] (⟨0, 11, 14, 14⟩ : ExceptionTableEntry) [(⟨0, 11, 19, 16⟩ : ExceptionTableEntry)] (by rw [htb]; rfl) (fun z hz => absurd hz List.not_mem_nil) (by decide) (by decide) (C.1.2.2.2.2 _ (mw_2 _ (List.mem_of_getElem? (i := 17) rfl))) ((Z.2.2.1 _ (by decide +kernel)).use rfl) hcell hcv hcl ?_
      refine W.eq (g2 := F0 m 14 ls [.ref q9]) rfl ?_
      refine lv_astore (lv' := (6, .ref q9) :: [(0, mV ad (some 0)), (1, .int y1), (2, .int y2), (3, .int y3), (4, .int y4)].filter (fun q => !(q.1 == 6))) hx hb dL_setRoom_14 hl.1 (by decide) (by rw [ml_filter hl.2] <;> rfl) (fun ls hl2 => ?_)
      refine lv_bipush (v := -71) hx hb dL_setRoom_16 (by decide) ?_
      exact ml_ret C hr hlk hX hP1 hS1 dL_setRoom_18
    · refine vx_catch (own := RL) (name := xIA) C.1.2.2.2.1 [(⟨0, 11, 14, 14⟩ : ExceptionTableEntry)] (⟨0, 11, 19, 16⟩ : ExceptionTableEntry) [] (by rw [htb]; rfl) (fun z hz => by
        simp only [List.mem_cons, List.not_mem_nil, or_false] at hz
        subst hz
        exact Or.inr ⟨by decide, xIO, C.1.2.2.2.2 _ (mw_2 _ (List.mem_of_getElem? (i := 17) rfl)), hN.1⟩) (by decide) (by decide) (C.1.2.2.2.2 _ (mw_6 _ (List.mem_of_getElem? (i := 6) rfl))) ((Z.2.2.1 _ (by decide +kernel)).use rfl) hcell hcv hcl ?_
      refine W.eq (g2 := F0 m 19 ls [.ref q9]) rfl ?_
      refine lv_astore (lv' := (6, .ref q9) :: [(0, mV ad (some 0)), (1, .int y1), (2, .int y2), (3, .int y3), (4, .int y4)].filter (fun q => !(q.1 == 6))) hx hb dL_setRoom_19 hl.1 (by decide) (by rw [ml_filter hl.2] <;> rfl) (fun ls hl2 => ?_)
      refine lv_bipush (v := -72) hx hb dL_setRoom_21 (by decide) ?_
      exact ml_ret C hr hlk hX hP1 hS1 dL_setRoom_23
  · refine mr_istore (lv' := (5, .int r) :: [(0, mV ad (some 0)), (1, .int y1), (2, .int y2), (3, .int y3), (4, .int y4)]) C hl dL_setRoom_9 (by decide) rfl (fun ls hl2 => ?_)
    refine lv_goto (tgt := 24) hx hb dL_setRoom_11 (by decide) ?_
    refine lv_iload hx hb dL_setRoom_24 (ml_at hl2 0 rfl) ?_
    exact ml_ret C hr hlk hq hP1 hS1 dL_setRoom_26
set_option maxRecDepth 100000 in
set_option maxHeartbeats 4000000 in
theorem c_L_call (l : Launch) (hfl : l.stackTraces = false) (G : mG) (ad : Nat → Nat) (y1 : Int32) (y2 : Int32) (σ0 : mS) (b : Nat) (Q : Int32 → mS → Prop) (h : w_X2_call y1 y2 σ0 b (fun r σ => Q r σ) (fun E σ => (E = xIO ∧ Q (-71) σ) ∨ (E = xIA ∧ Q (-72) σ) ∨ (E = xIS ∧ Q (-73) σ))) : Met l yL_call (mWL yL_call cL_call 5 [(0, 7, 10, 14), (0, 7, 15, 16), (0, 7, 20, 22)]) (mRb 8 136 b) (va_Pc [mV ad (some 0), .int y1, .int y2] (mPreN G ad σ0)) (va_Qi Q (mPostN G ad) (mA ad)) b (18 * b) (mA ad) := by
  refine ml_start (lst := [(0, mV ad (some 0)), (1, .int y1), (2, .int y2)]) (by decide) (m_cR (m_cI (m_cI m_c0))) rfl (Nat.le_of_ble_eq_true rfl) (fun p e s m below meth c C hM Z hN hr hlk htb ls hl => ?_)
  have hx := C.1.1
  have hb := C.1.2.1
  refine mr_aload_n C dL_call_0 rfl (ml_at hl 0 rfl) ?_
  refine lv_iload_n hx hb dL_call_1 rfl (ml_at hl 1 rfl) ?_
  refine lv_iload_n hx hb dL_call_2 rfl (ml_at hl 2 rfl) ?_
  refine ml_call (mr_xrunV (As := [.int y1, .int y2]) C hM Z hl.1.1 (c_X2_call l hfl G ad y1 y2 σ0 b _ _ h) cw_L_28 (mO_fix hM rfl (by decide) (by decide) (by decide)) rfl rfl (n := 2) ⟨rfl, by decide, by decide, by decide +kernel⟩ rfl rfl ⟨Nat.le_of_ble_eq_true rfl, Nat.le_of_ble_eq_true rfl⟩ m_c0 (Nat.le_of_ble_eq_true rfl) dL_call_3 (by rw [Nat.zero_add]; exact Nat.le_refl b)) (fun E ce q9 v H1 locs1 hX hP1 hS1 hcell hcv hcl => ?_) (fun r v H1 locs1 hq hP1 hS1 => ?_)
  · rcases hX with ⟨rfl, hX⟩ | ⟨rfl, hX⟩ | ⟨rfl, hX⟩
    · refine vx_catch (own := RL) (name := xIO) C.1.2.2.2.1 [] (⟨0, 7, 10, 14⟩ : ExceptionTableEntry) [(⟨0, 7, 15, 16⟩ : ExceptionTableEntry), (⟨0, 7, 20, 22⟩ : ExceptionTableEntry)] (by rw [htb]; rfl) (fun z hz => absurd hz List.not_mem_nil) (by decide) (by decide) (C.1.2.2.2.2 _ (mw_2 _ (List.mem_of_getElem? (i := 17) rfl))) ((Z.2.2.1 _ (by decide +kernel)).use rfl) hcell hcv hcl ?_
      refine W.eq (g2 := F0 m 10 ls [.ref q9]) rfl ?_
      refine lv_astore (lv' := (4, .ref q9) :: [(0, mV ad (some 0)), (1, .int y1), (2, .int y2)].filter (fun q => !(q.1 == 4))) hx hb dL_call_10 hl.1 (by decide) (by rw [ml_filter hl.2] <;> rfl) (fun ls hl2 => ?_)
      refine lv_bipush (v := -71) hx hb dL_call_12 (by decide) ?_
      exact ml_ret C hr hlk hX hP1 hS1 dL_call_14
    · refine vx_catch (own := RL) (name := xIA) C.1.2.2.2.1 [(⟨0, 7, 10, 14⟩ : ExceptionTableEntry)] (⟨0, 7, 15, 16⟩ : ExceptionTableEntry) [(⟨0, 7, 20, 22⟩ : ExceptionTableEntry)] (by rw [htb]; rfl) (fun z hz => by
        simp only [List.mem_cons, List.not_mem_nil, or_false] at hz
        subst hz
        exact Or.inr ⟨by decide, xIO, C.1.2.2.2.2 _ (mw_2 _ (List.mem_of_getElem? (i := 17) rfl)), hN.1⟩) (by decide) (by decide) (C.1.2.2.2.2 _ (mw_6 _ (List.mem_of_getElem? (i := 6) rfl))) ((Z.2.2.1 _ (by decide +kernel)).use rfl) hcell hcv hcl ?_
      refine W.eq (g2 := F0 m 15 ls [.ref q9]) rfl ?_
      refine lv_astore (lv' := (4, .ref q9) :: [(0, mV ad (some 0)), (1, .int y1), (2, .int y2)].filter (fun q => !(q.1 == 4))) hx hb dL_call_15 hl.1 (by decide) (by rw [ml_filter hl.2] <;> rfl) (fun ls hl2 => ?_)
      refine lv_bipush (v := -72) hx hb dL_call_17 (by decide) ?_
      exact ml_ret C hr hlk hX hP1 hS1 dL_call_19
    · refine vx_catch (own := RL) (name := xIS) C.1.2.2.2.1 [(⟨0, 7, 10, 14⟩ : ExceptionTableEntry), (⟨0, 7, 15, 16⟩ : ExceptionTableEntry)] (⟨0, 7, 20, 22⟩ : ExceptionTableEntry) [] (by rw [htb]; rfl) (fun z hz => by
        simp only [List.mem_cons, List.not_mem_nil, or_false] at hz
        rcases hz with rfl | rfl
        · exact Or.inr ⟨by decide, xIO, C.1.2.2.2.2 _ (mw_2 _ (List.mem_of_getElem? (i := 17) rfl)), hN.2.1⟩
        · exact Or.inr ⟨by decide, xIA, C.1.2.2.2.2 _ (mw_6 _ (List.mem_of_getElem? (i := 6) rfl)), hN.2.2⟩) (by decide) (by decide) (C.1.2.2.2.2 _ (mw_8 _ (List.mem_of_getElem? (i := 0) rfl))) ((Z.2.2.1 _ (by decide +kernel)).use rfl) hcell hcv hcl ?_
      refine W.eq (g2 := F0 m 20 ls [.ref q9]) rfl ?_
      refine lv_astore (lv' := (4, .ref q9) :: [(0, mV ad (some 0)), (1, .int y1), (2, .int y2)].filter (fun q => !(q.1 == 4))) hx hb dL_call_20 hl.1 (by decide) (by rw [ml_filter hl.2] <;> rfl) (fun ls hl2 => ?_)
      refine lv_bipush (v := -73) hx hb dL_call_22 (by decide) ?_
      exact ml_ret C hr hlk hX hP1 hS1 dL_call_24
  · refine mr_istore_n (lv' := (3, .int r) :: [(0, mV ad (some 0)), (1, .int y1), (2, .int y2)]) C hl dL_call_6 rfl (by decide) rfl (fun ls hl2 => ?_)
    refine lv_goto (tgt := 25) hx hb dL_call_7 (by decide) ?_
    refine lv_iload_n hx hb dL_call_25 rfl (ml_at hl2 0 rfl) ?_
    exact ml_ret C hr hlk hq hP1 hS1 dL_call_26
set_option maxRecDepth 100000 in
set_option maxHeartbeats 4000000 in
theorem c_L_cancel (l : Launch) (hfl : l.stackTraces = false) (G : mG) (ad : Nat → Nat) (y1 : Int32) (σ0 : mS) (b : Nat) (Q : Int32 → mS → Prop) (h : w_X2_cancel y1 σ0 b (fun r σ => Q r σ) (fun E σ => (E = xIO ∧ Q (-71) σ) ∨ (E = xIS ∧ Q (-73) σ))) : Met l yL_cancel (mWL yL_cancel cL_cancel 4 [(0, 6, 9, 14), (0, 6, 13, 22)]) (mRb 8 134 b) (va_Pc [mV ad (some 0), .int y1] (mPreN G ad σ0)) (va_Qi Q (mPostN G ad) (mA ad)) b (18 * b) (mA ad) := by
  refine ml_start (lst := [(0, mV ad (some 0)), (1, .int y1)]) (by decide) (m_cR (m_cI m_c0)) rfl (Nat.le_of_ble_eq_true rfl) (fun p e s m below meth c C hM Z hN hr hlk htb ls hl => ?_)
  have hx := C.1.1
  have hb := C.1.2.1
  refine mr_aload_n C dL_cancel_0 rfl (ml_at hl 0 rfl) ?_
  refine lv_iload_n hx hb dL_cancel_1 rfl (ml_at hl 1 rfl) ?_
  refine ml_call (mr_xrunV (As := [.int y1]) C hM Z hl.1.1 (c_X2_cancel l hfl G ad y1 σ0 b _ _ h) cw_L_31 (mO_fix hM rfl (by decide) (by decide) (by decide)) rfl rfl (n := 1) ⟨rfl, by decide, by decide, by decide +kernel⟩ rfl rfl ⟨Nat.le_of_ble_eq_true rfl, Nat.le_of_ble_eq_true rfl⟩ m_c0 (Nat.le_of_ble_eq_true rfl) dL_cancel_2 (by rw [Nat.zero_add]; exact Nat.le_refl b)) (fun E ce q9 v H1 locs1 hX hP1 hS1 hcell hcv hcl => ?_) (fun r v H1 locs1 hq hP1 hS1 => ?_)
  · rcases hX with ⟨rfl, hX⟩ | ⟨rfl, hX⟩
    · refine vx_catch (own := RL) (name := xIO) C.1.2.2.2.1 [] (⟨0, 6, 9, 14⟩ : ExceptionTableEntry) [(⟨0, 6, 13, 22⟩ : ExceptionTableEntry)] (by rw [htb]; rfl) (fun z hz => absurd hz List.not_mem_nil) (by decide) (by decide) (C.1.2.2.2.2 _ (mw_2 _ (List.mem_of_getElem? (i := 17) rfl))) ((Z.2.2.1 _ (by decide +kernel)).use rfl) hcell hcv hcl ?_
      refine W.eq (g2 := F0 m 9 ls [.ref q9]) rfl ?_
      refine lv_astore_n (lv' := (3, .ref q9) :: [(0, mV ad (some 0)), (1, .int y1)].filter (fun q => !(q.1 == 3))) hx hb dL_cancel_9 rfl hl.1 (by decide) (by rw [ml_filter hl.2] <;> rfl) (fun ls hl2 => ?_)
      refine lv_bipush (v := -71) hx hb dL_cancel_10 (by decide) ?_
      exact ml_ret C hr hlk hX hP1 hS1 dL_cancel_12
    · refine vx_catch (own := RL) (name := xIS) C.1.2.2.2.1 [(⟨0, 6, 9, 14⟩ : ExceptionTableEntry)] (⟨0, 6, 13, 22⟩ : ExceptionTableEntry) [] (by rw [htb]; rfl) (fun z hz => by
        simp only [List.mem_cons, List.not_mem_nil, or_false] at hz
        subst hz
        exact Or.inr ⟨by decide, xIO, C.1.2.2.2.2 _ (mw_2 _ (List.mem_of_getElem? (i := 17) rfl)), hN.2.1⟩) (by decide) (by decide) (C.1.2.2.2.2 _ (mw_8 _ (List.mem_of_getElem? (i := 0) rfl))) ((Z.2.2.1 _ (by decide +kernel)).use rfl) hcell hcv hcl ?_
      refine W.eq (g2 := F0 m 13 ls [.ref q9]) rfl ?_
      refine lv_astore_n (lv' := (3, .ref q9) :: [(0, mV ad (some 0)), (1, .int y1)].filter (fun q => !(q.1 == 3))) hx hb dL_cancel_13 rfl hl.1 (by decide) (by rw [ml_filter hl.2] <;> rfl) (fun ls hl2 => ?_)
      refine lv_bipush (v := -73) hx hb dL_cancel_14 (by decide) ?_
      exact ml_ret C hr hlk hX hP1 hS1 dL_cancel_16
  · refine mr_istore_n (lv' := (2, .int r) :: [(0, mV ad (some 0)), (1, .int y1)]) C hl dL_cancel_5 rfl (by decide) rfl (fun ls hl2 => ?_)
    refine lv_goto (tgt := 17) hx hb dL_cancel_6 (by decide) ?_
    refine lv_iload_n hx hb dL_cancel_17 rfl (ml_at hl2 0 rfl) ?_
    exact ml_ret C hr hlk hq hP1 hS1 dL_cancel_18
set_option maxRecDepth 100000 in
set_option maxHeartbeats 4000000 in
theorem c_L_pass (l : Launch) (hfl : l.stackTraces = false) (G : mG) (ad : Nat → Nat) (y1 : Int32) (σ0 : mS) (b : Nat) (Q : Int32 → mS → Prop) (h : w_X2_pass y1 σ0 b (fun r σ => Q r σ) (fun E σ => (E = xIA ∧ Q (-72) σ))) : Met l yL_pass (mWL yL_pass cL_pass 4 [(0, 6, 9, 16)]) (mRb 8 158 b) (va_Pc [mV ad (some 0), .int y1] (mPreN G ad σ0)) (va_Qi Q (mPostN G ad) (mA ad)) b (18 * b) (mA ad) := by
  refine ml_start (lst := [(0, mV ad (some 0)), (1, .int y1)]) (by decide) (m_cR (m_cI m_c0)) rfl (Nat.le_of_ble_eq_true rfl) (fun p e s m below meth c C hM Z hN hr hlk htb ls hl => ?_)
  have hx := C.1.1
  have hb := C.1.2.1
  refine mr_aload_n C dL_pass_0 rfl (ml_at hl 0 rfl) ?_
  refine lv_iload_n hx hb dL_pass_1 rfl (ml_at hl 1 rfl) ?_
  refine ml_call (mr_xrunV (As := [.int y1]) C hM Z hl.1.1 (c_X2_pass l hfl G ad y1 σ0 b _ _ h) cw_L_35 (mO_fix hM rfl (by decide) (by decide) (by decide)) rfl rfl (n := 1) ⟨rfl, by decide, by decide, by decide +kernel⟩ rfl rfl ⟨Nat.le_of_ble_eq_true rfl, Nat.le_of_ble_eq_true rfl⟩ m_c0 (Nat.le_of_ble_eq_true rfl) dL_pass_2 (by rw [Nat.zero_add]; exact Nat.le_refl b)) (fun E ce q9 v H1 locs1 hX hP1 hS1 hcell hcv hcl => ?_) (fun r v H1 locs1 hq hP1 hS1 => ?_)
  · obtain ⟨rfl, hX⟩ := hX
    refine vx_catch (own := RL) (name := xIA) C.1.2.2.2.1 [] (⟨0, 6, 9, 16⟩ : ExceptionTableEntry) [] (by rw [htb]; rfl) (fun z hz => absurd hz List.not_mem_nil) (by decide) (by decide) (C.1.2.2.2.2 _ (mw_6 _ (List.mem_of_getElem? (i := 6) rfl))) ((Z.2.2.1 _ (by decide +kernel)).use rfl) hcell hcv hcl ?_
    refine W.eq (g2 := F0 m 9 ls [.ref q9]) rfl ?_
    refine lv_astore_n (lv' := (3, .ref q9) :: [(0, mV ad (some 0)), (1, .int y1)].filter (fun q => !(q.1 == 3))) hx hb dL_pass_9 rfl hl.1 (by decide) (by rw [ml_filter hl.2] <;> rfl) (fun ls hl2 => ?_)
    refine lv_bipush (v := -72) hx hb dL_pass_10 (by decide) ?_
    exact ml_ret C hr hlk hX hP1 hS1 dL_pass_12
  · refine mr_istore_n (lv' := (2, .int r) :: [(0, mV ad (some 0)), (1, .int y1)]) C hl dL_pass_5 rfl (by decide) rfl (fun ls hl2 => ?_)
    refine lv_goto (tgt := 13) hx hb dL_pass_6 (by decide) ?_
    refine lv_iload_n hx hb dL_pass_13 rfl (ml_at hl2 0 rfl) ?_
    exact ml_ret C hr hlk hq hP1 hS1 dL_pass_14
set_option maxRecDepth 100000 in
set_option maxHeartbeats 4000000 in
theorem c_L_state (l : Launch) (hfl : l.stackTraces = false) (G : mG) (ad : Nat → Nat) (y1 : Int32) (σ0 : mS) (b : Nat) (Q : Int32 → mS → Prop) (h : w_X2_state y1 σ0 b (fun r σ => Q r σ) (fun E σ => (E = xIO ∧ Q (-71) σ))) : Met l yL_state (mWL yL_state cL_state 4 [(0, 6, 9, 14)]) (mRb 8 133 b) (va_Pc [mV ad (some 0), .int y1] (mPreN G ad σ0)) (va_Qi Q (mPostN G ad) (mA ad)) b (18 * b) (mA ad) := by
  refine ml_start (lst := [(0, mV ad (some 0)), (1, .int y1)]) (by decide) (m_cR (m_cI m_c0)) rfl (Nat.le_of_ble_eq_true rfl) (fun p e s m below meth c C hM Z hN hr hlk htb ls hl => ?_)
  have hx := C.1.1
  have hb := C.1.2.1
  refine mr_aload_n C dL_state_0 rfl (ml_at hl 0 rfl) ?_
  refine lv_iload_n hx hb dL_state_1 rfl (ml_at hl 1 rfl) ?_
  refine ml_call (mr_xrunV (As := [.int y1]) C hM Z hl.1.1 (c_X2_state l hfl G ad y1 σ0 b _ _ h) cw_L_38 (mO_fix hM rfl (by decide) (by decide) (by decide)) rfl rfl (n := 1) ⟨rfl, by decide, by decide, by decide +kernel⟩ rfl rfl ⟨Nat.le_of_ble_eq_true rfl, Nat.le_of_ble_eq_true rfl⟩ m_c0 (Nat.le_of_ble_eq_true rfl) dL_state_2 (by rw [Nat.zero_add]; exact Nat.le_refl b)) (fun E ce q9 v H1 locs1 hX hP1 hS1 hcell hcv hcl => ?_) (fun r v H1 locs1 hq hP1 hS1 => ?_)
  · obtain ⟨rfl, hX⟩ := hX
    refine vx_catch (own := RL) (name := xIO) C.1.2.2.2.1 [] (⟨0, 6, 9, 14⟩ : ExceptionTableEntry) [] (by rw [htb]; rfl) (fun z hz => absurd hz List.not_mem_nil) (by decide) (by decide) (C.1.2.2.2.2 _ (mw_2 _ (List.mem_of_getElem? (i := 17) rfl))) ((Z.2.2.1 _ (by decide +kernel)).use rfl) hcell hcv hcl ?_
    refine W.eq (g2 := F0 m 9 ls [.ref q9]) rfl ?_
    refine lv_astore_n (lv' := (3, .ref q9) :: [(0, mV ad (some 0)), (1, .int y1)].filter (fun q => !(q.1 == 3))) hx hb dL_state_9 rfl hl.1 (by decide) (by rw [ml_filter hl.2] <;> rfl) (fun ls hl2 => ?_)
    refine lv_bipush (v := -71) hx hb dL_state_10 (by decide) ?_
    exact ml_ret C hr hlk hX hP1 hS1 dL_state_12
  · refine mr_istore_n (lv' := (2, .int r) :: [(0, mV ad (some 0)), (1, .int y1)]) C hl dL_state_5 rfl (by decide) rfl (fun ls hl2 => ?_)
    refine lv_goto (tgt := 13) hx hb dL_state_6 (by decide) ?_
    refine lv_iload_n hx hb dL_state_13 rfl (ml_at hl2 0 rfl) ?_
    exact ml_ret C hr hlk hq hP1 hS1 dL_state_14
set_option maxRecDepth 100000 in
set_option maxHeartbeats 4000000 in
theorem c_L_place (l : Launch) (hfl : l.stackTraces = false) (G : mG) (ad : Nat → Nat) (y1 : Int32) (σ0 : mS) (b : Nat) (Q : Int32 → mS → Prop) (h : w_X2_place y1 σ0 b (fun r σ => Q r σ) (fun E σ => (E = xIO ∧ Q (-71) σ))) : Met l yL_place (mWL yL_place cL_place 4 [(0, 6, 9, 14)]) (mRb 8 134 b) (va_Pc [mV ad (some 0), .int y1] (mPreN G ad σ0)) (va_Qi Q (mPostN G ad) (mA ad)) b (18 * b) (mA ad) := by
  refine ml_start (lst := [(0, mV ad (some 0)), (1, .int y1)]) (by decide) (m_cR (m_cI m_c0)) rfl (Nat.le_of_ble_eq_true rfl) (fun p e s m below meth c C hM Z hN hr hlk htb ls hl => ?_)
  have hx := C.1.1
  have hb := C.1.2.1
  refine mr_aload_n C dL_place_0 rfl (ml_at hl 0 rfl) ?_
  refine lv_iload_n hx hb dL_place_1 rfl (ml_at hl 1 rfl) ?_
  refine ml_call (mr_xrunV (As := [.int y1]) C hM Z hl.1.1 (c_X2_place l hfl G ad y1 σ0 b _ _ h) cw_L_41 (mO_fix hM rfl (by decide) (by decide) (by decide)) rfl rfl (n := 1) ⟨rfl, by decide, by decide, by decide +kernel⟩ rfl rfl ⟨Nat.le_of_ble_eq_true rfl, Nat.le_of_ble_eq_true rfl⟩ m_c0 (Nat.le_of_ble_eq_true rfl) dL_place_2 (by rw [Nat.zero_add]; exact Nat.le_refl b)) (fun E ce q9 v H1 locs1 hX hP1 hS1 hcell hcv hcl => ?_) (fun r v H1 locs1 hq hP1 hS1 => ?_)
  · obtain ⟨rfl, hX⟩ := hX
    refine vx_catch (own := RL) (name := xIO) C.1.2.2.2.1 [] (⟨0, 6, 9, 14⟩ : ExceptionTableEntry) [] (by rw [htb]; rfl) (fun z hz => absurd hz List.not_mem_nil) (by decide) (by decide) (C.1.2.2.2.2 _ (mw_2 _ (List.mem_of_getElem? (i := 17) rfl))) ((Z.2.2.1 _ (by decide +kernel)).use rfl) hcell hcv hcl ?_
    refine W.eq (g2 := F0 m 9 ls [.ref q9]) rfl ?_
    refine lv_astore_n (lv' := (3, .ref q9) :: [(0, mV ad (some 0)), (1, .int y1)].filter (fun q => !(q.1 == 3))) hx hb dL_place_9 rfl hl.1 (by decide) (by rw [ml_filter hl.2] <;> rfl) (fun ls hl2 => ?_)
    refine lv_bipush (v := -71) hx hb dL_place_10 (by decide) ?_
    exact ml_ret C hr hlk hX hP1 hS1 dL_place_12
  · refine mr_istore_n (lv' := (2, .int r) :: [(0, mV ad (some 0)), (1, .int y1)]) C hl dL_place_5 rfl (by decide) rfl (fun ls hl2 => ?_)
    refine lv_goto (tgt := 13) hx hb dL_place_6 (by decide) ?_
    refine lv_iload_n hx hb dL_place_13 rfl (ml_at hl2 0 rfl) ?_
    exact ml_ret C hr hlk hq hP1 hS1 dL_place_14
set_option maxRecDepth 100000 in
set_option maxHeartbeats 4000000 in
theorem c_L_queuedAt (l : Launch) (hfl : l.stackTraces = false) (G : mG) (ad : Nat → Nat) (y1 : Int32) (y2 : Int32) (σ0 : mS) (b : Nat) (Q : Int32 → mS → Prop) (h : w_X2_queuedAt y1 y2 σ0 b (fun r σ => Q r σ) (fun E σ => (E = xIO ∧ Q (-71) σ))) : Met l yL_queuedAt (mWL yL_queuedAt cL_queuedAt 5 [(0, 7, 10, 14)]) (mRb 8 137 b) (va_Pc [mV ad (some 0), .int y1, .int y2] (mPreN G ad σ0)) (va_Qi Q (mPostN G ad) (mA ad)) b (18 * b) (mA ad) := by
  refine ml_start (lst := [(0, mV ad (some 0)), (1, .int y1), (2, .int y2)]) (by decide) (m_cR (m_cI (m_cI m_c0))) rfl (Nat.le_of_ble_eq_true rfl) (fun p e s m below meth c C hM Z hN hr hlk htb ls hl => ?_)
  have hx := C.1.1
  have hb := C.1.2.1
  refine mr_aload_n C dL_queuedAt_0 rfl (ml_at hl 0 rfl) ?_
  refine lv_iload_n hx hb dL_queuedAt_1 rfl (ml_at hl 1 rfl) ?_
  refine lv_iload_n hx hb dL_queuedAt_2 rfl (ml_at hl 2 rfl) ?_
  refine ml_call (mr_xrunV (As := [.int y1, .int y2]) C hM Z hl.1.1 (c_X2_queuedAt l hfl G ad y1 y2 σ0 b _ _ h) cw_L_44 (mO_fix hM rfl (by decide) (by decide) (by decide)) rfl rfl (n := 2) ⟨rfl, by decide, by decide, by decide +kernel⟩ rfl rfl ⟨Nat.le_of_ble_eq_true rfl, Nat.le_of_ble_eq_true rfl⟩ m_c0 (Nat.le_of_ble_eq_true rfl) dL_queuedAt_3 (by rw [Nat.zero_add]; exact Nat.le_refl b)) (fun E ce q9 v H1 locs1 hX hP1 hS1 hcell hcv hcl => ?_) (fun r v H1 locs1 hq hP1 hS1 => ?_)
  · obtain ⟨rfl, hX⟩ := hX
    refine vx_catch (own := RL) (name := xIO) C.1.2.2.2.1 [] (⟨0, 7, 10, 14⟩ : ExceptionTableEntry) [] (by rw [htb]; rfl) (fun z hz => absurd hz List.not_mem_nil) (by decide) (by decide) (C.1.2.2.2.2 _ (mw_2 _ (List.mem_of_getElem? (i := 17) rfl))) ((Z.2.2.1 _ (by decide +kernel)).use rfl) hcell hcv hcl ?_
    refine W.eq (g2 := F0 m 10 ls [.ref q9]) rfl ?_
    refine lv_astore (lv' := (4, .ref q9) :: [(0, mV ad (some 0)), (1, .int y1), (2, .int y2)].filter (fun q => !(q.1 == 4))) hx hb dL_queuedAt_10 hl.1 (by decide) (by rw [ml_filter hl.2] <;> rfl) (fun ls hl2 => ?_)
    refine lv_bipush (v := -71) hx hb dL_queuedAt_12 (by decide) ?_
    exact ml_ret C hr hlk hX hP1 hS1 dL_queuedAt_14
  · refine mr_istore_n (lv' := (3, .int r) :: [(0, mV ad (some 0)), (1, .int y1), (2, .int y2)]) C hl dL_queuedAt_6 rfl (by decide) rfl (fun ls hl2 => ?_)
    refine lv_goto (tgt := 15) hx hb dL_queuedAt_7 (by decide) ?_
    refine lv_iload_n hx hb dL_queuedAt_15 rfl (ml_at hl2 0 rfl) ?_
    exact ml_ret C hr hlk hq hP1 hS1 dL_queuedAt_16
set_option maxRecDepth 100000 in
set_option maxHeartbeats 4000000 in
theorem c_L_count (l : Launch) (hfl : l.stackTraces = false) (G : mG) (ad : Nat → Nat) (y1 : Int32) (y2 : Int32) (σ0 : mS) (b : Nat) (Q : Int32 → mS → Prop) (h : w_X2_count y1 y2 σ0 b (fun r σ => Q r σ) (fun E σ => (E = xIO ∧ Q (-71) σ) ∨ (E = xIA ∧ Q (-72) σ))) : Met l yL_count (mWL yL_count cL_count 5 [(0, 7, 10, 14), (0, 7, 15, 16)]) (mRb 8 135 b) (va_Pc [mV ad (some 0), .int y1, .int y2] (mPreN G ad σ0)) (va_Qi Q (mPostN G ad) (mA ad)) b (18 * b) (mA ad) := by
  refine ml_start (lst := [(0, mV ad (some 0)), (1, .int y1), (2, .int y2)]) (by decide) (m_cR (m_cI (m_cI m_c0))) rfl (Nat.le_of_ble_eq_true rfl) (fun p e s m below meth c C hM Z hN hr hlk htb ls hl => ?_)
  have hx := C.1.1
  have hb := C.1.2.1
  refine mr_aload_n C dL_count_0 rfl (ml_at hl 0 rfl) ?_
  refine lv_iload_n hx hb dL_count_1 rfl (ml_at hl 1 rfl) ?_
  refine lv_iload_n hx hb dL_count_2 rfl (ml_at hl 2 rfl) ?_
  refine ml_call (mr_xrunV (As := [.int y1, .int y2]) C hM Z hl.1.1 (c_X2_count l hfl G ad y1 y2 σ0 b _ _ h) cw_L_47 (mO_fix hM rfl (by decide) (by decide) (by decide)) rfl rfl (n := 2) ⟨rfl, by decide, by decide, by decide +kernel⟩ rfl rfl ⟨Nat.le_of_ble_eq_true rfl, Nat.le_of_ble_eq_true rfl⟩ m_c0 (Nat.le_of_ble_eq_true rfl) dL_count_3 (by rw [Nat.zero_add]; exact Nat.le_refl b)) (fun E ce q9 v H1 locs1 hX hP1 hS1 hcell hcv hcl => ?_) (fun r v H1 locs1 hq hP1 hS1 => ?_)
  · rcases hX with ⟨rfl, hX⟩ | ⟨rfl, hX⟩
    · refine vx_catch (own := RL) (name := xIO) C.1.2.2.2.1 [] (⟨0, 7, 10, 14⟩ : ExceptionTableEntry) [(⟨0, 7, 15, 16⟩ : ExceptionTableEntry)] (by rw [htb]; rfl) (fun z hz => absurd hz List.not_mem_nil) (by decide) (by decide) (C.1.2.2.2.2 _ (mw_2 _ (List.mem_of_getElem? (i := 17) rfl))) ((Z.2.2.1 _ (by decide +kernel)).use rfl) hcell hcv hcl ?_
      refine W.eq (g2 := F0 m 10 ls [.ref q9]) rfl ?_
      refine lv_astore (lv' := (4, .ref q9) :: [(0, mV ad (some 0)), (1, .int y1), (2, .int y2)].filter (fun q => !(q.1 == 4))) hx hb dL_count_10 hl.1 (by decide) (by rw [ml_filter hl.2] <;> rfl) (fun ls hl2 => ?_)
      refine lv_bipush (v := -71) hx hb dL_count_12 (by decide) ?_
      exact ml_ret C hr hlk hX hP1 hS1 dL_count_14
    · refine vx_catch (own := RL) (name := xIA) C.1.2.2.2.1 [(⟨0, 7, 10, 14⟩ : ExceptionTableEntry)] (⟨0, 7, 15, 16⟩ : ExceptionTableEntry) [] (by rw [htb]; rfl) (fun z hz => by
        simp only [List.mem_cons, List.not_mem_nil, or_false] at hz
        subst hz
        exact Or.inr ⟨by decide, xIO, C.1.2.2.2.2 _ (mw_2 _ (List.mem_of_getElem? (i := 17) rfl)), hN.1⟩) (by decide) (by decide) (C.1.2.2.2.2 _ (mw_6 _ (List.mem_of_getElem? (i := 6) rfl))) ((Z.2.2.1 _ (by decide +kernel)).use rfl) hcell hcv hcl ?_
      refine W.eq (g2 := F0 m 15 ls [.ref q9]) rfl ?_
      refine lv_astore (lv' := (4, .ref q9) :: [(0, mV ad (some 0)), (1, .int y1), (2, .int y2)].filter (fun q => !(q.1 == 4))) hx hb dL_count_15 hl.1 (by decide) (by rw [ml_filter hl.2] <;> rfl) (fun ls hl2 => ?_)
      refine lv_bipush (v := -72) hx hb dL_count_17 (by decide) ?_
      exact ml_ret C hr hlk hX hP1 hS1 dL_count_19
  · refine mr_istore_n (lv' := (3, .int r) :: [(0, mV ad (some 0)), (1, .int y1), (2, .int y2)]) C hl dL_count_6 rfl (by decide) rfl (fun ls hl2 => ?_)
    refine lv_goto (tgt := 20) hx hb dL_count_7 (by decide) ?_
    refine lv_iload_n hx hb dL_count_20 rfl (ml_at hl2 0 rfl) ?_
    exact ml_ret C hr hlk hq hP1 hS1 dL_count_21
set_option maxRecDepth 100000 in
set_option maxHeartbeats 4000000 in
theorem c_L_tokens (l : Launch) (hfl : l.stackTraces = false) (G : mG) (ad : Nat → Nat) (y1 : Int32) (σ0 : mS) (b : Nat) (Q : Int32 → mS → Prop) (h : w_X2_tokens y1 σ0 b (fun r σ => Q r σ) (fun E σ => (E = xIO ∧ Q (-71) σ))) : Met l yL_tokens (mWL yL_tokens cL_tokens 4 [(0, 6, 9, 14)]) (mRb 8 133 b) (va_Pc [mV ad (some 0), .int y1] (mPreN G ad σ0)) (va_Qi Q (mPostN G ad) (mA ad)) b (18 * b) (mA ad) := by
  refine ml_start (lst := [(0, mV ad (some 0)), (1, .int y1)]) (by decide) (m_cR (m_cI m_c0)) rfl (Nat.le_of_ble_eq_true rfl) (fun p e s m below meth c C hM Z hN hr hlk htb ls hl => ?_)
  have hx := C.1.1
  have hb := C.1.2.1
  refine mr_aload_n C dL_tokens_0 rfl (ml_at hl 0 rfl) ?_
  refine lv_iload_n hx hb dL_tokens_1 rfl (ml_at hl 1 rfl) ?_
  refine ml_call (mr_xrunV (As := [.int y1]) C hM Z hl.1.1 (c_X2_tokens l hfl G ad y1 σ0 b _ _ h) cw_L_50 (mO_fix hM rfl (by decide) (by decide) (by decide)) rfl rfl (n := 1) ⟨rfl, by decide, by decide, by decide +kernel⟩ rfl rfl ⟨Nat.le_of_ble_eq_true rfl, Nat.le_of_ble_eq_true rfl⟩ m_c0 (Nat.le_of_ble_eq_true rfl) dL_tokens_2 (by rw [Nat.zero_add]; exact Nat.le_refl b)) (fun E ce q9 v H1 locs1 hX hP1 hS1 hcell hcv hcl => ?_) (fun r v H1 locs1 hq hP1 hS1 => ?_)
  · obtain ⟨rfl, hX⟩ := hX
    refine vx_catch (own := RL) (name := xIO) C.1.2.2.2.1 [] (⟨0, 6, 9, 14⟩ : ExceptionTableEntry) [] (by rw [htb]; rfl) (fun z hz => absurd hz List.not_mem_nil) (by decide) (by decide) (C.1.2.2.2.2 _ (mw_2 _ (List.mem_of_getElem? (i := 17) rfl))) ((Z.2.2.1 _ (by decide +kernel)).use rfl) hcell hcv hcl ?_
    refine W.eq (g2 := F0 m 9 ls [.ref q9]) rfl ?_
    refine lv_astore_n (lv' := (3, .ref q9) :: [(0, mV ad (some 0)), (1, .int y1)].filter (fun q => !(q.1 == 3))) hx hb dL_tokens_9 rfl hl.1 (by decide) (by rw [ml_filter hl.2] <;> rfl) (fun ls hl2 => ?_)
    refine lv_bipush (v := -71) hx hb dL_tokens_10 (by decide) ?_
    exact ml_ret C hr hlk hX hP1 hS1 dL_tokens_12
  · refine mr_istore_n (lv' := (2, .int r) :: [(0, mV ad (some 0)), (1, .int y1)]) C hl dL_tokens_5 rfl (by decide) rfl (fun ls hl2 => ?_)
    refine lv_goto (tgt := 13) hx hb dL_tokens_6 (by decide) ?_
    refine lv_iload_n hx hb dL_tokens_13 rfl (ml_at hl2 0 rfl) ?_
    exact ml_ret C hr hlk hq hP1 hS1 dL_tokens_14
