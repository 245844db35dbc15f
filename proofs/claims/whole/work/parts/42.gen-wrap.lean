theorem m_cA {x : Nat} {r : List Value} (h : ∀ v ∈ r, v.category = 1) : ∀ v ∈ Value.ref x :: r, v.category = 1 := fun v hv => (List.mem_cons.mp hv).elim (fun e => by rw [e]; rfl) (h v)
theorem cw_L_7 : mCw RL 7 RX2 yX2_setWork cX2_setWork 6 (some .int) := ⟨(mw_3 _ (List.mem_of_getElem? (i := 20) rfl)), (mw_3 _ (List.mem_of_getElem? (i := 21) rfl)), (mw_3 _ (List.mem_of_getElem? (i := 22) rfl)), (mw_1 _ (List.mem_of_getElem? (i := 2) rfl)), (mw_3 _ (List.mem_of_getElem? (i := 23) rfl))⟩
theorem cw_L_17 : mCw RL 17 RX2 yX2_ask cX2_ask 5 (some .int) := ⟨(mw_5 _ (List.mem_of_getElem? (i := 9) rfl)), (mw_5 _ (List.mem_of_getElem? (i := 10) rfl)), (mw_5 _ (List.mem_of_getElem? (i := 11) rfl)), (mw_1 _ (List.mem_of_getElem? (i := 2) rfl)), (mw_5 _ (List.mem_of_getElem? (i := 12) rfl))⟩
theorem cw_L_23 : mCw RL 23 RX2 yX2_setRoom cX2_setRoom 7 (some .int) := ⟨(mw_6 _ (List.mem_of_getElem? (i := 4) rfl)), (mw_6 _ (List.mem_of_getElem? (i := 5) rfl)), (mw_6 _ (List.mem_of_getElem? (i := 6) rfl)), (mw_1 _ (List.mem_of_getElem? (i := 2) rfl)), (mw_6 _ (List.mem_of_getElem? (i := 7) rfl))⟩
theorem cw_L_27 : mCw RL 27 RX2 yX2_call cX2_call 5 (some .int) := ⟨(mw_6 _ (List.mem_of_getElem? (i := 18) rfl)), (mw_6 _ (List.mem_of_getElem? (i := 19) rfl)), (mw_6 _ (List.mem_of_getElem? (i := 20) rfl)), (mw_1 _ (List.mem_of_getElem? (i := 2) rfl)), (mw_6 _ (List.mem_of_getElem? (i := 21) rfl))⟩
theorem cw_L_30 : mCw RL 30 RX2 yX2_cancel cX2_cancel 3 (some .int) := ⟨(mw_12 _ (List.mem_of_getElem? (i := 1) rfl)), (mw_12 _ (List.mem_of_getElem? (i := 2) rfl)), (mw_12 _ (List.mem_of_getElem? (i := 3) rfl)), (mw_1 _ (List.mem_of_getElem? (i := 2) rfl)), (mw_12 _ (List.mem_of_getElem? (i := 4) rfl))⟩
theorem cw_L_34 : mCw RL 34 RX2 yX2_pass cX2_pass 4 (some .int) := ⟨(mw_12 _ (List.mem_of_getElem? (i := 20) rfl)), (mw_12 _ (List.mem_of_getElem? (i := 21) rfl)), (mw_12 _ (List.mem_of_getElem? (i := 22) rfl)), (mw_1 _ (List.mem_of_getElem? (i := 2) rfl)), (mw_12 _ (List.mem_of_getElem? (i := 23) rfl))⟩
theorem cw_L_37 : mCw RL 37 RX2 yX2_state cX2_state 2 (some .int) := ⟨(mw_20 _ (List.mem_of_getElem? (i := 7) rfl)), (mw_20 _ (List.mem_of_getElem? (i := 8) rfl)), (mw_20 _ (List.mem_of_getElem? (i := 9) rfl)), (mw_1 _ (List.mem_of_getElem? (i := 2) rfl)), (mw_20 _ (List.mem_of_getElem? (i := 10) rfl))⟩
theorem cw_L_40 : mCw RL 40 RX2 yX2_origin cX2_origin 4 (some .int) := ⟨(mw_20 _ (List.mem_of_getElem? (i := 22) rfl)), (mw_20 _ (List.mem_of_getElem? (i := 23) rfl)), (mw_21 _ (List.mem_of_getElem? (i := 0) rfl)), (mw_1 _ (List.mem_of_getElem? (i := 2) rfl)), (mw_21 _ (List.mem_of_getElem? (i := 1) rfl))⟩
theorem cw_L_43 : mCw RL 43 RX2 yX2_deadline cX2_deadline 2 (some .int) := ⟨(mw_21 _ (List.mem_of_getElem? (i := 10) rfl)), (mw_21 _ (List.mem_of_getElem? (i := 11) rfl)), (mw_21 _ (List.mem_of_getElem? (i := 12) rfl)), (mw_1 _ (List.mem_of_getElem? (i := 2) rfl)), (mw_21 _ (List.mem_of_getElem? (i := 13) rfl))⟩
theorem cw_L_46 : mCw RL 46 RX2 yX2_overAt cX2_overAt 2 (some .int) := ⟨(mw_21 _ (List.mem_of_getElem? (i := 21) rfl)), (mw_21 _ (List.mem_of_getElem? (i := 22) rfl)), (mw_21 _ (List.mem_of_getElem? (i := 23) rfl)), (mw_1 _ (List.mem_of_getElem? (i := 2) rfl)), (mw_22 _ (List.mem_of_getElem? (i := 0) rfl))⟩
theorem cw_L_49 : mCw RL 49 RX2 yX2_place cX2_place 3 (some .int) := ⟨(mw_22 _ (List.mem_of_getElem? (i := 8) rfl)), (mw_22 _ (List.mem_of_getElem? (i := 9) rfl)), (mw_22 _ (List.mem_of_getElem? (i := 10) rfl)), (mw_1 _ (List.mem_of_getElem? (i := 2) rfl)), (mw_22 _ (List.mem_of_getElem? (i := 11) rfl))⟩
theorem cw_L_52 : mCw RL 52 RX2 yX2_below cX2_below 5 (some .int) := ⟨(mw_22 _ (List.mem_of_getElem? (i := 19) rfl)), (mw_22 _ (List.mem_of_getElem? (i := 20) rfl)), (mw_22 _ (List.mem_of_getElem? (i := 21) rfl)), (mw_1 _ (List.mem_of_getElem? (i := 2) rfl)), (mw_22 _ (List.mem_of_getElem? (i := 22) rfl))⟩
theorem cw_L_55 : mCw RL 55 RX2 yX2_queuedAt cX2_queuedAt 6 (some .int) := ⟨(mw_23 _ (List.mem_of_getElem? (i := 14) rfl)), (mw_23 _ (List.mem_of_getElem? (i := 15) rfl)), (mw_23 _ (List.mem_of_getElem? (i := 16) rfl)), (mw_1 _ (List.mem_of_getElem? (i := 2) rfl)), (mw_23 _ (List.mem_of_getElem? (i := 17) rfl))⟩
theorem cw_L_58 : mCw RL 58 RX2 yX2_count cX2_count 4 (some .int) := ⟨(mw_24 _ (List.mem_of_getElem? (i := 1) rfl)), (mw_24 _ (List.mem_of_getElem? (i := 2) rfl)), (mw_24 _ (List.mem_of_getElem? (i := 3) rfl)), (mw_1 _ (List.mem_of_getElem? (i := 2) rfl)), (mw_24 _ (List.mem_of_getElem? (i := 4) rfl))⟩
theorem cw_L_61 : mCw RL 61 RX2 yX2_tokens cX2_tokens 2 (some .int) := ⟨(mw_24 _ (List.mem_of_getElem? (i := 12) rfl)), (mw_24 _ (List.mem_of_getElem? (i := 13) rfl)), (mw_24 _ (List.mem_of_getElem? (i := 14) rfl)), (mw_1 _ (List.mem_of_getElem? (i := 2) rfl)), (mw_24 _ (List.mem_of_getElem? (i := 15) rfl))⟩
theorem cw_L_64 : mCw RL 64 RX2 yX2_isOpen cX2_isOpen 2 (some .boolean) := ⟨(mw_25 _ (List.mem_of_getElem? (i := 0) rfl)), (mw_25 _ (List.mem_of_getElem? (i := 1) rfl)), (mw_25 _ (List.mem_of_getElem? (i := 2) rfl)), (mw_1 _ (List.mem_of_getElem? (i := 2) rfl)), (mw_25 _ (List.mem_of_getElem? (i := 3) rfl))⟩
set_option maxRecDepth 100000 in
set_option maxHeartbeats 4000000 in
theorem c_L_setWork (l : Launch) (hfl : l.stackTraces = false) (G : mG) (cL : ClassId) (ad : Nat → Nat) (o : Nat) (y1 : Int32) (y2 : Int32) (y3 : Int32) (σ0 : mS) (v0 : Nat → Int64) (b : Nat) (Q : Int32 → Int64 → mS → Prop) (h : w_X2_setWork y1 y2 y3 σ0 b (fun r σ => Q 0 r.toInt64 σ) (fun E σ => (E = xIO ∧ Q 1 (v0 0) σ) ∨ (E = xIA ∧ Q 2 (v0 0) σ))) : Met l yL_setWork (mWL yL_setWork cL_setWork 6 [(0, 12, 15, 13), (0, 12, 19, 15)]) (mRb 8 137 b) (va_Pc [mV ad (some 0), .int y1, .int y2, .int y3, .ref o] (mPreL G cL ad o σ0 v0)) (va_Qi (fun r (q : mS × Int64) => Q r q.2 q.1) (mPostL G cL ad o) (mAL ad o)) b (18 * b) (mAL ad o) := by
  refine ml_start (lst := [(0, mV ad (some 0)), (1, .int y1), (2, .int y2), (3, .int y3), (4, .ref o)]) (by decide) (m_cR (m_cI (m_cI (m_cI (m_cA m_c0))))) rfl (Nat.le_of_ble_eq_true rfl) (fun p e s m below meth c C hM Z hA hO hne hN hr hlk htb ls hl => ?_)
  have hx := C.1.1
  have hb := C.1.2.1
  refine lv_aload hx hb dL_setWork_0 (ml_at hl 4 rfl) ?_
  refine lv_iconst (v := 0) hx hb dL_setWork_2 (by decide) ?_
  refine mr_aload_n C dL_setWork_3 rfl (ml_at hl 0 rfl) ?_
  refine lv_iload_n hx hb dL_setWork_4 rfl (ml_at hl 1 rfl) ?_
  refine lv_iload_n hx hb dL_setWork_5 rfl (ml_at hl 2 rfl) ?_
  refine lv_iload_n hx hb dL_setWork_6 rfl (ml_at hl 3 rfl) ?_
  refine ml_call hO hne (mr_xrunV (As := [.int y1, .int y2, .int y3]) C hM Z hl.1.1 (c_X2_setWork l hfl G ad y1 y2 y3 σ0 b _ _ h) cw_L_7 (mO_fix hM rfl (by decide) (by decide) (by decide)) rfl rfl (n := 3) ⟨rfl, by decide, by decide, by decide +kernel⟩ rfl rfl ⟨Nat.le_of_ble_eq_true rfl, Nat.le_of_ble_eq_true rfl⟩ (m_cI (m_cA m_c0)) (Nat.le_of_ble_eq_true rfl) dL_setWork_7 (by rw [Nat.zero_add]; exact Nat.le_refl b)) (fun E ce q9 v H1 locs1 hX hP1 hO1 hS1 hcell hcv hcl => ?_) (fun r v H1 locs1 hq hP1 hO1 hS1 => ?_)
  · rcases hX with ⟨rfl, hX⟩ | ⟨rfl, hX⟩
    · refine vx_catch (own := RL) (name := xIO) C.1.2.2.2.1 [] (⟨0, 12, 15, 13⟩ : ExceptionTableEntry) [(⟨0, 12, 19, 15⟩ : ExceptionTableEntry)] (by rw [htb]; rfl) (fun z hz => absurd hz List.not_mem_nil) (by decide) (by decide) (C.1.2.2.2.2 _ (mw_3 _ (List.mem_of_getElem? (i := 18) rfl))) ((Z.2.2.1 _ (by decide +kernel)).use rfl) hcell hcv hcl ?_
      refine W.eq (g2 := F0 m 15 ls [.ref q9]) rfl ?_
      refine lv_astore (lv' := (5, .ref q9) :: [(0, mV ad (some 0)), (1, .int y1), (2, .int y2), (3, .int y3), (4, .ref o)].filter (fun q => !(q.1 == 5))) hx hb dL_setWork_15 hl.1 (by decide) (by rw [ml_filter hl.2] <;> rfl) (fun ls hl2 => ?_)
      refine lv_iconst (v := 1) hx hb dL_setWork_17 (by decide) ?_
      exact ml_ret C hr hlk hX rfl hP1 hO1 hS1 dL_setWork_18
    · refine vx_catch (own := RL) (name := xIA) C.1.2.2.2.1 [(⟨0, 12, 15, 13⟩ : ExceptionTableEntry)] (⟨0, 12, 19, 15⟩ : ExceptionTableEntry) [] (by rw [htb]; rfl) (fun z hz => by
        simp only [List.mem_cons, List.not_mem_nil, or_false] at hz
        subst hz
        exact Or.inr ⟨by decide, xIO, C.1.2.2.2.2 _ (mw_3 _ (List.mem_of_getElem? (i := 18) rfl)), hN.1⟩) (by decide) (by decide) (C.1.2.2.2.2 _ (mw_3 _ (List.mem_of_getElem? (i := 19) rfl))) ((Z.2.2.1 _ (by decide +kernel)).use rfl) hcell hcv hcl ?_
      refine W.eq (g2 := F0 m 19 ls [.ref q9]) rfl ?_
      refine lv_astore (lv' := (5, .ref q9) :: [(0, mV ad (some 0)), (1, .int y1), (2, .int y2), (3, .int y3), (4, .ref o)].filter (fun q => !(q.1 == 5))) hx hb dL_setWork_19 hl.1 (by decide) (by rw [ml_filter hl.2] <;> rfl) (fun ls hl2 => ?_)
      refine lv_iconst (v := 2) hx hb dL_setWork_21 (by decide) ?_
      exact ml_ret C hr hlk hX rfl hP1 hO1 hS1 dL_setWork_22
  · refine lv_i2l (v := r.toInt64) hx hb dL_setWork_10 rfl ?_
    refine ml_put C hA hne hP1 hO1 hS1 dL_setWork_11 (fun H1 locs1 v1 hv1 hP1 hO1 hS1 => ?_)
    refine lv_goto (tgt := 23) hx hb dL_setWork_12 (by decide) ?_
    refine lv_iconst (v := 0) hx hb dL_setWork_23 (by decide) ?_
    exact ml_ret C hr hlk hq hv1 hP1 hO1 hS1 dL_setWork_24
set_option maxRecDepth 100000 in
set_option maxHeartbeats 4000000 in
theorem c_L_ask (l : Launch) (hfl : l.stackTraces = false) (G : mG) (cL : ClassId) (ad : Nat → Nat) (o : Nat) (y1 : Int32) (y2 : Int32) (σ0 : mS) (v0 : Nat → Int64) (b : Nat) (Q : Int32 → Int64 → mS → Prop) (h : w_X2_ask y1 y2 σ0 b (fun r σ => Q 0 r.toInt64 σ) (fun E σ => (E = xIO ∧ Q 1 (v0 0) σ) ∨ (E = xIA ∧ Q 2 (v0 0) σ) ∨ (E = xIS ∧ Q 3 (v0 0) σ))) : Met l yL_ask (mWL yL_ask cL_ask 5 [(0, 10, 13, 13), (0, 10, 17, 15), (0, 10, 21, 21)]) (mRb 8 136 b) (va_Pc [mV ad (some 0), .int y1, .int y2, .ref o] (mPreL G cL ad o σ0 v0)) (va_Qi (fun r (q : mS × Int64) => Q r q.2 q.1) (mPostL G cL ad o) (mAL ad o)) b (18 * b) (mAL ad o) := by
  refine ml_start (lst := [(0, mV ad (some 0)), (1, .int y1), (2, .int y2), (3, .ref o)]) (by decide) (m_cR (m_cI (m_cI (m_cA m_c0)))) rfl (Nat.le_of_ble_eq_true rfl) (fun p e s m below meth c C hM Z hA hO hne hN hr hlk htb ls hl => ?_)
  have hx := C.1.1
  have hb := C.1.2.1
  refine lv_aload_n hx hb dL_ask_0 rfl (ml_at hl 3 rfl) ?_
  refine lv_iconst (v := 0) hx hb dL_ask_1 (by decide) ?_
  refine mr_aload_n C dL_ask_2 rfl (ml_at hl 0 rfl) ?_
  refine lv_iload_n hx hb dL_ask_3 rfl (ml_at hl 1 rfl) ?_
  refine lv_iload_n hx hb dL_ask_4 rfl (ml_at hl 2 rfl) ?_
  refine ml_call hO hne (mr_xrunV (As := [.int y1, .int y2]) C hM Z hl.1.1 (c_X2_ask l hfl G ad y1 y2 σ0 b _ _ h) cw_L_17 (mO_fix hM rfl (by decide) (by decide) (by decide)) rfl rfl (n := 2) ⟨rfl, by decide, by decide, by decide +kernel⟩ rfl rfl ⟨Nat.le_of_ble_eq_true rfl, Nat.le_of_ble_eq_true rfl⟩ (m_cI (m_cA m_c0)) (Nat.le_of_ble_eq_true rfl) dL_ask_5 (by rw [Nat.zero_add]; exact Nat.le_refl b)) (fun E ce q9 v H1 locs1 hX hP1 hO1 hS1 hcell hcv hcl => ?_) (fun r v H1 locs1 hq hP1 hO1 hS1 => ?_)
  · rcases hX with ⟨rfl, hX⟩ | ⟨rfl, hX⟩ | ⟨rfl, hX⟩
    · refine vx_catch (own := RL) (name := xIO) C.1.2.2.2.1 [] (⟨0, 10, 13, 13⟩ : ExceptionTableEntry) [(⟨0, 10, 17, 15⟩ : ExceptionTableEntry), (⟨0, 10, 21, 21⟩ : ExceptionTableEntry)] (by rw [htb]; rfl) (fun z hz => absurd hz List.not_mem_nil) (by decide) (by decide) (C.1.2.2.2.2 _ (mw_3 _ (List.mem_of_getElem? (i := 18) rfl))) ((Z.2.2.1 _ (by decide +kernel)).use rfl) hcell hcv hcl ?_
      refine W.eq (g2 := F0 m 13 ls [.ref q9]) rfl ?_
      refine lv_astore (lv' := (4, .ref q9) :: [(0, mV ad (some 0)), (1, .int y1), (2, .int y2), (3, .ref o)].filter (fun q => !(q.1 == 4))) hx hb dL_ask_13 hl.1 (by decide) (by rw [ml_filter hl.2] <;> rfl) (fun ls hl2 => ?_)
      refine lv_iconst (v := 1) hx hb dL_ask_15 (by decide) ?_
      exact ml_ret C hr hlk hX rfl hP1 hO1 hS1 dL_ask_16
    · refine vx_catch (own := RL) (name := xIA) C.1.2.2.2.1 [(⟨0, 10, 13, 13⟩ : ExceptionTableEntry)] (⟨0, 10, 17, 15⟩ : ExceptionTableEntry) [(⟨0, 10, 21, 21⟩ : ExceptionTableEntry)] (by rw [htb]; rfl) (fun z hz => by
        simp only [List.mem_cons, List.not_mem_nil, or_false] at hz
        subst hz
        exact Or.inr ⟨by decide, xIO, C.1.2.2.2.2 _ (mw_3 _ (List.mem_of_getElem? (i := 18) rfl)), hN.1⟩) (by decide) (by decide) (C.1.2.2.2.2 _ (mw_3 _ (List.mem_of_getElem? (i := 19) rfl))) ((Z.2.2.1 _ (by decide +kernel)).use rfl) hcell hcv hcl ?_
      refine W.eq (g2 := F0 m 17 ls [.ref q9]) rfl ?_
      refine lv_astore (lv' := (4, .ref q9) :: [(0, mV ad (some 0)), (1, .int y1), (2, .int y2), (3, .ref o)].filter (fun q => !(q.1 == 4))) hx hb dL_ask_17 hl.1 (by decide) (by rw [ml_filter hl.2] <;> rfl) (fun ls hl2 => ?_)
      refine lv_iconst (v := 2) hx hb dL_ask_19 (by decide) ?_
      exact ml_ret C hr hlk hX rfl hP1 hO1 hS1 dL_ask_20
    · refine vx_catch (own := RL) (name := xIS) C.1.2.2.2.1 [(⟨0, 10, 13, 13⟩ : ExceptionTableEntry), (⟨0, 10, 17, 15⟩ : ExceptionTableEntry)] (⟨0, 10, 21, 21⟩ : ExceptionTableEntry) [] (by rw [htb]; rfl) (fun z hz => by
        simp only [List.mem_cons, List.not_mem_nil, or_false] at hz
        rcases hz with rfl | rfl
        · exact Or.inr ⟨by decide, xIO, C.1.2.2.2.2 _ (mw_3 _ (List.mem_of_getElem? (i := 18) rfl)), hN.2.1⟩
        · exact Or.inr ⟨by decide, xIA, C.1.2.2.2.2 _ (mw_3 _ (List.mem_of_getElem? (i := 19) rfl)), hN.2.2⟩) (by decide) (by decide) (C.1.2.2.2.2 _ (mw_5 _ (List.mem_of_getElem? (i := 8) rfl))) ((Z.2.2.1 _ (by decide +kernel)).use rfl) hcell hcv hcl ?_
      refine W.eq (g2 := F0 m 21 ls [.ref q9]) rfl ?_
      refine lv_astore (lv' := (4, .ref q9) :: [(0, mV ad (some 0)), (1, .int y1), (2, .int y2), (3, .ref o)].filter (fun q => !(q.1 == 4))) hx hb dL_ask_21 hl.1 (by decide) (by rw [ml_filter hl.2] <;> rfl) (fun ls hl2 => ?_)
      refine lv_iconst (v := 3) hx hb dL_ask_23 (by decide) ?_
      exact ml_ret C hr hlk hX rfl hP1 hO1 hS1 dL_ask_24
  · refine lv_i2l (v := r.toInt64) hx hb dL_ask_8 rfl ?_
    refine ml_put C hA hne hP1 hO1 hS1 dL_ask_9 (fun H1 locs1 v1 hv1 hP1 hO1 hS1 => ?_)
    refine lv_goto (tgt := 25) hx hb dL_ask_10 (by decide) ?_
    refine lv_iconst (v := 0) hx hb dL_ask_25 (by decide) ?_
    exact ml_ret C hr hlk hq hv1 hP1 hO1 hS1 dL_ask_26
set_option maxRecDepth 100000 in
set_option maxHeartbeats 4000000 in
theorem c_L_setRoom (l : Launch) (hfl : l.stackTraces = false) (G : mG) (cL : ClassId) (ad : Nat → Nat) (o : Nat) (y1 : Int32) (y2 : Int32) (y3 : Int32) (y4 : Int32) (σ0 : mS) (v0 : Nat → Int64) (b : Nat) (Q : Int32 → Int64 → mS → Prop) (h : w_X2_setRoom y1 y2 y3 y4 σ0 b (fun r σ => Q 0 r.toInt64 σ) (fun E σ => (E = xIO ∧ Q 1 (v0 0) σ) ∨ (E = xIA ∧ Q 2 (v0 0) σ))) : Met l yL_setRoom (mWL yL_setRoom cL_setRoom 7 [(0, 14, 17, 13), (0, 14, 21, 15)]) (mRb 8 138 b) (va_Pc [mV ad (some 0), .int y1, .int y2, .int y3, .int y4, .ref o] (mPreL G cL ad o σ0 v0)) (va_Qi (fun r (q : mS × Int64) => Q r q.2 q.1) (mPostL G cL ad o) (mAL ad o)) b (18 * b) (mAL ad o) := by
  refine ml_start (lst := [(0, mV ad (some 0)), (1, .int y1), (2, .int y2), (3, .int y3), (4, .int y4), (5, .ref o)]) (by decide) (m_cR (m_cI (m_cI (m_cI (m_cI (m_cA m_c0)))))) rfl (Nat.le_of_ble_eq_true rfl) (fun p e s m below meth c C hM Z hA hO hne hN hr hlk htb ls hl => ?_)
  have hx := C.1.1
  have hb := C.1.2.1
  refine lv_aload hx hb dL_setRoom_0 (ml_at hl 5 rfl) ?_
  refine lv_iconst (v := 0) hx hb dL_setRoom_2 (by decide) ?_
  refine mr_aload_n C dL_setRoom_3 rfl (ml_at hl 0 rfl) ?_
  refine lv_iload_n hx hb dL_setRoom_4 rfl (ml_at hl 1 rfl) ?_
  refine lv_iload_n hx hb dL_setRoom_5 rfl (ml_at hl 2 rfl) ?_
  refine lv_iload_n hx hb dL_setRoom_6 rfl (ml_at hl 3 rfl) ?_
  refine lv_iload hx hb dL_setRoom_7 (ml_at hl 4 rfl) ?_
  refine ml_call hO hne (mr_xrunV (As := [.int y1, .int y2, .int y3, .int y4]) C hM Z hl.1.1 (c_X2_setRoom l hfl G ad y1 y2 y3 y4 σ0 b _ _ h) cw_L_23 (mO_fix hM rfl (by decide) (by decide) (by decide)) rfl rfl (n := 4) ⟨rfl, by decide, by decide, by decide +kernel⟩ rfl rfl ⟨Nat.le_of_ble_eq_true rfl, Nat.le_of_ble_eq_true rfl⟩ (m_cI (m_cA m_c0)) (Nat.le_of_ble_eq_true rfl) dL_setRoom_9 (by rw [Nat.zero_add]; exact Nat.le_refl b)) (fun E ce q9 v H1 locs1 hX hP1 hO1 hS1 hcell hcv hcl => ?_) (fun r v H1 locs1 hq hP1 hO1 hS1 => ?_)
  · rcases hX with ⟨rfl, hX⟩ | ⟨rfl, hX⟩
    · refine vx_catch (own := RL) (name := xIO) C.1.2.2.2.1 [] (⟨0, 14, 17, 13⟩ : ExceptionTableEntry) [(⟨0, 14, 21, 15⟩ : ExceptionTableEntry)] (by rw [htb]; rfl) (fun z hz => absurd hz List.not_mem_nil) (by decide) (by decide) (C.1.2.2.2.2 _ (mw_3 _ (List.mem_of_getElem? (i := 18) rfl))) ((Z.2.2.1 _ (by decide +kernel)).use rfl) hcell hcv hcl ?_
      refine W.eq (g2 := F0 m 17 ls [.ref q9]) rfl ?_
      refine lv_astore (lv' := (6, .ref q9) :: [(0, mV ad (some 0)), (1, .int y1), (2, .int y2), (3, .int y3), (4, .int y4), (5, .ref o)].filter (fun q => !(q.1 == 6))) hx hb dL_setRoom_17 hl.1 (by decide) (by rw [ml_filter hl.2] <;> rfl) (fun ls hl2 => ?_)
      refine lv_iconst (v := 1) hx hb dL_setRoom_19 (by decide) ?_
      exact ml_ret C hr hlk hX rfl hP1 hO1 hS1 dL_setRoom_20
    · refine vx_catch (own := RL) (name := xIA) C.1.2.2.2.1 [(⟨0, 14, 17, 13⟩ : ExceptionTableEntry)] (⟨0, 14, 21, 15⟩ : ExceptionTableEntry) [] (by rw [htb]; rfl) (fun z hz => by
        simp only [List.mem_cons, List.not_mem_nil, or_false] at hz
        subst hz
        exact Or.inr ⟨by decide, xIO, C.1.2.2.2.2 _ (mw_3 _ (List.mem_of_getElem? (i := 18) rfl)), hN.1⟩) (by decide) (by decide) (C.1.2.2.2.2 _ (mw_3 _ (List.mem_of_getElem? (i := 19) rfl))) ((Z.2.2.1 _ (by decide +kernel)).use rfl) hcell hcv hcl ?_
      refine W.eq (g2 := F0 m 21 ls [.ref q9]) rfl ?_
      refine lv_astore (lv' := (6, .ref q9) :: [(0, mV ad (some 0)), (1, .int y1), (2, .int y2), (3, .int y3), (4, .int y4), (5, .ref o)].filter (fun q => !(q.1 == 6))) hx hb dL_setRoom_21 hl.1 (by decide) (by rw [ml_filter hl.2] <;> rfl) (fun ls hl2 => ?_)
      refine lv_iconst (v := 2) hx hb dL_setRoom_23 (by decide) ?_
      exact ml_ret C hr hlk hX rfl hP1 hO1 hS1 dL_setRoom_24
  · refine lv_i2l (v := r.toInt64) hx hb dL_setRoom_12 rfl ?_
    refine ml_put C hA hne hP1 hO1 hS1 dL_setRoom_13 (fun H1 locs1 v1 hv1 hP1 hO1 hS1 => ?_)
    refine lv_goto (tgt := 25) hx hb dL_setRoom_14 (by decide) ?_
    refine lv_iconst (v := 0) hx hb dL_setRoom_25 (by decide) ?_
    exact ml_ret C hr hlk hq hv1 hP1 hO1 hS1 dL_setRoom_26
set_option maxRecDepth 100000 in
set_option maxHeartbeats 4000000 in
theorem c_L_call (l : Launch) (hfl : l.stackTraces = false) (G : mG) (cL : ClassId) (ad : Nat → Nat) (o : Nat) (y1 : Int32) (y2 : Int32) (σ0 : mS) (v0 : Nat → Int64) (b : Nat) (Q : Int32 → Int64 → mS → Prop) (h : w_X2_call y1 y2 σ0 b (fun r σ => Q 0 r.toInt64 σ) (fun E σ => (E = xIO ∧ Q 1 (v0 0) σ) ∨ (E = xIA ∧ Q 2 (v0 0) σ) ∨ (E = xIS ∧ Q 3 (v0 0) σ))) : Met l yL_call (mWL yL_call cL_call 5 [(0, 10, 13, 13), (0, 10, 17, 15), (0, 10, 21, 21)]) (mRb 8 136 b) (va_Pc [mV ad (some 0), .int y1, .int y2, .ref o] (mPreL G cL ad o σ0 v0)) (va_Qi (fun r (q : mS × Int64) => Q r q.2 q.1) (mPostL G cL ad o) (mAL ad o)) b (18 * b) (mAL ad o) := by
  refine ml_start (lst := [(0, mV ad (some 0)), (1, .int y1), (2, .int y2), (3, .ref o)]) (by decide) (m_cR (m_cI (m_cI (m_cA m_c0)))) rfl (Nat.le_of_ble_eq_true rfl) (fun p e s m below meth c C hM Z hA hO hne hN hr hlk htb ls hl => ?_)
  have hx := C.1.1
  have hb := C.1.2.1
  refine lv_aload_n hx hb dL_call_0 rfl (ml_at hl 3 rfl) ?_
  refine lv_iconst (v := 0) hx hb dL_call_1 (by decide) ?_
  refine mr_aload_n C dL_call_2 rfl (ml_at hl 0 rfl) ?_
  refine lv_iload_n hx hb dL_call_3 rfl (ml_at hl 1 rfl) ?_
  refine lv_iload_n hx hb dL_call_4 rfl (ml_at hl 2 rfl) ?_
  refine ml_call hO hne (mr_xrunV (As := [.int y1, .int y2]) C hM Z hl.1.1 (c_X2_call l hfl G ad y1 y2 σ0 b _ _ h) cw_L_27 (mO_fix hM rfl (by decide) (by decide) (by decide)) rfl rfl (n := 2) ⟨rfl, by decide, by decide, by decide +kernel⟩ rfl rfl ⟨Nat.le_of_ble_eq_true rfl, Nat.le_of_ble_eq_true rfl⟩ (m_cI (m_cA m_c0)) (Nat.le_of_ble_eq_true rfl) dL_call_5 (by rw [Nat.zero_add]; exact Nat.le_refl b)) (fun E ce q9 v H1 locs1 hX hP1 hO1 hS1 hcell hcv hcl => ?_) (fun r v H1 locs1 hq hP1 hO1 hS1 => ?_)
  · rcases hX with ⟨rfl, hX⟩ | ⟨rfl, hX⟩ | ⟨rfl, hX⟩
    · refine vx_catch (own := RL) (name := xIO) C.1.2.2.2.1 [] (⟨0, 10, 13, 13⟩ : ExceptionTableEntry) [(⟨0, 10, 17, 15⟩ : ExceptionTableEntry), (⟨0, 10, 21, 21⟩ : ExceptionTableEntry)] (by rw [htb]; rfl) (fun z hz => absurd hz List.not_mem_nil) (by decide) (by decide) (C.1.2.2.2.2 _ (mw_3 _ (List.mem_of_getElem? (i := 18) rfl))) ((Z.2.2.1 _ (by decide +kernel)).use rfl) hcell hcv hcl ?_
      refine W.eq (g2 := F0 m 13 ls [.ref q9]) rfl ?_
      refine lv_astore (lv' := (4, .ref q9) :: [(0, mV ad (some 0)), (1, .int y1), (2, .int y2), (3, .ref o)].filter (fun q => !(q.1 == 4))) hx hb dL_call_13 hl.1 (by decide) (by rw [ml_filter hl.2] <;> rfl) (fun ls hl2 => ?_)
      refine lv_iconst (v := 1) hx hb dL_call_15 (by decide) ?_
      exact ml_ret C hr hlk hX rfl hP1 hO1 hS1 dL_call_16
    · refine vx_catch (own := RL) (name := xIA) C.1.2.2.2.1 [(⟨0, 10, 13, 13⟩ : ExceptionTableEntry)] (⟨0, 10, 17, 15⟩ : ExceptionTableEntry) [(⟨0, 10, 21, 21⟩ : ExceptionTableEntry)] (by rw [htb]; rfl) (fun z hz => by
        simp only [List.mem_cons, List.not_mem_nil, or_false] at hz
        subst hz
        exact Or.inr ⟨by decide, xIO, C.1.2.2.2.2 _ (mw_3 _ (List.mem_of_getElem? (i := 18) rfl)), hN.1⟩) (by decide) (by decide) (C.1.2.2.2.2 _ (mw_3 _ (List.mem_of_getElem? (i := 19) rfl))) ((Z.2.2.1 _ (by decide +kernel)).use rfl) hcell hcv hcl ?_
      refine W.eq (g2 := F0 m 17 ls [.ref q9]) rfl ?_
      refine lv_astore (lv' := (4, .ref q9) :: [(0, mV ad (some 0)), (1, .int y1), (2, .int y2), (3, .ref o)].filter (fun q => !(q.1 == 4))) hx hb dL_call_17 hl.1 (by decide) (by rw [ml_filter hl.2] <;> rfl) (fun ls hl2 => ?_)
      refine lv_iconst (v := 2) hx hb dL_call_19 (by decide) ?_
      exact ml_ret C hr hlk hX rfl hP1 hO1 hS1 dL_call_20
    · refine vx_catch (own := RL) (name := xIS) C.1.2.2.2.1 [(⟨0, 10, 13, 13⟩ : ExceptionTableEntry), (⟨0, 10, 17, 15⟩ : ExceptionTableEntry)] (⟨0, 10, 21, 21⟩ : ExceptionTableEntry) [] (by rw [htb]; rfl) (fun z hz => by
        simp only [List.mem_cons, List.not_mem_nil, or_false] at hz
        rcases hz with rfl | rfl
        · exact Or.inr ⟨by decide, xIO, C.1.2.2.2.2 _ (mw_3 _ (List.mem_of_getElem? (i := 18) rfl)), hN.2.1⟩
        · exact Or.inr ⟨by decide, xIA, C.1.2.2.2.2 _ (mw_3 _ (List.mem_of_getElem? (i := 19) rfl)), hN.2.2⟩) (by decide) (by decide) (C.1.2.2.2.2 _ (mw_5 _ (List.mem_of_getElem? (i := 8) rfl))) ((Z.2.2.1 _ (by decide +kernel)).use rfl) hcell hcv hcl ?_
      refine W.eq (g2 := F0 m 21 ls [.ref q9]) rfl ?_
      refine lv_astore (lv' := (4, .ref q9) :: [(0, mV ad (some 0)), (1, .int y1), (2, .int y2), (3, .ref o)].filter (fun q => !(q.1 == 4))) hx hb dL_call_21 hl.1 (by decide) (by rw [ml_filter hl.2] <;> rfl) (fun ls hl2 => ?_)
      refine lv_iconst (v := 3) hx hb dL_call_23 (by decide) ?_
      exact ml_ret C hr hlk hX rfl hP1 hO1 hS1 dL_call_24
  · refine lv_i2l (v := r.toInt64) hx hb dL_call_8 rfl ?_
    refine ml_put C hA hne hP1 hO1 hS1 dL_call_9 (fun H1 locs1 v1 hv1 hP1 hO1 hS1 => ?_)
    refine lv_goto (tgt := 25) hx hb dL_call_10 (by decide) ?_
    refine lv_iconst (v := 0) hx hb dL_call_25 (by decide) ?_
    exact ml_ret C hr hlk hq hv1 hP1 hO1 hS1 dL_call_26
set_option maxRecDepth 100000 in
set_option maxHeartbeats 4000000 in
theorem c_L_cancel (l : Launch) (hfl : l.stackTraces = false) (G : mG) (cL : ClassId) (ad : Nat → Nat) (o : Nat) (y1 : Int32) (σ0 : mS) (v0 : Nat → Int64) (b : Nat) (Q : Int32 → Int64 → mS → Prop) (h : w_X2_cancel y1 σ0 b (fun r σ => Q 0 r.toInt64 σ) (fun E σ => (E = xIO ∧ Q 1 (v0 0) σ) ∨ (E = xIS ∧ Q 2 (v0 0) σ))) : Met l yL_cancel (mWL yL_cancel cL_cancel 4 [(0, 9, 12, 13), (0, 9, 15, 21)]) (mRb 8 134 b) (va_Pc [mV ad (some 0), .int y1, .ref o] (mPreL G cL ad o σ0 v0)) (va_Qi (fun r (q : mS × Int64) => Q r q.2 q.1) (mPostL G cL ad o) (mAL ad o)) b (18 * b) (mAL ad o) := by
  refine ml_start (lst := [(0, mV ad (some 0)), (1, .int y1), (2, .ref o)]) (by decide) (m_cR (m_cI (m_cA m_c0))) rfl (Nat.le_of_ble_eq_true rfl) (fun p e s m below meth c C hM Z hA hO hne hN hr hlk htb ls hl => ?_)
  have hx := C.1.1
  have hb := C.1.2.1
  refine lv_aload_n hx hb dL_cancel_0 rfl (ml_at hl 2 rfl) ?_
  refine lv_iconst (v := 0) hx hb dL_cancel_1 (by decide) ?_
  refine mr_aload_n C dL_cancel_2 rfl (ml_at hl 0 rfl) ?_
  refine lv_iload_n hx hb dL_cancel_3 rfl (ml_at hl 1 rfl) ?_
  refine ml_call hO hne (mr_xrunV (As := [.int y1]) C hM Z hl.1.1 (c_X2_cancel l hfl G ad y1 σ0 b _ _ h) cw_L_30 (mO_fix hM rfl (by decide) (by decide) (by decide)) rfl rfl (n := 1) ⟨rfl, by decide, by decide, by decide +kernel⟩ rfl rfl ⟨Nat.le_of_ble_eq_true rfl, Nat.le_of_ble_eq_true rfl⟩ (m_cI (m_cA m_c0)) (Nat.le_of_ble_eq_true rfl) dL_cancel_4 (by rw [Nat.zero_add]; exact Nat.le_refl b)) (fun E ce q9 v H1 locs1 hX hP1 hO1 hS1 hcell hcv hcl => ?_) (fun r v H1 locs1 hq hP1 hO1 hS1 => ?_)
  · rcases hX with ⟨rfl, hX⟩ | ⟨rfl, hX⟩
    · refine vx_catch (own := RL) (name := xIO) C.1.2.2.2.1 [] (⟨0, 9, 12, 13⟩ : ExceptionTableEntry) [(⟨0, 9, 15, 21⟩ : ExceptionTableEntry)] (by rw [htb]; rfl) (fun z hz => absurd hz List.not_mem_nil) (by decide) (by decide) (C.1.2.2.2.2 _ (mw_3 _ (List.mem_of_getElem? (i := 18) rfl))) ((Z.2.2.1 _ (by decide +kernel)).use rfl) hcell hcv hcl ?_
      refine W.eq (g2 := F0 m 12 ls [.ref q9]) rfl ?_
      refine lv_astore_n (lv' := (3, .ref q9) :: [(0, mV ad (some 0)), (1, .int y1), (2, .ref o)].filter (fun q => !(q.1 == 3))) hx hb dL_cancel_12 rfl hl.1 (by decide) (by rw [ml_filter hl.2] <;> rfl) (fun ls hl2 => ?_)
      refine lv_iconst (v := 1) hx hb dL_cancel_13 (by decide) ?_
      exact ml_ret C hr hlk hX rfl hP1 hO1 hS1 dL_cancel_14
    · refine vx_catch (own := RL) (name := xIS) C.1.2.2.2.1 [(⟨0, 9, 12, 13⟩ : ExceptionTableEntry)] (⟨0, 9, 15, 21⟩ : ExceptionTableEntry) [] (by rw [htb]; rfl) (fun z hz => by
        simp only [List.mem_cons, List.not_mem_nil, or_false] at hz
        subst hz
        exact Or.inr ⟨by decide, xIO, C.1.2.2.2.2 _ (mw_3 _ (List.mem_of_getElem? (i := 18) rfl)), hN.2.1⟩) (by decide) (by decide) (C.1.2.2.2.2 _ (mw_5 _ (List.mem_of_getElem? (i := 8) rfl))) ((Z.2.2.1 _ (by decide +kernel)).use rfl) hcell hcv hcl ?_
      refine W.eq (g2 := F0 m 15 ls [.ref q9]) rfl ?_
      refine lv_astore_n (lv' := (3, .ref q9) :: [(0, mV ad (some 0)), (1, .int y1), (2, .ref o)].filter (fun q => !(q.1 == 3))) hx hb dL_cancel_15 rfl hl.1 (by decide) (by rw [ml_filter hl.2] <;> rfl) (fun ls hl2 => ?_)
      refine lv_iconst (v := 2) hx hb dL_cancel_16 (by decide) ?_
      exact ml_ret C hr hlk hX rfl hP1 hO1 hS1 dL_cancel_17
  · refine lv_i2l (v := r.toInt64) hx hb dL_cancel_7 rfl ?_
    refine ml_put C hA hne hP1 hO1 hS1 dL_cancel_8 (fun H1 locs1 v1 hv1 hP1 hO1 hS1 => ?_)
    refine lv_goto (tgt := 18) hx hb dL_cancel_9 (by decide) ?_
    refine lv_iconst (v := 0) hx hb dL_cancel_18 (by decide) ?_
    exact ml_ret C hr hlk hq hv1 hP1 hO1 hS1 dL_cancel_19
set_option maxRecDepth 100000 in
set_option maxHeartbeats 4000000 in
theorem c_L_pass (l : Launch) (hfl : l.stackTraces = false) (G : mG) (cL : ClassId) (ad : Nat → Nat) (o : Nat) (y1 : Int32) (σ0 : mS) (v0 : Nat → Int64) (b : Nat) (Q : Int32 → Int64 → mS → Prop) (h : w_X2_pass y1 σ0 b (fun r σ => Q 0 r.toInt64 σ) (fun E σ => (E = xIA ∧ Q 1 (v0 0) σ))) : Met l yL_pass (mWL yL_pass cL_pass 4 [(0, 9, 12, 15)]) (mRb 8 158 b) (va_Pc [mV ad (some 0), .int y1, .ref o] (mPreL G cL ad o σ0 v0)) (va_Qi (fun r (q : mS × Int64) => Q r q.2 q.1) (mPostL G cL ad o) (mAL ad o)) b (18 * b) (mAL ad o) := by
  refine ml_start (lst := [(0, mV ad (some 0)), (1, .int y1), (2, .ref o)]) (by decide) (m_cR (m_cI (m_cA m_c0))) rfl (Nat.le_of_ble_eq_true rfl) (fun p e s m below meth c C hM Z hA hO hne hN hr hlk htb ls hl => ?_)
  have hx := C.1.1
  have hb := C.1.2.1
  refine lv_aload_n hx hb dL_pass_0 rfl (ml_at hl 2 rfl) ?_
  refine lv_iconst (v := 0) hx hb dL_pass_1 (by decide) ?_
  refine mr_aload_n C dL_pass_2 rfl (ml_at hl 0 rfl) ?_
  refine lv_iload_n hx hb dL_pass_3 rfl (ml_at hl 1 rfl) ?_
  refine ml_call hO hne (mr_xrunV (As := [.int y1]) C hM Z hl.1.1 (c_X2_pass l hfl G ad y1 σ0 b _ _ h) cw_L_34 (mO_fix hM rfl (by decide) (by decide) (by decide)) rfl rfl (n := 1) ⟨rfl, by decide, by decide, by decide +kernel⟩ rfl rfl ⟨Nat.le_of_ble_eq_true rfl, Nat.le_of_ble_eq_true rfl⟩ (m_cI (m_cA m_c0)) (Nat.le_of_ble_eq_true rfl) dL_pass_4 (by rw [Nat.zero_add]; exact Nat.le_refl b)) (fun E ce q9 v H1 locs1 hX hP1 hO1 hS1 hcell hcv hcl => ?_) (fun r v H1 locs1 hq hP1 hO1 hS1 => ?_)
  · obtain ⟨rfl, hX⟩ := hX
    refine vx_catch (own := RL) (name := xIA) C.1.2.2.2.1 [] (⟨0, 9, 12, 15⟩ : ExceptionTableEntry) [] (by rw [htb]; rfl) (fun z hz => absurd hz List.not_mem_nil) (by decide) (by decide) (C.1.2.2.2.2 _ (mw_3 _ (List.mem_of_getElem? (i := 19) rfl))) ((Z.2.2.1 _ (by decide +kernel)).use rfl) hcell hcv hcl ?_
    refine W.eq (g2 := F0 m 12 ls [.ref q9]) rfl ?_
    refine lv_astore_n (lv' := (3, .ref q9) :: [(0, mV ad (some 0)), (1, .int y1), (2, .ref o)].filter (fun q => !(q.1 == 3))) hx hb dL_pass_12 rfl hl.1 (by decide) (by rw [ml_filter hl.2] <;> rfl) (fun ls hl2 => ?_)
    refine lv_iconst (v := 1) hx hb dL_pass_13 (by decide) ?_
    exact ml_ret C hr hlk hX rfl hP1 hO1 hS1 dL_pass_14
  · refine lv_i2l (v := r.toInt64) hx hb dL_pass_7 rfl ?_
    refine ml_put C hA hne hP1 hO1 hS1 dL_pass_8 (fun H1 locs1 v1 hv1 hP1 hO1 hS1 => ?_)
    refine lv_goto (tgt := 15) hx hb dL_pass_9 (by decide) ?_
    refine lv_iconst (v := 0) hx hb dL_pass_15 (by decide) ?_
    exact ml_ret C hr hlk hq hv1 hP1 hO1 hS1 dL_pass_16
set_option maxRecDepth 100000 in
set_option maxHeartbeats 4000000 in
theorem c_L_state (l : Launch) (hfl : l.stackTraces = false) (G : mG) (cL : ClassId) (ad : Nat → Nat) (o : Nat) (y1 : Int32) (σ0 : mS) (v0 : Nat → Int64) (b : Nat) (Q : Int32 → Int64 → mS → Prop) (h : w_X2_state y1 σ0 b (fun r σ => Q 0 r.toInt64 σ) (fun E σ => (E = xIO ∧ Q 1 (v0 0) σ))) : Met l yL_state (mWL yL_state cL_state 4 [(0, 9, 12, 13)]) (mRb 8 133 b) (va_Pc [mV ad (some 0), .int y1, .ref o] (mPreL G cL ad o σ0 v0)) (va_Qi (fun r (q : mS × Int64) => Q r q.2 q.1) (mPostL G cL ad o) (mAL ad o)) b (18 * b) (mAL ad o) := by
  refine ml_start (lst := [(0, mV ad (some 0)), (1, .int y1), (2, .ref o)]) (by decide) (m_cR (m_cI (m_cA m_c0))) rfl (Nat.le_of_ble_eq_true rfl) (fun p e s m below meth c C hM Z hA hO hne hN hr hlk htb ls hl => ?_)
  have hx := C.1.1
  have hb := C.1.2.1
  refine lv_aload_n hx hb dL_state_0 rfl (ml_at hl 2 rfl) ?_
  refine lv_iconst (v := 0) hx hb dL_state_1 (by decide) ?_
  refine mr_aload_n C dL_state_2 rfl (ml_at hl 0 rfl) ?_
  refine lv_iload_n hx hb dL_state_3 rfl (ml_at hl 1 rfl) ?_
  refine ml_call hO hne (mr_xrunV (As := [.int y1]) C hM Z hl.1.1 (c_X2_state l hfl G ad y1 σ0 b _ _ h) cw_L_37 (mO_fix hM rfl (by decide) (by decide) (by decide)) rfl rfl (n := 1) ⟨rfl, by decide, by decide, by decide +kernel⟩ rfl rfl ⟨Nat.le_of_ble_eq_true rfl, Nat.le_of_ble_eq_true rfl⟩ (m_cI (m_cA m_c0)) (Nat.le_of_ble_eq_true rfl) dL_state_4 (by rw [Nat.zero_add]; exact Nat.le_refl b)) (fun E ce q9 v H1 locs1 hX hP1 hO1 hS1 hcell hcv hcl => ?_) (fun r v H1 locs1 hq hP1 hO1 hS1 => ?_)
  · obtain ⟨rfl, hX⟩ := hX
    refine vx_catch (own := RL) (name := xIO) C.1.2.2.2.1 [] (⟨0, 9, 12, 13⟩ : ExceptionTableEntry) [] (by rw [htb]; rfl) (fun z hz => absurd hz List.not_mem_nil) (by decide) (by decide) (C.1.2.2.2.2 _ (mw_3 _ (List.mem_of_getElem? (i := 18) rfl))) ((Z.2.2.1 _ (by decide +kernel)).use rfl) hcell hcv hcl ?_
    refine W.eq (g2 := F0 m 12 ls [.ref q9]) rfl ?_
    refine lv_astore_n (lv' := (3, .ref q9) :: [(0, mV ad (some 0)), (1, .int y1), (2, .ref o)].filter (fun q => !(q.1 == 3))) hx hb dL_state_12 rfl hl.1 (by decide) (by rw [ml_filter hl.2] <;> rfl) (fun ls hl2 => ?_)
    refine lv_iconst (v := 1) hx hb dL_state_13 (by decide) ?_
    exact ml_ret C hr hlk hX rfl hP1 hO1 hS1 dL_state_14
  · refine lv_i2l (v := r.toInt64) hx hb dL_state_7 rfl ?_
    refine ml_put C hA hne hP1 hO1 hS1 dL_state_8 (fun H1 locs1 v1 hv1 hP1 hO1 hS1 => ?_)
    refine lv_goto (tgt := 15) hx hb dL_state_9 (by decide) ?_
    refine lv_iconst (v := 0) hx hb dL_state_15 (by decide) ?_
    exact ml_ret C hr hlk hq hv1 hP1 hO1 hS1 dL_state_16
set_option maxRecDepth 100000 in
set_option maxHeartbeats 4000000 in
theorem c_L_origin (l : Launch) (hfl : l.stackTraces = false) (G : mG) (cL : ClassId) (ad : Nat → Nat) (o : Nat) (y1 : Int32) (σ0 : mS) (v0 : Nat → Int64) (b : Nat) (Q : Int32 → Int64 → mS → Prop) (h : w_X2_origin y1 σ0 b (fun r σ => Q 0 r.toInt64 σ) (fun E σ => (E = xIO ∧ Q 1 (v0 0) σ))) : Met l yL_origin (mWL yL_origin cL_origin 4 [(0, 9, 12, 13)]) (mRb 8 135 b) (va_Pc [mV ad (some 0), .int y1, .ref o] (mPreL G cL ad o σ0 v0)) (va_Qi (fun r (q : mS × Int64) => Q r q.2 q.1) (mPostL G cL ad o) (mAL ad o)) b (18 * b) (mAL ad o) := by
  refine ml_start (lst := [(0, mV ad (some 0)), (1, .int y1), (2, .ref o)]) (by decide) (m_cR (m_cI (m_cA m_c0))) rfl (Nat.le_of_ble_eq_true rfl) (fun p e s m below meth c C hM Z hA hO hne hN hr hlk htb ls hl => ?_)
  have hx := C.1.1
  have hb := C.1.2.1
  refine lv_aload_n hx hb dL_origin_0 rfl (ml_at hl 2 rfl) ?_
  refine lv_iconst (v := 0) hx hb dL_origin_1 (by decide) ?_
  refine mr_aload_n C dL_origin_2 rfl (ml_at hl 0 rfl) ?_
  refine lv_iload_n hx hb dL_origin_3 rfl (ml_at hl 1 rfl) ?_
  refine ml_call hO hne (mr_xrunV (As := [.int y1]) C hM Z hl.1.1 (c_X2_origin l hfl G ad y1 σ0 b _ _ h) cw_L_40 (mO_fix hM rfl (by decide) (by decide) (by decide)) rfl rfl (n := 1) ⟨rfl, by decide, by decide, by decide +kernel⟩ rfl rfl ⟨Nat.le_of_ble_eq_true rfl, Nat.le_of_ble_eq_true rfl⟩ (m_cI (m_cA m_c0)) (Nat.le_of_ble_eq_true rfl) dL_origin_4 (by rw [Nat.zero_add]; exact Nat.le_refl b)) (fun E ce q9 v H1 locs1 hX hP1 hO1 hS1 hcell hcv hcl => ?_) (fun r v H1 locs1 hq hP1 hO1 hS1 => ?_)
  · obtain ⟨rfl, hX⟩ := hX
    refine vx_catch (own := RL) (name := xIO) C.1.2.2.2.1 [] (⟨0, 9, 12, 13⟩ : ExceptionTableEntry) [] (by rw [htb]; rfl) (fun z hz => absurd hz List.not_mem_nil) (by decide) (by decide) (C.1.2.2.2.2 _ (mw_3 _ (List.mem_of_getElem? (i := 18) rfl))) ((Z.2.2.1 _ (by decide +kernel)).use rfl) hcell hcv hcl ?_
    refine W.eq (g2 := F0 m 12 ls [.ref q9]) rfl ?_
    refine lv_astore_n (lv' := (3, .ref q9) :: [(0, mV ad (some 0)), (1, .int y1), (2, .ref o)].filter (fun q => !(q.1 == 3))) hx hb dL_origin_12 rfl hl.1 (by decide) (by rw [ml_filter hl.2] <;> rfl) (fun ls hl2 => ?_)
    refine lv_iconst (v := 1) hx hb dL_origin_13 (by decide) ?_
    exact ml_ret C hr hlk hX rfl hP1 hO1 hS1 dL_origin_14
  · refine lv_i2l (v := r.toInt64) hx hb dL_origin_7 rfl ?_
    refine ml_put C hA hne hP1 hO1 hS1 dL_origin_8 (fun H1 locs1 v1 hv1 hP1 hO1 hS1 => ?_)
    refine lv_goto (tgt := 15) hx hb dL_origin_9 (by decide) ?_
    refine lv_iconst (v := 0) hx hb dL_origin_15 (by decide) ?_
    exact ml_ret C hr hlk hq hv1 hP1 hO1 hS1 dL_origin_16
set_option maxRecDepth 100000 in
set_option maxHeartbeats 4000000 in
theorem c_L_deadline (l : Launch) (hfl : l.stackTraces = false) (G : mG) (cL : ClassId) (ad : Nat → Nat) (o : Nat) (y1 : Int32) (σ0 : mS) (v0 : Nat → Int64) (b : Nat) (Q : Int32 → Int64 → mS → Prop) (h : w_X2_deadline y1 σ0 b (fun r σ => Q 0 r.toInt64 σ) (fun E σ => (E = xIO ∧ Q 1 (v0 0) σ))) : Met l yL_deadline (mWL yL_deadline cL_deadline 4 [(0, 9, 12, 13)]) (mRb 8 133 b) (va_Pc [mV ad (some 0), .int y1, .ref o] (mPreL G cL ad o σ0 v0)) (va_Qi (fun r (q : mS × Int64) => Q r q.2 q.1) (mPostL G cL ad o) (mAL ad o)) b (18 * b) (mAL ad o) := by
  refine ml_start (lst := [(0, mV ad (some 0)), (1, .int y1), (2, .ref o)]) (by decide) (m_cR (m_cI (m_cA m_c0))) rfl (Nat.le_of_ble_eq_true rfl) (fun p e s m below meth c C hM Z hA hO hne hN hr hlk htb ls hl => ?_)
  have hx := C.1.1
  have hb := C.1.2.1
  refine lv_aload_n hx hb dL_deadline_0 rfl (ml_at hl 2 rfl) ?_
  refine lv_iconst (v := 0) hx hb dL_deadline_1 (by decide) ?_
  refine mr_aload_n C dL_deadline_2 rfl (ml_at hl 0 rfl) ?_
  refine lv_iload_n hx hb dL_deadline_3 rfl (ml_at hl 1 rfl) ?_
  refine ml_call hO hne (mr_xrunV (As := [.int y1]) C hM Z hl.1.1 (c_X2_deadline l hfl G ad y1 σ0 b _ _ h) cw_L_43 (mO_fix hM rfl (by decide) (by decide) (by decide)) rfl rfl (n := 1) ⟨rfl, by decide, by decide, by decide +kernel⟩ rfl rfl ⟨Nat.le_of_ble_eq_true rfl, Nat.le_of_ble_eq_true rfl⟩ (m_cI (m_cA m_c0)) (Nat.le_of_ble_eq_true rfl) dL_deadline_4 (by rw [Nat.zero_add]; exact Nat.le_refl b)) (fun E ce q9 v H1 locs1 hX hP1 hO1 hS1 hcell hcv hcl => ?_) (fun r v H1 locs1 hq hP1 hO1 hS1 => ?_)
  · obtain ⟨rfl, hX⟩ := hX
    refine vx_catch (own := RL) (name := xIO) C.1.2.2.2.1 [] (⟨0, 9, 12, 13⟩ : ExceptionTableEntry) [] (by rw [htb]; rfl) (fun z hz => absurd hz List.not_mem_nil) (by decide) (by decide) (C.1.2.2.2.2 _ (mw_3 _ (List.mem_of_getElem? (i := 18) rfl))) ((Z.2.2.1 _ (by decide +kernel)).use rfl) hcell hcv hcl ?_
    refine W.eq (g2 := F0 m 12 ls [.ref q9]) rfl ?_
    refine lv_astore_n (lv' := (3, .ref q9) :: [(0, mV ad (some 0)), (1, .int y1), (2, .ref o)].filter (fun q => !(q.1 == 3))) hx hb dL_deadline_12 rfl hl.1 (by decide) (by rw [ml_filter hl.2] <;> rfl) (fun ls hl2 => ?_)
    refine lv_iconst (v := 1) hx hb dL_deadline_13 (by decide) ?_
    exact ml_ret C hr hlk hX rfl hP1 hO1 hS1 dL_deadline_14
  · refine lv_i2l (v := r.toInt64) hx hb dL_deadline_7 rfl ?_
    refine ml_put C hA hne hP1 hO1 hS1 dL_deadline_8 (fun H1 locs1 v1 hv1 hP1 hO1 hS1 => ?_)
    refine lv_goto (tgt := 15) hx hb dL_deadline_9 (by decide) ?_
    refine lv_iconst (v := 0) hx hb dL_deadline_15 (by decide) ?_
    exact ml_ret C hr hlk hq hv1 hP1 hO1 hS1 dL_deadline_16
set_option maxRecDepth 100000 in
set_option maxHeartbeats 4000000 in
theorem c_L_overAt (l : Launch) (hfl : l.stackTraces = false) (G : mG) (cL : ClassId) (ad : Nat → Nat) (o : Nat) (y1 : Int32) (σ0 : mS) (v0 : Nat → Int64) (b : Nat) (Q : Int32 → Int64 → mS → Prop) (h : w_X2_overAt y1 σ0 b (fun r σ => Q 0 r.toInt64 σ) (fun E σ => (E = xIO ∧ Q 1 (v0 0) σ))) : Met l yL_overAt (mWL yL_overAt cL_overAt 4 [(0, 9, 12, 13)]) (mRb 8 133 b) (va_Pc [mV ad (some 0), .int y1, .ref o] (mPreL G cL ad o σ0 v0)) (va_Qi (fun r (q : mS × Int64) => Q r q.2 q.1) (mPostL G cL ad o) (mAL ad o)) b (18 * b) (mAL ad o) := by
  refine ml_start (lst := [(0, mV ad (some 0)), (1, .int y1), (2, .ref o)]) (by decide) (m_cR (m_cI (m_cA m_c0))) rfl (Nat.le_of_ble_eq_true rfl) (fun p e s m below meth c C hM Z hA hO hne hN hr hlk htb ls hl => ?_)
  have hx := C.1.1
  have hb := C.1.2.1
  refine lv_aload_n hx hb dL_overAt_0 rfl (ml_at hl 2 rfl) ?_
  refine lv_iconst (v := 0) hx hb dL_overAt_1 (by decide) ?_
  refine mr_aload_n C dL_overAt_2 rfl (ml_at hl 0 rfl) ?_
  refine lv_iload_n hx hb dL_overAt_3 rfl (ml_at hl 1 rfl) ?_
  refine ml_call hO hne (mr_xrunV (As := [.int y1]) C hM Z hl.1.1 (c_X2_overAt l hfl G ad y1 σ0 b _ _ h) cw_L_46 (mO_fix hM rfl (by decide) (by decide) (by decide)) rfl rfl (n := 1) ⟨rfl, by decide, by decide, by decide +kernel⟩ rfl rfl ⟨Nat.le_of_ble_eq_true rfl, Nat.le_of_ble_eq_true rfl⟩ (m_cI (m_cA m_c0)) (Nat.le_of_ble_eq_true rfl) dL_overAt_4 (by rw [Nat.zero_add]; exact Nat.le_refl b)) (fun E ce q9 v H1 locs1 hX hP1 hO1 hS1 hcell hcv hcl => ?_) (fun r v H1 locs1 hq hP1 hO1 hS1 => ?_)
  · obtain ⟨rfl, hX⟩ := hX
    refine vx_catch (own := RL) (name := xIO) C.1.2.2.2.1 [] (⟨0, 9, 12, 13⟩ : ExceptionTableEntry) [] (by rw [htb]; rfl) (fun z hz => absurd hz List.not_mem_nil) (by decide) (by decide) (C.1.2.2.2.2 _ (mw_3 _ (List.mem_of_getElem? (i := 18) rfl))) ((Z.2.2.1 _ (by decide +kernel)).use rfl) hcell hcv hcl ?_
    refine W.eq (g2 := F0 m 12 ls [.ref q9]) rfl ?_
    refine lv_astore_n (lv' := (3, .ref q9) :: [(0, mV ad (some 0)), (1, .int y1), (2, .ref o)].filter (fun q => !(q.1 == 3))) hx hb dL_overAt_12 rfl hl.1 (by decide) (by rw [ml_filter hl.2] <;> rfl) (fun ls hl2 => ?_)
    refine lv_iconst (v := 1) hx hb dL_overAt_13 (by decide) ?_
    exact ml_ret C hr hlk hX rfl hP1 hO1 hS1 dL_overAt_14
  · refine lv_i2l (v := r.toInt64) hx hb dL_overAt_7 rfl ?_
    refine ml_put C hA hne hP1 hO1 hS1 dL_overAt_8 (fun H1 locs1 v1 hv1 hP1 hO1 hS1 => ?_)
    refine lv_goto (tgt := 15) hx hb dL_overAt_9 (by decide) ?_
    refine lv_iconst (v := 0) hx hb dL_overAt_15 (by decide) ?_
    exact ml_ret C hr hlk hq hv1 hP1 hO1 hS1 dL_overAt_16
set_option maxRecDepth 100000 in
set_option maxHeartbeats 4000000 in
theorem c_L_place (l : Launch) (hfl : l.stackTraces = false) (G : mG) (cL : ClassId) (ad : Nat → Nat) (o : Nat) (y1 : Int32) (σ0 : mS) (v0 : Nat → Int64) (b : Nat) (Q : Int32 → Int64 → mS → Prop) (h : w_X2_place y1 σ0 b (fun r σ => Q 0 r.toInt64 σ) (fun E σ => (E = xIO ∧ Q 1 (v0 0) σ))) : Met l yL_place (mWL yL_place cL_place 4 [(0, 9, 12, 13)]) (mRb 8 134 b) (va_Pc [mV ad (some 0), .int y1, .ref o] (mPreL G cL ad o σ0 v0)) (va_Qi (fun r (q : mS × Int64) => Q r q.2 q.1) (mPostL G cL ad o) (mAL ad o)) b (18 * b) (mAL ad o) := by
  refine ml_start (lst := [(0, mV ad (some 0)), (1, .int y1), (2, .ref o)]) (by decide) (m_cR (m_cI (m_cA m_c0))) rfl (Nat.le_of_ble_eq_true rfl) (fun p e s m below meth c C hM Z hA hO hne hN hr hlk htb ls hl => ?_)
  have hx := C.1.1
  have hb := C.1.2.1
  refine lv_aload_n hx hb dL_place_0 rfl (ml_at hl 2 rfl) ?_
  refine lv_iconst (v := 0) hx hb dL_place_1 (by decide) ?_
  refine mr_aload_n C dL_place_2 rfl (ml_at hl 0 rfl) ?_
  refine lv_iload_n hx hb dL_place_3 rfl (ml_at hl 1 rfl) ?_
  refine ml_call hO hne (mr_xrunV (As := [.int y1]) C hM Z hl.1.1 (c_X2_place l hfl G ad y1 σ0 b _ _ h) cw_L_49 (mO_fix hM rfl (by decide) (by decide) (by decide)) rfl rfl (n := 1) ⟨rfl, by decide, by decide, by decide +kernel⟩ rfl rfl ⟨Nat.le_of_ble_eq_true rfl, Nat.le_of_ble_eq_true rfl⟩ (m_cI (m_cA m_c0)) (Nat.le_of_ble_eq_true rfl) dL_place_4 (by rw [Nat.zero_add]; exact Nat.le_refl b)) (fun E ce q9 v H1 locs1 hX hP1 hO1 hS1 hcell hcv hcl => ?_) (fun r v H1 locs1 hq hP1 hO1 hS1 => ?_)
  · obtain ⟨rfl, hX⟩ := hX
    refine vx_catch (own := RL) (name := xIO) C.1.2.2.2.1 [] (⟨0, 9, 12, 13⟩ : ExceptionTableEntry) [] (by rw [htb]; rfl) (fun z hz => absurd hz List.not_mem_nil) (by decide) (by decide) (C.1.2.2.2.2 _ (mw_3 _ (List.mem_of_getElem? (i := 18) rfl))) ((Z.2.2.1 _ (by decide +kernel)).use rfl) hcell hcv hcl ?_
    refine W.eq (g2 := F0 m 12 ls [.ref q9]) rfl ?_
    refine lv_astore_n (lv' := (3, .ref q9) :: [(0, mV ad (some 0)), (1, .int y1), (2, .ref o)].filter (fun q => !(q.1 == 3))) hx hb dL_place_12 rfl hl.1 (by decide) (by rw [ml_filter hl.2] <;> rfl) (fun ls hl2 => ?_)
    refine lv_iconst (v := 1) hx hb dL_place_13 (by decide) ?_
    exact ml_ret C hr hlk hX rfl hP1 hO1 hS1 dL_place_14
  · refine lv_i2l (v := r.toInt64) hx hb dL_place_7 rfl ?_
    refine ml_put C hA hne hP1 hO1 hS1 dL_place_8 (fun H1 locs1 v1 hv1 hP1 hO1 hS1 => ?_)
    refine lv_goto (tgt := 15) hx hb dL_place_9 (by decide) ?_
    refine lv_iconst (v := 0) hx hb dL_place_15 (by decide) ?_
    exact ml_ret C hr hlk hq hv1 hP1 hO1 hS1 dL_place_16
set_option maxRecDepth 100000 in
set_option maxHeartbeats 4000000 in
theorem c_L_below (l : Launch) (hfl : l.stackTraces = false) (G : mG) (cL : ClassId) (ad : Nat → Nat) (o : Nat) (y1 : Int32) (σ0 : mS) (v0 : Nat → Int64) (b : Nat) (Q : Int32 → Int64 → mS → Prop) (h : w_X2_below y1 σ0 b (fun r σ => Q 0 r.toInt64 σ) (fun E σ => (E = xIO ∧ Q 1 (v0 0) σ))) : Met l yL_below (mWL yL_below cL_below 4 [(0, 9, 12, 13)]) (mRb 8 136 b) (va_Pc [mV ad (some 0), .int y1, .ref o] (mPreL G cL ad o σ0 v0)) (va_Qi (fun r (q : mS × Int64) => Q r q.2 q.1) (mPostL G cL ad o) (mAL ad o)) b (18 * b) (mAL ad o) := by
  refine ml_start (lst := [(0, mV ad (some 0)), (1, .int y1), (2, .ref o)]) (by decide) (m_cR (m_cI (m_cA m_c0))) rfl (Nat.le_of_ble_eq_true rfl) (fun p e s m below meth c C hM Z hA hO hne hN hr hlk htb ls hl => ?_)
  have hx := C.1.1
  have hb := C.1.2.1
  refine lv_aload_n hx hb dL_below_0 rfl (ml_at hl 2 rfl) ?_
  refine lv_iconst (v := 0) hx hb dL_below_1 (by decide) ?_
  refine mr_aload_n C dL_below_2 rfl (ml_at hl 0 rfl) ?_
  refine lv_iload_n hx hb dL_below_3 rfl (ml_at hl 1 rfl) ?_
  refine ml_call hO hne (mr_xrunV (As := [.int y1]) C hM Z hl.1.1 (c_X2_below l hfl G ad y1 σ0 b _ _ h) cw_L_52 (mO_fix hM rfl (by decide) (by decide) (by decide)) rfl rfl (n := 1) ⟨rfl, by decide, by decide, by decide +kernel⟩ rfl rfl ⟨Nat.le_of_ble_eq_true rfl, Nat.le_of_ble_eq_true rfl⟩ (m_cI (m_cA m_c0)) (Nat.le_of_ble_eq_true rfl) dL_below_4 (by rw [Nat.zero_add]; exact Nat.le_refl b)) (fun E ce q9 v H1 locs1 hX hP1 hO1 hS1 hcell hcv hcl => ?_) (fun r v H1 locs1 hq hP1 hO1 hS1 => ?_)
  · obtain ⟨rfl, hX⟩ := hX
    refine vx_catch (own := RL) (name := xIO) C.1.2.2.2.1 [] (⟨0, 9, 12, 13⟩ : ExceptionTableEntry) [] (by rw [htb]; rfl) (fun z hz => absurd hz List.not_mem_nil) (by decide) (by decide) (C.1.2.2.2.2 _ (mw_3 _ (List.mem_of_getElem? (i := 18) rfl))) ((Z.2.2.1 _ (by decide +kernel)).use rfl) hcell hcv hcl ?_
    refine W.eq (g2 := F0 m 12 ls [.ref q9]) rfl ?_
    refine lv_astore_n (lv' := (3, .ref q9) :: [(0, mV ad (some 0)), (1, .int y1), (2, .ref o)].filter (fun q => !(q.1 == 3))) hx hb dL_below_12 rfl hl.1 (by decide) (by rw [ml_filter hl.2] <;> rfl) (fun ls hl2 => ?_)
    refine lv_iconst (v := 1) hx hb dL_below_13 (by decide) ?_
    exact ml_ret C hr hlk hX rfl hP1 hO1 hS1 dL_below_14
  · refine lv_i2l (v := r.toInt64) hx hb dL_below_7 rfl ?_
    refine ml_put C hA hne hP1 hO1 hS1 dL_below_8 (fun H1 locs1 v1 hv1 hP1 hO1 hS1 => ?_)
    refine lv_goto (tgt := 15) hx hb dL_below_9 (by decide) ?_
    refine lv_iconst (v := 0) hx hb dL_below_15 (by decide) ?_
    exact ml_ret C hr hlk hq hv1 hP1 hO1 hS1 dL_below_16
set_option maxRecDepth 100000 in
set_option maxHeartbeats 4000000 in
theorem c_L_queuedAt (l : Launch) (hfl : l.stackTraces = false) (G : mG) (cL : ClassId) (ad : Nat → Nat) (o : Nat) (y1 : Int32) (y2 : Int32) (σ0 : mS) (v0 : Nat → Int64) (b : Nat) (Q : Int32 → Int64 → mS → Prop) (h : w_X2_queuedAt y1 y2 σ0 b (fun r σ => Q 0 r.toInt64 σ) (fun E σ => (E = xIO ∧ Q 1 (v0 0) σ))) : Met l yL_queuedAt (mWL yL_queuedAt cL_queuedAt 5 [(0, 10, 13, 13)]) (mRb 8 137 b) (va_Pc [mV ad (some 0), .int y1, .int y2, .ref o] (mPreL G cL ad o σ0 v0)) (va_Qi (fun r (q : mS × Int64) => Q r q.2 q.1) (mPostL G cL ad o) (mAL ad o)) b (18 * b) (mAL ad o) := by
  refine ml_start (lst := [(0, mV ad (some 0)), (1, .int y1), (2, .int y2), (3, .ref o)]) (by decide) (m_cR (m_cI (m_cI (m_cA m_c0)))) rfl (Nat.le_of_ble_eq_true rfl) (fun p e s m below meth c C hM Z hA hO hne hN hr hlk htb ls hl => ?_)
  have hx := C.1.1
  have hb := C.1.2.1
  refine lv_aload_n hx hb dL_queuedAt_0 rfl (ml_at hl 3 rfl) ?_
  refine lv_iconst (v := 0) hx hb dL_queuedAt_1 (by decide) ?_
  refine mr_aload_n C dL_queuedAt_2 rfl (ml_at hl 0 rfl) ?_
  refine lv_iload_n hx hb dL_queuedAt_3 rfl (ml_at hl 1 rfl) ?_
  refine lv_iload_n hx hb dL_queuedAt_4 rfl (ml_at hl 2 rfl) ?_
  refine ml_call hO hne (mr_xrunV (As := [.int y1, .int y2]) C hM Z hl.1.1 (c_X2_queuedAt l hfl G ad y1 y2 σ0 b _ _ h) cw_L_55 (mO_fix hM rfl (by decide) (by decide) (by decide)) rfl rfl (n := 2) ⟨rfl, by decide, by decide, by decide +kernel⟩ rfl rfl ⟨Nat.le_of_ble_eq_true rfl, Nat.le_of_ble_eq_true rfl⟩ (m_cI (m_cA m_c0)) (Nat.le_of_ble_eq_true rfl) dL_queuedAt_5 (by rw [Nat.zero_add]; exact Nat.le_refl b)) (fun E ce q9 v H1 locs1 hX hP1 hO1 hS1 hcell hcv hcl => ?_) (fun r v H1 locs1 hq hP1 hO1 hS1 => ?_)
  · obtain ⟨rfl, hX⟩ := hX
    refine vx_catch (own := RL) (name := xIO) C.1.2.2.2.1 [] (⟨0, 10, 13, 13⟩ : ExceptionTableEntry) [] (by rw [htb]; rfl) (fun z hz => absurd hz List.not_mem_nil) (by decide) (by decide) (C.1.2.2.2.2 _ (mw_3 _ (List.mem_of_getElem? (i := 18) rfl))) ((Z.2.2.1 _ (by decide +kernel)).use rfl) hcell hcv hcl ?_
    refine W.eq (g2 := F0 m 13 ls [.ref q9]) rfl ?_
    refine lv_astore (lv' := (4, .ref q9) :: [(0, mV ad (some 0)), (1, .int y1), (2, .int y2), (3, .ref o)].filter (fun q => !(q.1 == 4))) hx hb dL_queuedAt_13 hl.1 (by decide) (by rw [ml_filter hl.2] <;> rfl) (fun ls hl2 => ?_)
    refine lv_iconst (v := 1) hx hb dL_queuedAt_15 (by decide) ?_
    exact ml_ret C hr hlk hX rfl hP1 hO1 hS1 dL_queuedAt_16
  · refine lv_i2l (v := r.toInt64) hx hb dL_queuedAt_8 rfl ?_
    refine ml_put C hA hne hP1 hO1 hS1 dL_queuedAt_9 (fun H1 locs1 v1 hv1 hP1 hO1 hS1 => ?_)
    refine lv_goto (tgt := 17) hx hb dL_queuedAt_10 (by decide) ?_
    refine lv_iconst (v := 0) hx hb dL_queuedAt_17 (by decide) ?_
    exact ml_ret C hr hlk hq hv1 hP1 hO1 hS1 dL_queuedAt_18
set_option maxRecDepth 100000 in
set_option maxHeartbeats 4000000 in
theorem c_L_count (l : Launch) (hfl : l.stackTraces = false) (G : mG) (cL : ClassId) (ad : Nat → Nat) (o : Nat) (y1 : Int32) (y2 : Int32) (σ0 : mS) (v0 : Nat → Int64) (b : Nat) (Q : Int32 → Int64 → mS → Prop) (h : w_X2_count y1 y2 σ0 b (fun r σ => Q 0 r.toInt64 σ) (fun E σ => (E = xIO ∧ Q 1 (v0 0) σ) ∨ (E = xIA ∧ Q 2 (v0 0) σ))) : Met l yL_count (mWL yL_count cL_count 5 [(0, 10, 13, 13), (0, 10, 17, 15)]) (mRb 8 135 b) (va_Pc [mV ad (some 0), .int y1, .int y2, .ref o] (mPreL G cL ad o σ0 v0)) (va_Qi (fun r (q : mS × Int64) => Q r q.2 q.1) (mPostL G cL ad o) (mAL ad o)) b (18 * b) (mAL ad o) := by
  refine ml_start (lst := [(0, mV ad (some 0)), (1, .int y1), (2, .int y2), (3, .ref o)]) (by decide) (m_cR (m_cI (m_cI (m_cA m_c0)))) rfl (Nat.le_of_ble_eq_true rfl) (fun p e s m below meth c C hM Z hA hO hne hN hr hlk htb ls hl => ?_)
  have hx := C.1.1
  have hb := C.1.2.1
  refine lv_aload_n hx hb dL_count_0 rfl (ml_at hl 3 rfl) ?_
  refine lv_iconst (v := 0) hx hb dL_count_1 (by decide) ?_
  refine mr_aload_n C dL_count_2 rfl (ml_at hl 0 rfl) ?_
  refine lv_iload_n hx hb dL_count_3 rfl (ml_at hl 1 rfl) ?_
  refine lv_iload_n hx hb dL_count_4 rfl (ml_at hl 2 rfl) ?_
  refine ml_call hO hne (mr_xrunV (As := [.int y1, .int y2]) C hM Z hl.1.1 (c_X2_count l hfl G ad y1 y2 σ0 b _ _ h) cw_L_58 (mO_fix hM rfl (by decide) (by decide) (by decide)) rfl rfl (n := 2) ⟨rfl, by decide, by decide, by decide +kernel⟩ rfl rfl ⟨Nat.le_of_ble_eq_true rfl, Nat.le_of_ble_eq_true rfl⟩ (m_cI (m_cA m_c0)) (Nat.le_of_ble_eq_true rfl) dL_count_5 (by rw [Nat.zero_add]; exact Nat.le_refl b)) (fun E ce q9 v H1 locs1 hX hP1 hO1 hS1 hcell hcv hcl => ?_) (fun r v H1 locs1 hq hP1 hO1 hS1 => ?_)
  · rcases hX with ⟨rfl, hX⟩ | ⟨rfl, hX⟩
    · refine vx_catch (own := RL) (name := xIO) C.1.2.2.2.1 [] (⟨0, 10, 13, 13⟩ : ExceptionTableEntry) [(⟨0, 10, 17, 15⟩ : ExceptionTableEntry)] (by rw [htb]; rfl) (fun z hz => absurd hz List.not_mem_nil) (by decide) (by decide) (C.1.2.2.2.2 _ (mw_3 _ (List.mem_of_getElem? (i := 18) rfl))) ((Z.2.2.1 _ (by decide +kernel)).use rfl) hcell hcv hcl ?_
      refine W.eq (g2 := F0 m 13 ls [.ref q9]) rfl ?_
      refine lv_astore (lv' := (4, .ref q9) :: [(0, mV ad (some 0)), (1, .int y1), (2, .int y2), (3, .ref o)].filter (fun q => !(q.1 == 4))) hx hb dL_count_13 hl.1 (by decide) (by rw [ml_filter hl.2] <;> rfl) (fun ls hl2 => ?_)
      refine lv_iconst (v := 1) hx hb dL_count_15 (by decide) ?_
      exact ml_ret C hr hlk hX rfl hP1 hO1 hS1 dL_count_16
    · refine vx_catch (own := RL) (name := xIA) C.1.2.2.2.1 [(⟨0, 10, 13, 13⟩ : ExceptionTableEntry)] (⟨0, 10, 17, 15⟩ : ExceptionTableEntry) [] (by rw [htb]; rfl) (fun z hz => by
        simp only [List.mem_cons, List.not_mem_nil, or_false] at hz
        subst hz
        exact Or.inr ⟨by decide, xIO, C.1.2.2.2.2 _ (mw_3 _ (List.mem_of_getElem? (i := 18) rfl)), hN.1⟩) (by decide) (by decide) (C.1.2.2.2.2 _ (mw_3 _ (List.mem_of_getElem? (i := 19) rfl))) ((Z.2.2.1 _ (by decide +kernel)).use rfl) hcell hcv hcl ?_
      refine W.eq (g2 := F0 m 17 ls [.ref q9]) rfl ?_
      refine lv_astore (lv' := (4, .ref q9) :: [(0, mV ad (some 0)), (1, .int y1), (2, .int y2), (3, .ref o)].filter (fun q => !(q.1 == 4))) hx hb dL_count_17 hl.1 (by decide) (by rw [ml_filter hl.2] <;> rfl) (fun ls hl2 => ?_)
      refine lv_iconst (v := 2) hx hb dL_count_19 (by decide) ?_
      exact ml_ret C hr hlk hX rfl hP1 hO1 hS1 dL_count_20
  · refine lv_i2l (v := r.toInt64) hx hb dL_count_8 rfl ?_
    refine ml_put C hA hne hP1 hO1 hS1 dL_count_9 (fun H1 locs1 v1 hv1 hP1 hO1 hS1 => ?_)
    refine lv_goto (tgt := 21) hx hb dL_count_10 (by decide) ?_
    refine lv_iconst (v := 0) hx hb dL_count_21 (by decide) ?_
    exact ml_ret C hr hlk hq hv1 hP1 hO1 hS1 dL_count_22
set_option maxRecDepth 100000 in
set_option maxHeartbeats 4000000 in
theorem c_L_tokens (l : Launch) (hfl : l.stackTraces = false) (G : mG) (cL : ClassId) (ad : Nat → Nat) (o : Nat) (y1 : Int32) (σ0 : mS) (v0 : Nat → Int64) (b : Nat) (Q : Int32 → Int64 → mS → Prop) (h : w_X2_tokens y1 σ0 b (fun r σ => Q 0 r.toInt64 σ) (fun E σ => (E = xIO ∧ Q 1 (v0 0) σ))) : Met l yL_tokens (mWL yL_tokens cL_tokens 4 [(0, 9, 12, 13)]) (mRb 8 133 b) (va_Pc [mV ad (some 0), .int y1, .ref o] (mPreL G cL ad o σ0 v0)) (va_Qi (fun r (q : mS × Int64) => Q r q.2 q.1) (mPostL G cL ad o) (mAL ad o)) b (18 * b) (mAL ad o) := by
  refine ml_start (lst := [(0, mV ad (some 0)), (1, .int y1), (2, .ref o)]) (by decide) (m_cR (m_cI (m_cA m_c0))) rfl (Nat.le_of_ble_eq_true rfl) (fun p e s m below meth c C hM Z hA hO hne hN hr hlk htb ls hl => ?_)
  have hx := C.1.1
  have hb := C.1.2.1
  refine lv_aload_n hx hb dL_tokens_0 rfl (ml_at hl 2 rfl) ?_
  refine lv_iconst (v := 0) hx hb dL_tokens_1 (by decide) ?_
  refine mr_aload_n C dL_tokens_2 rfl (ml_at hl 0 rfl) ?_
  refine lv_iload_n hx hb dL_tokens_3 rfl (ml_at hl 1 rfl) ?_
  refine ml_call hO hne (mr_xrunV (As := [.int y1]) C hM Z hl.1.1 (c_X2_tokens l hfl G ad y1 σ0 b _ _ h) cw_L_61 (mO_fix hM rfl (by decide) (by decide) (by decide)) rfl rfl (n := 1) ⟨rfl, by decide, by decide, by decide +kernel⟩ rfl rfl ⟨Nat.le_of_ble_eq_true rfl, Nat.le_of_ble_eq_true rfl⟩ (m_cI (m_cA m_c0)) (Nat.le_of_ble_eq_true rfl) dL_tokens_4 (by rw [Nat.zero_add]; exact Nat.le_refl b)) (fun E ce q9 v H1 locs1 hX hP1 hO1 hS1 hcell hcv hcl => ?_) (fun r v H1 locs1 hq hP1 hO1 hS1 => ?_)
  · obtain ⟨rfl, hX⟩ := hX
    refine vx_catch (own := RL) (name := xIO) C.1.2.2.2.1 [] (⟨0, 9, 12, 13⟩ : ExceptionTableEntry) [] (by rw [htb]; rfl) (fun z hz => absurd hz List.not_mem_nil) (by decide) (by decide) (C.1.2.2.2.2 _ (mw_3 _ (List.mem_of_getElem? (i := 18) rfl))) ((Z.2.2.1 _ (by decide +kernel)).use rfl) hcell hcv hcl ?_
    refine W.eq (g2 := F0 m 12 ls [.ref q9]) rfl ?_
    refine lv_astore_n (lv' := (3, .ref q9) :: [(0, mV ad (some 0)), (1, .int y1), (2, .ref o)].filter (fun q => !(q.1 == 3))) hx hb dL_tokens_12 rfl hl.1 (by decide) (by rw [ml_filter hl.2] <;> rfl) (fun ls hl2 => ?_)
    refine lv_iconst (v := 1) hx hb dL_tokens_13 (by decide) ?_
    exact ml_ret C hr hlk hX rfl hP1 hO1 hS1 dL_tokens_14
  · refine lv_i2l (v := r.toInt64) hx hb dL_tokens_7 rfl ?_
    refine ml_put C hA hne hP1 hO1 hS1 dL_tokens_8 (fun H1 locs1 v1 hv1 hP1 hO1 hS1 => ?_)
    refine lv_goto (tgt := 15) hx hb dL_tokens_9 (by decide) ?_
    refine lv_iconst (v := 0) hx hb dL_tokens_15 (by decide) ?_
    exact ml_ret C hr hlk hq hv1 hP1 hO1 hS1 dL_tokens_16
set_option maxRecDepth 100000 in
set_option maxHeartbeats 4000000 in
theorem c_L_isOpen (l : Launch) (hfl : l.stackTraces = false) (G : mG) (cL : ClassId) (ad : Nat → Nat) (o : Nat) (y1 : Int32) (σ0 : mS) (v0 : Nat → Int64) (b : Nat) (Q : Int32 → Int64 → mS → Prop) (h : w_X2_isOpen y1 σ0 b (fun r σ => Q 0 (if r = 0 then 0 else 1) σ) (fun E σ => (E = xIO ∧ Q 1 (v0 0) σ))) : Met l yL_isOpen (mWL yL_isOpen cL_isOpen 4 [(0, 16, 19, 13)]) (mRb 8 133 b) (va_Pc [mV ad (some 0), .int y1, .ref o] (mPreL G cL ad o σ0 v0)) (va_Qi (fun r (q : mS × Int64) => Q r q.2 q.1) (mPostL G cL ad o) (mAL ad o)) b (18 * b) (mAL ad o) := by
  refine ml_start (lst := [(0, mV ad (some 0)), (1, .int y1), (2, .ref o)]) (by decide) (m_cR (m_cI (m_cA m_c0))) rfl (Nat.le_of_ble_eq_true rfl) (fun p e s m below meth c C hM Z hA hO hne hN hr hlk htb ls hl => ?_)
  have hx := C.1.1
  have hb := C.1.2.1
  refine lv_aload_n hx hb dL_isOpen_0 rfl (ml_at hl 2 rfl) ?_
  refine lv_iconst (v := 0) hx hb dL_isOpen_1 (by decide) ?_
  refine mr_aload_n C dL_isOpen_2 rfl (ml_at hl 0 rfl) ?_
  refine lv_iload_n hx hb dL_isOpen_3 rfl (ml_at hl 1 rfl) ?_
  refine ml_call hO hne (mr_xrunV (As := [.int y1]) C hM Z hl.1.1 (c_X2_isOpen l hfl G ad y1 σ0 b _ _ h) cw_L_64 (mO_fix hM rfl (by decide) (by decide) (by decide)) rfl rfl (n := 1) ⟨rfl, by decide, by decide, by decide +kernel⟩ rfl rfl ⟨Nat.le_of_ble_eq_true rfl, Nat.le_of_ble_eq_true rfl⟩ (m_cI (m_cA m_c0)) (Nat.le_of_ble_eq_true rfl) dL_isOpen_4 (by rw [Nat.zero_add]; exact Nat.le_refl b)) (fun E ce q9 v H1 locs1 hX hP1 hO1 hS1 hcell hcv hcl => ?_) (fun r v H1 locs1 hq hP1 hO1 hS1 => ?_)
  · obtain ⟨rfl, hX⟩ := hX
    refine vx_catch (own := RL) (name := xIO) C.1.2.2.2.1 [] (⟨0, 16, 19, 13⟩ : ExceptionTableEntry) [] (by rw [htb]; rfl) (fun z hz => absurd hz List.not_mem_nil) (by decide) (by decide) (C.1.2.2.2.2 _ (mw_3 _ (List.mem_of_getElem? (i := 18) rfl))) ((Z.2.2.1 _ (by decide +kernel)).use rfl) hcell hcv hcl ?_
    refine W.eq (g2 := F0 m 19 ls [.ref q9]) rfl ?_
    refine lv_astore_n (lv' := (3, .ref q9) :: [(0, mV ad (some 0)), (1, .int y1), (2, .ref o)].filter (fun q => !(q.1 == 3))) hx hb dL_isOpen_19 rfl hl.1 (by decide) (by rw [ml_filter hl.2] <;> rfl) (fun ls hl2 => ?_)
    refine lv_iconst (v := 1) hx hb dL_isOpen_20 (by decide) ?_
    exact ml_ret C hr hlk hX rfl hP1 hO1 hS1 dL_isOpen_21
  · obtain ⟨hq, hz⟩ := hq
    refine lv_if_eq (tgt := 14) hx hb dL_isOpen_7 (by decide) (fun hc => ?_) (fun hc => ?_)
    · rw [if_pos hc] at hq
      refine lv_lconst (v := 0) hx hb dL_isOpen_14 rfl ?_
      refine ml_put C hA hne hP1 hO1 hS1 dL_isOpen_15 (fun H1 locs1 v1 hv1 hP1 hO1 hS1 => ?_)
      refine lv_goto (tgt := 22) hx hb dL_isOpen_16 (by decide) ?_
      refine lv_iconst (v := 0) hx hb dL_isOpen_22 (by decide) ?_
      exact ml_ret C hr hlk hq hv1 hP1 hO1 hS1 dL_isOpen_23
    · rw [if_neg hc] at hq
      refine lv_lconst (v := 1) hx hb dL_isOpen_10 rfl ?_
      refine lv_goto (tgt := 15) hx hb dL_isOpen_11 (by decide) ?_
      refine ml_put C hA hne hP1 hO1 hS1 dL_isOpen_15 (fun H1 locs1 v1 hv1 hP1 hO1 hS1 => ?_)
      refine lv_goto (tgt := 22) hx hb dL_isOpen_16 (by decide) ?_
      refine lv_iconst (v := 0) hx hb dL_isOpen_22 (by decide) ?_
      exact ml_ret C hr hlk hq hv1 hP1 hO1 hS1 dL_isOpen_23
