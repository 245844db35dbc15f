/-! the law's own arrays: g at 0, then v, a, b, p, r, e, w -/
def kdL (i : Nat) : Nat × Nat := if i = 0 then (1, 3) else if i < 8 then (1, 60) else (0, 0)
def mUsh (x y : Int32) : Int32 := (x.toUInt32 >>> (y.toUInt32 &&& Int32.toUInt32 31)).toInt32
theorem cw_L_53 : mCs RL 53 yL_put cL_put 5 none := ⟨(mw_17 _ (List.mem_of_getElem? (i := 13) rfl)), (mw_17 _ (List.mem_of_getElem? (i := 14) rfl)), (mw_2 _ (List.mem_of_getElem? (i := 6) rfl)), (mw_17 _ (List.mem_of_getElem? (i := 15) rfl))⟩
theorem cw_L_59 : mCs RL 59 yL_get cL_get 4 (some .int) := ⟨(mw_2 _ (List.mem_of_getElem? (i := 11) rfl)), (mw_2 _ (List.mem_of_getElem? (i := 12) rfl)), (mw_2 _ (List.mem_of_getElem? (i := 6) rfl)), (mw_2 _ (List.mem_of_getElem? (i := 13) rfl))⟩
theorem cw_L_63 : mCs RL 63 yL_many cL_many 6 (some .int) := ⟨(mw_6 _ (List.mem_of_getElem? (i := 20) rfl)), (mw_6 _ (List.mem_of_getElem? (i := 21) rfl)), (mw_2 _ (List.mem_of_getElem? (i := 6) rfl)), (mw_6 _ (List.mem_of_getElem? (i := 22) rfl))⟩
theorem cw_L_67 : mCs RL 67 yL_end cL_end 10 none := ⟨(mw_17 _ (List.mem_of_getElem? (i := 10) rfl)), (mw_17 _ (List.mem_of_getElem? (i := 11) rfl)), (mw_2 _ (List.mem_of_getElem? (i := 6) rfl)), (mw_17 _ (List.mem_of_getElem? (i := 12) rfl))⟩
theorem cw_L_79 : mCs RL 79 yL_begin cL_begin 13 none := ⟨(mw_17 _ (List.mem_of_getElem? (i := 7) rfl)), (mw_17 _ (List.mem_of_getElem? (i := 8) rfl)), (mw_2 _ (List.mem_of_getElem? (i := 6) rfl)), (mw_17 _ (List.mem_of_getElem? (i := 9) rfl))⟩
theorem cw_L_75 : mCs RL 75 yL_look cL_look 10 none := ⟨(mw_17 _ (List.mem_of_getElem? (i := 22) rfl)), (mw_17 _ (List.mem_of_getElem? (i := 23) rfl)), (mw_2 _ (List.mem_of_getElem? (i := 6) rfl)), (mw_18 _ (List.mem_of_getElem? (i := 0) rfl))⟩
theorem cw_L_71 : mCs RL 71 yL_fault cL_fault 3 none := ⟨(mw_17 _ (List.mem_of_getElem? (i := 19) rfl)), (mw_17 _ (List.mem_of_getElem? (i := 20) rfl)), (mw_2 _ (List.mem_of_getElem? (i := 6) rfl)), (mw_17 _ (List.mem_of_getElem? (i := 21) rfl))⟩
def w_L_low (y0 : Int32) (y1 : Int32) (σ0 : mS) (Q : Int32 → mS → Prop) : Prop := (¬ y1 = 0 ∧ (Q ((mUsh y0 (1 : Int32)) - (mUsh y0 (1 : Int32)) / y1 * y1) σ0))
set_option maxRecDepth 100000 in
set_option maxHeartbeats 4000000 in
theorem c_L_low (l : Launch) (G : mG) (ad : Nat → Nat) (y0 : Int32) (y1 : Int32) (σ0 : mS) (Q : Int32 → mS → Prop) (h : w_L_low y0 y1 σ0 Q) : mKi l yL_low cL_low 2 0 0 G kdL ad σ0 [.int y0, .int y1] Q := by
  refine mr_start (lst := [(0, .int y0), (1, .int y1)]) (by decide) (m_cI (m_cI m_c0)) rfl (Nat.le_of_ble_eq_true rfl) (fun p e s m below meth c C hM hr hlk ls hl => ?_)
  have hx := C.1.1
  have hb := C.1.2.1
  unfold w_L_low at h
  refine lv_iload_n hx hb dL_low_0 rfl (ml_at hl 0 rfl) ?_
  refine lv_iconst (v := 1) hx hb dL_low_1 (by decide) ?_
  refine lv_iushr (v := mUsh y0 (1 : Int32)) hx hb dL_low_2 rfl ?_
  refine lv_iload_n hx hb dL_low_3 rfl (ml_at hl 1 rfl) ?_
  obtain ⟨hz1, h⟩ := h
  refine lv_irem hx hb dL_low_4 hz1 ?_
  exact mr_iret C hM hr hlk h dL_low_5
def w_L_get (y1 : Int32) (y2 : Int32) (y3 : Int32) (σ0 : mS) (Q : Int32 → mS → Prop) : Prop := (∃ j1, y1 = nI j1 ∧ (j1 < 60 ∧ (Q (((mI σ0 2 j1) >>> (y2 &&& 31)) &&& (((1 : Int32) <<< (y3 &&& 31)) - (1 : Int32))) σ0)))
set_option maxRecDepth 100000 in
set_option maxHeartbeats 4000000 in
theorem c_L_get (l : Launch) (G : mG) (ad : Nat → Nat) (y1 : Int32) (y2 : Int32) (y3 : Int32) (σ0 : mS) (Q : Int32 → mS → Prop) (h : w_L_get y1 y2 y3 σ0 Q) : mKi l yL_get cL_get 4 0 0 G kdL ad σ0 [mV ad (some 2), .int y1, .int y2, .int y3] Q := by
  refine mr_start (lst := [(0, mV ad (some 2)), (1, .int y1), (2, .int y2), (3, .int y3)]) (by decide) (m_cR (m_cI (m_cI (m_cI m_c0)))) rfl (Nat.le_of_ble_eq_true rfl) (fun p e s m below meth c C hM hr hlk ls hl => ?_)
  have hx := C.1.1
  have hb := C.1.2.1
  unfold w_L_get at h
  refine mr_aload_n C dL_get_0 rfl (ml_at hl 0 rfl) ?_
  refine lv_iload_n hx hb dL_get_1 rfl (ml_at hl 1 rfl) ?_
  obtain ⟨j1, ej2, ej2b, h⟩ := h
  refine mr_iald C hM (mB_fix hM rfl (by decide) (by decide) (by decide)) ej2 ej2b (by decide) dL_get_2 ?_
  refine lv_iload_n hx hb dL_get_3 rfl (ml_at hl 2 rfl) ?_
  refine lv_ishr hx hb dL_get_4 ?_
  refine lv_iconst (v := 1) hx hb dL_get_5 (by decide) ?_
  refine lv_iload_n hx hb dL_get_6 rfl (ml_at hl 3 rfl) ?_
  refine lv_ishl hx hb dL_get_7 ?_
  refine lv_iconst (v := 1) hx hb dL_get_8 (by decide) ?_
  refine lv_isub hx hb dL_get_9 ?_
  refine lv_iand hx hb dL_get_10 ?_
  exact mr_iret C hM hr hlk h dL_get_11
def w_L_put (y1 : Int32) (y2 : Int32) (y3 : Int32) (y4 : Int32) (σ0 : mS) (Q : mS → Prop) : Prop := (∃ j1, y1 = nI j1 ∧ (j1 < 60 ∧ (∃ j3, y1 = nI j3 ∧ (j3 < 60 ∧ (∀ σ6, σ6 = sI σ0 2 j3 (((mI σ0 2 j1) &&& (((((1 : Int32) <<< (y3 &&& 31)) - (1 : Int32)) <<< (y2 &&& 31)) ^^^ (-1 : Int32))) ||| (y4 <<< (y2 &&& 31))) → (Q σ6))))))
set_option maxRecDepth 100000 in
set_option maxHeartbeats 4000000 in
theorem c_L_put (l : Launch) (G : mG) (ad : Nat → Nat) (y1 : Int32) (y2 : Int32) (y3 : Int32) (y4 : Int32) (σ0 : mS) (Q : mS → Prop) (h : w_L_put y1 y2 y3 y4 σ0 Q) : mKv l yL_put cL_put 5 0 0 G kdL ad σ0 [mV ad (some 2), .int y1, .int y2, .int y3, .int y4] Q := by
  refine mr_start (lst := [(0, mV ad (some 2)), (1, .int y1), (2, .int y2), (3, .int y3), (4, .int y4)]) (by decide) (m_cR (m_cI (m_cI (m_cI (m_cI m_c0))))) rfl (Nat.le_of_ble_eq_true rfl) (fun p e s m below meth c C hM hr hlk ls hl => ?_)
  have hx := C.1.1
  have hb := C.1.2.1
  unfold w_L_put at h
  refine mr_aload_n C dL_put_0 rfl (ml_at hl 0 rfl) ?_
  refine lv_iload_n hx hb dL_put_1 rfl (ml_at hl 1 rfl) ?_
  refine mr_aload_n C dL_put_2 rfl (ml_at hl 0 rfl) ?_
  refine lv_iload_n hx hb dL_put_3 rfl (ml_at hl 1 rfl) ?_
  obtain ⟨j1, ej2, ej2b, h⟩ := h
  refine mr_iald C hM (mB_fix hM rfl (by decide) (by decide) (by decide)) ej2 ej2b (by decide) dL_put_4 ?_
  refine lv_iconst (v := 1) hx hb dL_put_5 (by decide) ?_
  refine lv_iload_n hx hb dL_put_6 rfl (ml_at hl 3 rfl) ?_
  refine lv_ishl hx hb dL_put_7 ?_
  refine lv_iconst (v := 1) hx hb dL_put_8 (by decide) ?_
  refine lv_isub hx hb dL_put_9 ?_
  refine lv_iload_n hx hb dL_put_10 rfl (ml_at hl 2 rfl) ?_
  refine lv_ishl hx hb dL_put_11 ?_
  refine lv_iconst (v := -1) hx hb dL_put_12 (by decide) ?_
  refine lv_ixor hx hb dL_put_13 ?_
  refine lv_iand hx hb dL_put_14 ?_
  refine lv_iload hx hb dL_put_15 (ml_at hl 4 rfl) ?_
  refine lv_iload_n hx hb dL_put_17 rfl (ml_at hl 2 rfl) ?_
  refine lv_ishl hx hb dL_put_18 ?_
  refine lv_ior hx hb dL_put_19 ?_
  obtain ⟨j3, ej4, ej4b, h⟩ := h
  refine mr_iast C hM (mB_fix hM rfl (by decide) (by decide) (by decide)) ej4 ej4b (by decide) dL_put_20 (fun H locs hM5 => ?_)
  clear hM
  obtain ⟨σ6, eσ6⟩ : ∃ y, y = sI σ0 2 j3 (((mI σ0 2 j1) &&& (((((1 : Int32) <<< (y3 &&& 31)) - (1 : Int32)) <<< (y2 &&& 31)) ^^^ (-1 : Int32))) ||| (y4 <<< (y2 &&& 31))) := ⟨_, rfl⟩
  rw [← eσ6] at hM5
  replace h := h σ6 eσ6
  exact mr_vret C hM5 hr hlk h dL_put_21
def w_L_many (y2 : Int32) (y3 : Int32) (σ0 : mS) (Q : Int32 → mS → Prop) : Prop := (∃ I6 : Nat → Int32 → Int32 → mS → Prop, (∀ (n6 : Nat) (x4_6 : Int32) (x5_6 : Int32) (σ_6 : mS), I6 n6 x4_6 x5_6 σ_6 → (∃ j3, (1 : Int32) = nI j3 ∧ (j3 < 3 ∧ (((mI σ_6 0 j3) ≤ x5_6 → (Q x4_6 σ_6)) ∧ (¬ (mI σ_6 0 j3) ≤ x5_6 → (∃ j6, x5_6 = nI j6 ∧ (j6 < 60 ∧ ((¬ ((mI σ_6 2 j6) &&& (63 : Int32)) = (y2 + ((8 : Int32) * y3)) → (∃ k11, k11 < n6 ∧ I6 k11 (x4_6 + (0 : Int32)) (x5_6 + 1) σ_6)) ∧ (((mI σ_6 2 j6) &&& (63 : Int32)) = (y2 + ((8 : Int32) * y3)) → (∃ k14, k14 < n6 ∧ I6 k14 (x4_6 + (1 : Int32)) (x5_6 + 1) σ_6)))))))))) ∧ ∃ n, I6 n (0 : Int32) (0 : Int32) σ0)
set_option maxRecDepth 100000 in
set_option maxHeartbeats 4000000 in
theorem c_L_many (l : Launch) (G : mG) (ad : Nat → Nat) (y2 : Int32) (y3 : Int32) (σ0 : mS) (Q : Int32 → mS → Prop) (h : w_L_many y2 y3 σ0 Q) : mKi l yL_many cL_many 6 0 0 G kdL ad σ0 [mV ad (some 2), mV ad (some 0), .int y2, .int y3] Q := by
  refine mr_start (lst := [(0, mV ad (some 2)), (1, mV ad (some 0)), (2, .int y2), (3, .int y3)]) (by decide) (m_cR (m_cR (m_cI (m_cI m_c0)))) rfl (Nat.le_of_ble_eq_true rfl) (fun p e s m below meth c C hM hr hlk ls hl => ?_)
  have hx := C.1.1
  have hb := C.1.2.1
  unfold w_L_many at h
  refine lv_iconst (v := 0) hx hb dL_many_0 (by decide) ?_
  refine mr_istore (lv' := [(4, .int (0 : Int32)), (0, mV ad (some 2)), (1, mV ad (some 0)), (2, .int y2), (3, .int y3)]) C hl dL_many_1 (by decide) rfl (fun ls hl1 => ?_)
  clear hl
  refine lv_iconst (v := 0) hx hb dL_many_3 (by decide) ?_
  refine mr_istore (lv' := [(5, .int (0 : Int32)), (4, .int (0 : Int32)), (0, mV ad (some 2)), (1, mV ad (some 0)), (2, .int y2), (3, .int y3)]) C hl1 dL_many_4 (by decide) rfl (fun ls hl2 => ?_)
  clear hl1
  obtain ⟨I6, hI6, nn6, h⟩ := h
  have hL6 : ∀ (n6 : Nat) (x4_6 : Int32) (x5_6 : Int32) (σ_6 : mS) (H : Heap) (locs : List Loc) (ls : Array Slot), I6 n6 x4_6 x5_6 σ_6 → mM G kdL ad s σ_6 H locs → ml_has ls 6 [(0, mV ad (some 2)), (1, mV ad (some 0)), (2, .int y2), (3, .int y3), (4, .int x4_6), (5, .int x5_6)] → W p l e (mRm 0 0) s m ([mV ad (some 2), mV ad (some 0), .int y2, .int y3] : List Value).toArray below meth c H locs 0 0 (MQ below (va_Qi Q (mPost G kdL ad) (mA ad)) ([mV ad (some 2), mV ad (some 0), .int y2, .int y3] : List Value).toArray s 0 0 (mA ad)) (F0 m 6 ls []) := by
    refine m_loop (fun n6 ih6 => ?_)
    intro x4_6 x5_6 σ_6 H locs ls h_6 hM_6 hl_6
    replace h_6 := hI6 n6 x4_6 x5_6 σ_6 h_6
    refine lv_iload hx hb dL_many_6 (ml_at hl_6 5 rfl) ?_
    refine mr_aload_n C dL_many_8 rfl (ml_at hl_6 1 rfl) ?_
    refine lv_iconst (v := 1) hx hb dL_many_9 (by decide) ?_
    obtain ⟨j3, ej4, ej4b, h_6⟩ := h_6
    refine mr_iald C hM_6 (mB_fix hM_6 rfl (by decide) (by decide) (by decide)) ej4 ej4b (by decide) dL_many_10 ?_
    refine lv_icmp_ge (tgt := 46) hx hb dL_many_11 (by decide) (fun hc5 => ?_) (fun hc5 => ?_)
    · replace h_6 := h_6.1 hc5
      refine lv_iload hx hb dL_many_46 (ml_at hl_6 4 rfl) ?_
      exact mr_iret C hM_6 hr hlk h_6 dL_many_48
    · replace h_6 := h_6.2 hc5
      refine lv_iload hx hb dL_many_14 (ml_at hl_6 4 rfl) ?_
      refine mr_aload_n C dL_many_16 rfl (ml_at hl_6 0 rfl) ?_
      refine lv_iload hx hb dL_many_17 (ml_at hl_6 5 rfl) ?_
      obtain ⟨j6, ej7, ej7b, h_6⟩ := h_6
      refine mr_iald C hM_6 (mB_fix hM_6 rfl (by decide) (by decide) (by decide)) ej7 ej7b (by decide) dL_many_19 ?_
      refine lv_bipush (v := 63) hx hb dL_many_20 (by decide) ?_
      refine lv_iand hx hb dL_many_22 ?_
      refine lv_iload_n hx hb dL_many_23 rfl (ml_at hl_6 2 rfl) ?_
      refine lv_bipush (v := 8) hx hb dL_many_24 (by decide) ?_
      refine lv_iload_n hx hb dL_many_26 rfl (ml_at hl_6 3 rfl) ?_
      refine lv_imul hx hb dL_many_27 ?_
      refine lv_iadd hx hb dL_many_28 ?_
      refine lv_icmp_ne (tgt := 36) hx hb dL_many_29 (by decide) (fun hc8 => ?_) (fun hc8 => ?_)
      · replace h_6 := h_6.1 hc8
        refine lv_iconst (v := 0) hx hb dL_many_36 (by decide) ?_
        refine lv_iadd hx hb dL_many_37 ?_
        refine mr_istore (lv' := [(4, .int (x4_6 + (0 : Int32))), (0, mV ad (some 2)), (1, mV ad (some 0)), (2, .int y2), (3, .int y3), (5, .int x5_6)]) C hl_6 dL_many_38 (by decide) rfl (fun ls hl9 => ?_)
        clear hl_6
        refine mr_iinc (v := (x5_6 + 1)) (lv' := [(5, .int (x5_6 + 1)), (4, .int (x4_6 + (0 : Int32))), (0, mV ad (some 2)), (1, mV ad (some 0)), (2, .int y2), (3, .int y3)]) C hl9 dL_many_40 (k := 5) rfl rfl (by decide) rfl (fun ls hl10 => ?_)
        clear hl9
        refine lv_goto (tgt := 6) hx hb dL_many_43 (by decide) ?_
        obtain ⟨k11, hk11, h_6⟩ := h_6
        exact ih6 k11 hk11 (x4_6 + (0 : Int32)) (x5_6 + 1) σ_6 _ _ _ h_6 hM_6 (ml_sub hl10 [2, 3, 4, 5, 1, 0] rfl)
      · replace h_6 := h_6.2 hc8
        refine lv_iconst (v := 1) hx hb dL_many_32 (by decide) ?_
        refine lv_goto (tgt := 37) hx hb dL_many_33 (by decide) ?_
        refine lv_iadd hx hb dL_many_37 ?_
        refine mr_istore (lv' := [(4, .int (x4_6 + (1 : Int32))), (0, mV ad (some 2)), (1, mV ad (some 0)), (2, .int y2), (3, .int y3), (5, .int x5_6)]) C hl_6 dL_many_38 (by decide) rfl (fun ls hl12 => ?_)
        clear hl_6
        refine mr_iinc (v := (x5_6 + 1)) (lv' := [(5, .int (x5_6 + 1)), (4, .int (x4_6 + (1 : Int32))), (0, mV ad (some 2)), (1, mV ad (some 0)), (2, .int y2), (3, .int y3)]) C hl12 dL_many_40 (k := 5) rfl rfl (by decide) rfl (fun ls hl13 => ?_)
        clear hl12
        refine lv_goto (tgt := 6) hx hb dL_many_43 (by decide) ?_
        obtain ⟨k14, hk14, h_6⟩ := h_6
        exact ih6 k14 hk14 (x4_6 + (1 : Int32)) (x5_6 + 1) σ_6 _ _ _ h_6 hM_6 (ml_sub hl13 [2, 3, 4, 5, 1, 0] rfl)
  exact hL6 nn6 (0 : Int32) (0 : Int32) σ0 _ _ _ h hM (ml_sub hl2 [2, 3, 4, 5, 1, 0] rfl)
def w_L_end (y0 : Int32) (y1 : Int32) (σ0 : mS) (Q : mS → Prop) : Prop := w_L_put y0 (3 : Int32) (3 : Int32) y1 σ0 (fun σ1 => (∃ j4, (0 : Int32) = nI j4 ∧ (j4 < 3 ∧ (∃ j6, y0 = nI j6 ∧ (j6 < 60 ∧ (∀ σ9, σ9 = sI σ1 6 j6 (mI σ1 0 j4) → (∃ j10, y0 = nI j10 ∧ (j10 < 60 ∧ (∃ J105 : mS → Prop, (∀  (σ_105 : mS), J105  σ_105 → (∃ j13, y0 = nI j13 ∧ (j13 < 60 ∧ ((¬ y1 = (3 : Int32) → (∃ I163 : Nat → Int32 → mS → Prop, (∀ (n163 : Nat) (x9_163 : Int32) (σ_163 : mS), I163 n163 x9_163 σ_163 → (∃ j18, (1 : Int32) = nI j18 ∧ (j18 < 3 ∧ (((mI σ_163 0 j18) ≤ x9_163 → (Q σ_163)) ∧ (¬ (mI σ_163 0 j18) ≤ x9_163 → (∃ j21, x9_163 = nI j21 ∧ (j21 < 60 ∧ (((mI σ_163 4 j21) < 0 → (∃ k25, k25 < n163 ∧ I163 k25 (x9_163 + 1) σ_163)) ∧ (¬ (mI σ_163 4 j21) < 0 → w_L_get x9_163 (3 : Int32) (3 : Int32) σ_163 (fun x29 σ26 => (((2 : Int32) < x29 → (∃ k32, k32 < n163 ∧ I163 k32 (x9_163 + 1) σ26)) ∧ (¬ (2 : Int32) < x29 → (∃ j33, x9_163 = nI j33 ∧ (j33 < 60 ∧ w_L_get (mI σ26 4 j33) (3 : Int32) (3 : Int32) σ26 (fun x38 σ35 => (((3 : Int32) ≤ x38 → w_L_put x9_163 (3 : Int32) (3 : Int32) (7 : Int32) σ35 (fun σ40 => (∃ j43, (0 : Int32) = nI j43 ∧ (j43 < 3 ∧ (∃ j45, x9_163 = nI j45 ∧ (j45 < 60 ∧ (∀ σ48, σ48 = sI σ40 6 j45 (mI σ40 0 j43) → (∃ k50, k50 < n163 ∧ I163 k50 (x9_163 + 1) σ48)))))))) ∧ (¬ (3 : Int32) ≤ x38 → (∃ k52, k52 < n163 ∧ I163 k52 (x9_163 + 1) σ35)))))))))))))))))) ∧ ∃ n, I163 n (y0 + (1 : Int32)) σ_105)) ∧ (y1 = (3 : Int32) → (∃ j53, (((10 : Int32) * ((mI σ_105 2 j13) &&& (7 : Int32))) + (7 : Int32)) = nI j53 ∧ (j53 < 60 ∧ (∃ J147 : mS → Prop, (∀  (σ_147 : mS), J147  σ_147 → (∃ j55, (((10 : Int32) * ((mI σ_105 2 j13) &&& (7 : Int32))) + (8 : Int32)) = nI j55 ∧ (j55 < 60 ∧ (∀ σ58, σ58 = sI σ_147 1 j55 (0 : Int32) → (∃ I163 : Nat → Int32 → mS → Prop, (∀ (n163 : Nat) (x9_163 : Int32) (σ_163 : mS), I163 n163 x9_163 σ_163 → (∃ j60, (1 : Int32) = nI j60 ∧ (j60 < 3 ∧ (((mI σ_163 0 j60) ≤ x9_163 → (Q σ_163)) ∧ (¬ (mI σ_163 0 j60) ≤ x9_163 → (∃ j63, x9_163 = nI j63 ∧ (j63 < 60 ∧ (((mI σ_163 4 j63) < 0 → (∃ k67, k67 < n163 ∧ I163 k67 (x9_163 + 1) σ_163)) ∧ (¬ (mI σ_163 4 j63) < 0 → w_L_get x9_163 (3 : Int32) (3 : Int32) σ_163 (fun x71 σ68 => (((2 : Int32) < x71 → (∃ k74, k74 < n163 ∧ I163 k74 (x9_163 + 1) σ68)) ∧ (¬ (2 : Int32) < x71 → (∃ j75, x9_163 = nI j75 ∧ (j75 < 60 ∧ w_L_get (mI σ68 4 j75) (3 : Int32) (3 : Int32) σ68 (fun x80 σ77 => (((3 : Int32) ≤ x80 → w_L_put x9_163 (3 : Int32) (3 : Int32) (7 : Int32) σ77 (fun σ82 => (∃ j85, (0 : Int32) = nI j85 ∧ (j85 < 3 ∧ (∃ j87, x9_163 = nI j87 ∧ (j87 < 60 ∧ (∀ σ90, σ90 = sI σ82 6 j87 (mI σ82 0 j85) → (∃ k92, k92 < n163 ∧ I163 k92 (x9_163 + 1) σ90)))))))) ∧ (¬ (3 : Int32) ≤ x80 → (∃ k94, k94 < n163 ∧ I163 k94 (x9_163 + 1) σ77)))))))))))))))))) ∧ ∃ n, I163 n (y0 + (1 : Int32)) σ58))))) ∧ (((50 : Int32) ≤ (mI σ_105 1 j53) → (J147  σ_105)) ∧ (¬ (50 : Int32) ≤ (mI σ_105 1 j53) → (∃ j96, (((10 : Int32) * ((mI σ_105 2 j13) &&& (7 : Int32))) + (7 : Int32)) = nI j96 ∧ (j96 < 60 ∧ (∃ j98, (((10 : Int32) * ((mI σ_105 2 j13) &&& (7 : Int32))) + (7 : Int32)) = nI j98 ∧ (j98 < 60 ∧ (∀ σ101, σ101 = sI σ_105 1 j98 ((mI σ_105 1 j96) + (1 : Int32)) → (J147  σ101)))))))))))))))) ∧ ((0 ≤ (mI σ9 4 j10) → w_L_get (mI σ9 4 j10) (3 : Int32) (3 : Int32) σ9 (fun x106 σ103 => ((¬ x106 = (2 : Int32) → (J105  σ103)) ∧ (x106 = (2 : Int32) → w_L_get (mI σ9 4 j10) (6 : Int32) (2 : Int32) σ103 (fun x111 σ108 => w_L_get y0 (18 : Int32) (2 : Int32) σ108 (fun x115 σ112 => ((¬ x111 = x115 → (J105  σ112)) ∧ (x111 = x115 → w_L_get (mI σ9 4 j10) (14 : Int32) (3 : Int32) σ112 (fun x120 σ117 => w_L_put (mI σ9 4 j10) (14 : Int32) (3 : Int32) (x120 - (1 : Int32)) σ117 (fun σ121 => ((¬ y1 = (3 : Int32) → (J105  σ121)) ∧ (y1 = (3 : Int32) → w_L_put (mI σ9 4 j10) (17 : Int32) (1 : Int32) (1 : Int32) σ121 (fun σ125 => (J105  σ125)))))))))))))) ∧ (¬ 0 ≤ (mI σ9 4 j10) → (∃ j128, (2 : Int32) = nI j128 ∧ (j128 < 3 ∧ (∃ j130, (2 : Int32) = nI j130 ∧ (j130 < 3 ∧ (∀ σ133, σ133 = sI σ9 0 j130 ((mI σ9 0 j128) + (1 : Int32)) → (J105  σ133)))))))))))))))))
set_option maxRecDepth 100000 in
set_option maxHeartbeats 4000000 in
theorem c_L_end (l : Launch) (G : mG) (ad : Nat → Nat) (y0 : Int32) (y1 : Int32) (σ0 : mS) (Q : mS → Prop) (h : w_L_end y0 y1 σ0 Q) : mKv l yL_end cL_end 10 1 24 G kdL ad σ0 [.int y0, .int y1, mV ad (some 1), mV ad (some 2), mV ad (some 4), mV ad (some 6), mV ad (some 0)] Q := by
  refine mr_start (lst := [(0, .int y0), (1, .int y1), (2, mV ad (some 1)), (3, mV ad (some 2)), (4, mV ad (some 4)), (5, mV ad (some 6)), (6, mV ad (some 0))]) (by decide) (m_cI (m_cI (m_cR (m_cR (m_cR (m_cR (m_cR m_c0))))))) rfl (Nat.le_of_ble_eq_true rfl) (fun p e s m below meth c C hM hr hlk ls hl => ?_)
  have hx := C.1.1
  have hb := C.1.2.1
  unfold w_L_end at h
  refine mr_aload_n C dL_end_0 rfl (ml_at hl 3 rfl) ?_
  refine lv_iload_n hx hb dL_end_1 rfl (ml_at hl 0 rfl) ?_
  refine lv_iconst (v := 3) hx hb dL_end_2 (by decide) ?_
  refine lv_iconst (v := 3) hx hb dL_end_3 (by decide) ?_
  refine lv_iload_n hx hb dL_end_4 rfl (ml_at hl 1 rfl) ?_
  refine mr_cv hM (mr_runS (As := [mV ad (some 2), .int y0, .int (3 : Int32), .int (3 : Int32), .int y1]) C hM hl.1.1 (c_L_put l G ad y0 (3 : Int32) (3 : Int32) y1 σ0 _ h) cw_L_53 (n := 5) ⟨rfl, by decide, by decide, by decide +kernel⟩ rfl rfl ⟨Nat.le_of_ble_eq_true rfl, Nat.le_of_ble_eq_true rfl⟩ m_c0 (Nat.le_of_ble_eq_true rfl) dL_end_5 ⟨Nat.zero_le _, Nat.zero_le _⟩) (fun σ1 H locs h2 hM3 => ?_)
  clear h hM
  refine mr_aload C dL_end_8 (ml_at hl 5 rfl) ?_
  refine lv_iload_n hx hb dL_end_10 rfl (ml_at hl 0 rfl) ?_
  refine mr_aload C dL_end_11 (ml_at hl 6 rfl) ?_
  refine lv_iconst (v := 0) hx hb dL_end_13 (by decide) ?_
  obtain ⟨j4, ej5, ej5b, h2⟩ := h2
  refine mr_iald C hM3 (mB_fix hM3 rfl (by decide) (by decide) (by decide)) ej5 ej5b (by decide) dL_end_14 ?_
  obtain ⟨j6, ej7, ej7b, h2⟩ := h2
  refine mr_iast C hM3 (mB_fix hM3 rfl (by decide) (by decide) (by decide)) ej7 ej7b (by decide) dL_end_15 (fun H locs hM8 => ?_)
  clear hM3
  obtain ⟨σ9, eσ9⟩ : ∃ y, y = sI σ1 6 j6 (mI σ1 0 j4) := ⟨_, rfl⟩
  rw [← eσ9] at hM8
  replace h2 := h2 σ9 eσ9
  refine mr_aload C dL_end_16 (ml_at hl 4 rfl) ?_
  refine lv_iload_n hx hb dL_end_18 rfl (ml_at hl 0 rfl) ?_
  obtain ⟨j10, ej11, ej11b, h2⟩ := h2
  refine mr_iald C hM8 (mB_fix hM8 rfl (by decide) (by decide) (by decide)) ej11 ej11b (by decide) dL_end_19 ?_
  refine mr_istore (lv' := [(7, .int (mI σ9 4 j10)), (0, .int y0), (1, .int y1), (2, mV ad (some 1)), (3, mV ad (some 2)), (4, mV ad (some 4)), (5, mV ad (some 6)), (6, mV ad (some 0))]) C hl dL_end_20 (by decide) rfl (fun ls hl12 => ?_)
  clear hl
  refine lv_iload hx hb dL_end_22 (ml_at hl12 0 rfl) ?_
  obtain ⟨J105, hJ105, h2⟩ := h2
  have hj105 : ∀  (σ_105 : mS) (H : Heap) (locs : List Loc) (ls : Array Slot), J105  σ_105 → mM G kdL ad s σ_105 H locs → ml_has ls 10 [(0, .int y0), (1, .int y1), (2, mV ad (some 1)), (3, mV ad (some 2)), (4, mV ad (some 4)), (5, mV ad (some 6)), (6, mV ad (some 0))] → W p l e (mRm 1 24) s m ([.int y0, .int y1, mV ad (some 1), mV ad (some 2), mV ad (some 4), mV ad (some 6), mV ad (some 0)] : List Value).toArray below meth c H locs 0 0 (MQ below (va_Qv Q (mPost G kdL ad) (mA ad)) ([.int y0, .int y1, mV ad (some 1), mV ad (some 2), mV ad (some 4), mV ad (some 6), mV ad (some 0)] : List Value).toArray s 0 0 (mA ad)) (F0 m 105 ls []) := by
    intro  σ_105 H locs ls h_105 hM_105 hl_105
    replace h_105 := hJ105  σ_105 h_105
    refine mr_aload_n C dL_end_105 rfl (ml_at hl_105 3 rfl) ?_
    refine lv_iload_n hx hb dL_end_106 rfl (ml_at hl_105 0 rfl) ?_
    obtain ⟨j13, ej14, ej14b, h_105⟩ := h_105
    refine mr_iald C hM_105 (mB_fix hM_105 rfl (by decide) (by decide) (by decide)) ej14 ej14b (by decide) dL_end_107 ?_
    refine lv_bipush (v := 7) hx hb dL_end_108 (by decide) ?_
    refine lv_iand hx hb dL_end_110 ?_
    refine mr_istore (lv' := [(8, .int ((mI σ_105 2 j13) &&& (7 : Int32))), (0, .int y0), (1, .int y1), (2, mV ad (some 1)), (3, mV ad (some 2)), (4, mV ad (some 4)), (5, mV ad (some 6)), (6, mV ad (some 0))]) C hl_105 dL_end_111 (by decide) rfl (fun ls hl15 => ?_)
    clear hl_105
    refine lv_iload_n hx hb dL_end_113 rfl (ml_at hl15 2 rfl) ?_
    refine lv_iconst (v := 3) hx hb dL_end_114 (by decide) ?_
    refine lv_icmp_ne (tgt := 158) hx hb dL_end_115 (by decide) (fun hc16 => ?_) (fun hc16 => ?_)
    · replace h_105 := h_105.1 hc16
      refine lv_iload_n hx hb dL_end_158 rfl (ml_at hl15 1 rfl) ?_
      refine lv_iconst (v := 1) hx hb dL_end_159 (by decide) ?_
      refine lv_iadd hx hb dL_end_160 ?_
      refine mr_istore (lv' := [(9, .int (y0 + (1 : Int32))), (8, .int ((mI σ_105 2 j13) &&& (7 : Int32))), (0, .int y0), (1, .int y1), (2, mV ad (some 1)), (3, mV ad (some 2)), (4, mV ad (some 4)), (5, mV ad (some 6)), (6, mV ad (some 0))]) C hl15 dL_end_161 (by decide) rfl (fun ls hl17 => ?_)
      clear hl15
      obtain ⟨I163, hI163, nn163, h_105⟩ := h_105
      have hL163 : ∀ (n163 : Nat) (x9_163 : Int32) (σ_163 : mS) (H : Heap) (locs : List Loc) (ls : Array Slot), I163 n163 x9_163 σ_163 → mM G kdL ad s σ_163 H locs → ml_has ls 10 [(3, mV ad (some 2)), (4, mV ad (some 4)), (5, mV ad (some 6)), (6, mV ad (some 0)), (9, .int x9_163)] → W p l e (mRm 1 24) s m ([.int y0, .int y1, mV ad (some 1), mV ad (some 2), mV ad (some 4), mV ad (some 6), mV ad (some 0)] : List Value).toArray below meth c H locs 0 0 (MQ below (va_Qv Q (mPost G kdL ad) (mA ad)) ([.int y0, .int y1, mV ad (some 1), mV ad (some 2), mV ad (some 4), mV ad (some 6), mV ad (some 0)] : List Value).toArray s 0 0 (mA ad)) (F0 m 163 ls []) := by
        refine m_loop (fun n163 ih163 => ?_)
        intro x9_163 σ_163 H locs ls h_163 hM_163 hl_163
        replace h_163 := hI163 n163 x9_163 σ_163 h_163
        refine lv_iload hx hb dL_end_163 (ml_at hl_163 4 rfl) ?_
        refine mr_aload C dL_end_165 (ml_at hl_163 3 rfl) ?_
        refine lv_iconst (v := 1) hx hb dL_end_167 (by decide) ?_
        obtain ⟨j18, ej19, ej19b, h_163⟩ := h_163
        refine mr_iald C hM_163 (mB_fix hM_163 rfl (by decide) (by decide) (by decide)) ej19 ej19b (by decide) dL_end_168 ?_
        refine lv_icmp_ge (tgt := 235) hx hb dL_end_169 (by decide) (fun hc20 => ?_) (fun hc20 => ?_)
        · replace h_163 := h_163.1 hc20
          exact mr_vret C hM_163 hr hlk h_163 dL_end_235
        · replace h_163 := h_163.2 hc20
          refine mr_aload C dL_end_172 (ml_at hl_163 1 rfl) ?_
          refine lv_iload hx hb dL_end_174 (ml_at hl_163 4 rfl) ?_
          obtain ⟨j21, ej22, ej22b, h_163⟩ := h_163
          refine mr_iald C hM_163 (mB_fix hM_163 rfl (by decide) (by decide) (by decide)) ej22 ej22b (by decide) dL_end_176 ?_
          refine lv_if_lt (tgt := 229) hx hb dL_end_177 (by decide) (fun hc23 => ?_) (fun hc23 => ?_)
          · replace h_163 := h_163.1 hc23
            refine mr_iinc (v := (x9_163 + 1)) (lv' := [(9, .int (x9_163 + 1)), (3, mV ad (some 2)), (4, mV ad (some 4)), (5, mV ad (some 6)), (6, mV ad (some 0))]) C hl_163 dL_end_229 (k := 4) rfl rfl (by decide) rfl (fun ls hl24 => ?_)
            clear hl_163
            refine lv_goto (tgt := 163) hx hb dL_end_232 (by decide) ?_
            obtain ⟨k25, hk25, h_163⟩ := h_163
            exact ih163 k25 hk25 (x9_163 + 1) σ_163 _ _ _ h_163 hM_163 (ml_sub hl24 [1, 2, 3, 4, 0] rfl)
          · replace h_163 := h_163.2 hc23
            refine mr_aload_n C dL_end_180 rfl (ml_at hl_163 0 rfl) ?_
            refine lv_iload hx hb dL_end_181 (ml_at hl_163 4 rfl) ?_
            refine lv_iconst (v := 3) hx hb dL_end_183 (by decide) ?_
            refine lv_iconst (v := 3) hx hb dL_end_184 (by decide) ?_
            refine mr_ci hM_163 (mr_runS (As := [mV ad (some 2), .int x9_163, .int (3 : Int32), .int (3 : Int32)]) C hM_163 hl_163.1.1 (c_L_get l G ad x9_163 (3 : Int32) (3 : Int32) σ_163 _ h_163) cw_L_59 (n := 4) ⟨rfl, by decide, by decide, by decide +kernel⟩ rfl rfl ⟨Nat.le_of_ble_eq_true rfl, Nat.le_of_ble_eq_true rfl⟩ m_c0 (Nat.le_of_ble_eq_true rfl) dL_end_185 ⟨Nat.zero_le _, Nat.zero_le _⟩) (fun x29 σ26 H locs h27 hM28 => ?_)
            clear h_163 hM_163
            refine lv_iconst (v := 2) hx hb dL_end_188 (by decide) ?_
            refine lv_icmp_gt (tgt := 229) hx hb dL_end_189 (by decide) (fun hc30 => ?_) (fun hc30 => ?_)
            · replace h27 := h27.1 hc30
              refine mr_iinc (v := (x9_163 + 1)) (lv' := [(9, .int (x9_163 + 1)), (3, mV ad (some 2)), (4, mV ad (some 4)), (5, mV ad (some 6)), (6, mV ad (some 0))]) C hl_163 dL_end_229 (k := 4) rfl rfl (by decide) rfl (fun ls hl31 => ?_)
              clear hl_163
              refine lv_goto (tgt := 163) hx hb dL_end_232 (by decide) ?_
              obtain ⟨k32, hk32, h27⟩ := h27
              exact ih163 k32 hk32 (x9_163 + 1) σ26 _ _ _ h27 hM28 (ml_sub hl31 [1, 2, 3, 4, 0] rfl)
            · replace h27 := h27.2 hc30
              refine mr_aload_n C dL_end_192 rfl (ml_at hl_163 0 rfl) ?_
              refine mr_aload C dL_end_193 (ml_at hl_163 1 rfl) ?_
              refine lv_iload hx hb dL_end_195 (ml_at hl_163 4 rfl) ?_
              obtain ⟨j33, ej34, ej34b, h27⟩ := h27
              refine mr_iald C hM28 (mB_fix hM28 rfl (by decide) (by decide) (by decide)) ej34 ej34b (by decide) dL_end_197 ?_
              refine lv_iconst (v := 3) hx hb dL_end_198 (by decide) ?_
              refine lv_iconst (v := 3) hx hb dL_end_199 (by decide) ?_
              refine mr_ci hM28 (mr_runS (As := [mV ad (some 2), .int (mI σ26 4 j33), .int (3 : Int32), .int (3 : Int32)]) C hM28 hl_163.1.1 (c_L_get l G ad (mI σ26 4 j33) (3 : Int32) (3 : Int32) σ26 _ h27) cw_L_59 (n := 4) ⟨rfl, by decide, by decide, by decide +kernel⟩ rfl rfl ⟨Nat.le_of_ble_eq_true rfl, Nat.le_of_ble_eq_true rfl⟩ m_c0 (Nat.le_of_ble_eq_true rfl) dL_end_200 ⟨Nat.zero_le _, Nat.zero_le _⟩) (fun x38 σ35 H locs h36 hM37 => ?_)
              clear h27 hM28
              refine lv_iconst (v := 3) hx hb dL_end_203 (by decide) ?_
              refine lv_icmp_ge (tgt := 210) hx hb dL_end_204 (by decide) (fun hc39 => ?_) (fun hc39 => ?_)
              · replace h36 := h36.1 hc39
                refine mr_aload_n C dL_end_210 rfl (ml_at hl_163 0 rfl) ?_
                refine lv_iload hx hb dL_end_211 (ml_at hl_163 4 rfl) ?_
                refine lv_iconst (v := 3) hx hb dL_end_213 (by decide) ?_
                refine lv_iconst (v := 3) hx hb dL_end_214 (by decide) ?_
                refine lv_bipush (v := 7) hx hb dL_end_215 (by decide) ?_
                refine mr_cv hM37 (mr_runS (As := [mV ad (some 2), .int x9_163, .int (3 : Int32), .int (3 : Int32), .int (7 : Int32)]) C hM37 hl_163.1.1 (c_L_put l G ad x9_163 (3 : Int32) (3 : Int32) (7 : Int32) σ35 _ h36) cw_L_53 (n := 5) ⟨rfl, by decide, by decide, by decide +kernel⟩ rfl rfl ⟨Nat.le_of_ble_eq_true rfl, Nat.le_of_ble_eq_true rfl⟩ m_c0 (Nat.le_of_ble_eq_true rfl) dL_end_217 ⟨Nat.zero_le _, Nat.zero_le _⟩) (fun σ40 H locs h41 hM42 => ?_)
                clear h36 hM37
                refine mr_aload C dL_end_220 (ml_at hl_163 2 rfl) ?_
                refine lv_iload hx hb dL_end_222 (ml_at hl_163 4 rfl) ?_
                refine mr_aload C dL_end_224 (ml_at hl_163 3 rfl) ?_
                refine lv_iconst (v := 0) hx hb dL_end_226 (by decide) ?_
                obtain ⟨j43, ej44, ej44b, h41⟩ := h41
                refine mr_iald C hM42 (mB_fix hM42 rfl (by decide) (by decide) (by decide)) ej44 ej44b (by decide) dL_end_227 ?_
                obtain ⟨j45, ej46, ej46b, h41⟩ := h41
                refine mr_iast C hM42 (mB_fix hM42 rfl (by decide) (by decide) (by decide)) ej46 ej46b (by decide) dL_end_228 (fun H locs hM47 => ?_)
                clear hM42
                obtain ⟨σ48, eσ48⟩ : ∃ y, y = sI σ40 6 j45 (mI σ40 0 j43) := ⟨_, rfl⟩
                rw [← eσ48] at hM47
                replace h41 := h41 σ48 eσ48
                refine mr_iinc (v := (x9_163 + 1)) (lv' := [(9, .int (x9_163 + 1)), (3, mV ad (some 2)), (4, mV ad (some 4)), (5, mV ad (some 6)), (6, mV ad (some 0))]) C hl_163 dL_end_229 (k := 4) rfl rfl (by decide) rfl (fun ls hl49 => ?_)
                clear hl_163
                refine lv_goto (tgt := 163) hx hb dL_end_232 (by decide) ?_
                obtain ⟨k50, hk50, h41⟩ := h41
                exact ih163 k50 hk50 (x9_163 + 1) σ48 _ _ _ h41 hM47 (ml_sub hl49 [1, 2, 3, 4, 0] rfl)
              · replace h36 := h36.2 hc39
                refine lv_goto (tgt := 229) hx hb dL_end_207 (by decide) ?_
                refine mr_iinc (v := (x9_163 + 1)) (lv' := [(9, .int (x9_163 + 1)), (3, mV ad (some 2)), (4, mV ad (some 4)), (5, mV ad (some 6)), (6, mV ad (some 0))]) C hl_163 dL_end_229 (k := 4) rfl rfl (by decide) rfl (fun ls hl51 => ?_)
                clear hl_163
                refine lv_goto (tgt := 163) hx hb dL_end_232 (by decide) ?_
                obtain ⟨k52, hk52, h36⟩ := h36
                exact ih163 k52 hk52 (x9_163 + 1) σ35 _ _ _ h36 hM37 (ml_sub hl51 [1, 2, 3, 4, 0] rfl)
      exact hL163 nn163 (y0 + (1 : Int32)) σ_105 _ _ _ h_105 hM_105 (ml_sub hl17 [5, 6, 7, 8, 0] rfl)
    · replace h_105 := h_105.2 hc16
      refine mr_aload_n C dL_end_118 rfl (ml_at hl15 3 rfl) ?_
      refine lv_bipush (v := 10) hx hb dL_end_119 (by decide) ?_
      refine lv_iload hx hb dL_end_121 (ml_at hl15 0 rfl) ?_
      refine lv_imul hx hb dL_end_123 ?_
      refine lv_bipush (v := 7) hx hb dL_end_124 (by decide) ?_
      refine lv_iadd hx hb dL_end_126 ?_
      obtain ⟨j53, ej54, ej54b, h_105⟩ := h_105
      refine mr_iald C hM_105 (mB_fix hM_105 rfl (by decide) (by decide) (by decide)) ej54 ej54b (by decide) dL_end_127 ?_
      refine lv_bipush (v := 50) hx hb dL_end_128 (by decide) ?_
      obtain ⟨J147, hJ147, h_105⟩ := h_105
      have hj147 : ∀  (σ_147 : mS) (H : Heap) (locs : List Loc) (ls : Array Slot), J147  σ_147 → mM G kdL ad s σ_147 H locs → ml_has ls 10 [(0, .int y0), (2, mV ad (some 1)), (3, mV ad (some 2)), (4, mV ad (some 4)), (5, mV ad (some 6)), (6, mV ad (some 0)), (8, .int ((mI σ_105 2 j13) &&& (7 : Int32)))] → W p l e (mRm 1 24) s m ([.int y0, .int y1, mV ad (some 1), mV ad (some 2), mV ad (some 4), mV ad (some 6), mV ad (some 0)] : List Value).toArray below meth c H locs 0 0 (MQ below (va_Qv Q (mPost G kdL ad) (mA ad)) ([.int y0, .int y1, mV ad (some 1), mV ad (some 2), mV ad (some 4), mV ad (some 6), mV ad (some 0)] : List Value).toArray s 0 0 (mA ad)) (F0 m 147 ls []) := by
        intro  σ_147 H locs ls h_147 hM_147 hl_147
        replace h_147 := hJ147  σ_147 h_147
        refine mr_aload_n C dL_end_147 rfl (ml_at hl_147 1 rfl) ?_
        refine lv_bipush (v := 10) hx hb dL_end_148 (by decide) ?_
        refine lv_iload hx hb dL_end_150 (ml_at hl_147 6 rfl) ?_
        refine lv_imul hx hb dL_end_152 ?_
        refine lv_bipush (v := 8) hx hb dL_end_153 (by decide) ?_
        refine lv_iadd hx hb dL_end_155 ?_
        refine lv_iconst (v := 0) hx hb dL_end_156 (by decide) ?_
        obtain ⟨j55, ej56, ej56b, h_147⟩ := h_147
        refine mr_iast C hM_147 (mB_fix hM_147 rfl (by decide) (by decide) (by decide)) ej56 ej56b (by decide) dL_end_157 (fun H locs hM57 => ?_)
        clear hM_147
        obtain ⟨σ58, eσ58⟩ : ∃ y, y = sI σ_147 1 j55 (0 : Int32) := ⟨_, rfl⟩
        rw [← eσ58] at hM57
        replace h_147 := h_147 σ58 eσ58
        refine lv_iload_n hx hb dL_end_158 rfl (ml_at hl_147 0 rfl) ?_
        refine lv_iconst (v := 1) hx hb dL_end_159 (by decide) ?_
        refine lv_iadd hx hb dL_end_160 ?_
        refine mr_istore (lv' := [(9, .int (y0 + (1 : Int32))), (0, .int y0), (2, mV ad (some 1)), (3, mV ad (some 2)), (4, mV ad (some 4)), (5, mV ad (some 6)), (6, mV ad (some 0)), (8, .int ((mI σ_105 2 j13) &&& (7 : Int32)))]) C hl_147 dL_end_161 (by decide) rfl (fun ls hl59 => ?_)
        clear hl_147
        obtain ⟨I163, hI163, nn163, h_147⟩ := h_147
        have hL163 : ∀ (n163 : Nat) (x9_163 : Int32) (σ_163 : mS) (H : Heap) (locs : List Loc) (ls : Array Slot), I163 n163 x9_163 σ_163 → mM G kdL ad s σ_163 H locs → ml_has ls 10 [(3, mV ad (some 2)), (4, mV ad (some 4)), (5, mV ad (some 6)), (6, mV ad (some 0)), (9, .int x9_163)] → W p l e (mRm 1 24) s m ([.int y0, .int y1, mV ad (some 1), mV ad (some 2), mV ad (some 4), mV ad (some 6), mV ad (some 0)] : List Value).toArray below meth c H locs 0 0 (MQ below (va_Qv Q (mPost G kdL ad) (mA ad)) ([.int y0, .int y1, mV ad (some 1), mV ad (some 2), mV ad (some 4), mV ad (some 6), mV ad (some 0)] : List Value).toArray s 0 0 (mA ad)) (F0 m 163 ls []) := by
          refine m_loop (fun n163 ih163 => ?_)
          intro x9_163 σ_163 H locs ls h_163 hM_163 hl_163
          replace h_163 := hI163 n163 x9_163 σ_163 h_163
          refine lv_iload hx hb dL_end_163 (ml_at hl_163 4 rfl) ?_
          refine mr_aload C dL_end_165 (ml_at hl_163 3 rfl) ?_
          refine lv_iconst (v := 1) hx hb dL_end_167 (by decide) ?_
          obtain ⟨j60, ej61, ej61b, h_163⟩ := h_163
          refine mr_iald C hM_163 (mB_fix hM_163 rfl (by decide) (by decide) (by decide)) ej61 ej61b (by decide) dL_end_168 ?_
          refine lv_icmp_ge (tgt := 235) hx hb dL_end_169 (by decide) (fun hc62 => ?_) (fun hc62 => ?_)
          · replace h_163 := h_163.1 hc62
            exact mr_vret C hM_163 hr hlk h_163 dL_end_235
          · replace h_163 := h_163.2 hc62
            refine mr_aload C dL_end_172 (ml_at hl_163 1 rfl) ?_
            refine lv_iload hx hb dL_end_174 (ml_at hl_163 4 rfl) ?_
            obtain ⟨j63, ej64, ej64b, h_163⟩ := h_163
            refine mr_iald C hM_163 (mB_fix hM_163 rfl (by decide) (by decide) (by decide)) ej64 ej64b (by decide) dL_end_176 ?_
            refine lv_if_lt (tgt := 229) hx hb dL_end_177 (by decide) (fun hc65 => ?_) (fun hc65 => ?_)
            · replace h_163 := h_163.1 hc65
              refine mr_iinc (v := (x9_163 + 1)) (lv' := [(9, .int (x9_163 + 1)), (3, mV ad (some 2)), (4, mV ad (some 4)), (5, mV ad (some 6)), (6, mV ad (some 0))]) C hl_163 dL_end_229 (k := 4) rfl rfl (by decide) rfl (fun ls hl66 => ?_)
              clear hl_163
              refine lv_goto (tgt := 163) hx hb dL_end_232 (by decide) ?_
              obtain ⟨k67, hk67, h_163⟩ := h_163
              exact ih163 k67 hk67 (x9_163 + 1) σ_163 _ _ _ h_163 hM_163 (ml_sub hl66 [1, 2, 3, 4, 0] rfl)
            · replace h_163 := h_163.2 hc65
              refine mr_aload_n C dL_end_180 rfl (ml_at hl_163 0 rfl) ?_
              refine lv_iload hx hb dL_end_181 (ml_at hl_163 4 rfl) ?_
              refine lv_iconst (v := 3) hx hb dL_end_183 (by decide) ?_
              refine lv_iconst (v := 3) hx hb dL_end_184 (by decide) ?_
              refine mr_ci hM_163 (mr_runS (As := [mV ad (some 2), .int x9_163, .int (3 : Int32), .int (3 : Int32)]) C hM_163 hl_163.1.1 (c_L_get l G ad x9_163 (3 : Int32) (3 : Int32) σ_163 _ h_163) cw_L_59 (n := 4) ⟨rfl, by decide, by decide, by decide +kernel⟩ rfl rfl ⟨Nat.le_of_ble_eq_true rfl, Nat.le_of_ble_eq_true rfl⟩ m_c0 (Nat.le_of_ble_eq_true rfl) dL_end_185 ⟨Nat.zero_le _, Nat.zero_le _⟩) (fun x71 σ68 H locs h69 hM70 => ?_)
              clear h_163 hM_163
              refine lv_iconst (v := 2) hx hb dL_end_188 (by decide) ?_
              refine lv_icmp_gt (tgt := 229) hx hb dL_end_189 (by decide) (fun hc72 => ?_) (fun hc72 => ?_)
              · replace h69 := h69.1 hc72
                refine mr_iinc (v := (x9_163 + 1)) (lv' := [(9, .int (x9_163 + 1)), (3, mV ad (some 2)), (4, mV ad (some 4)), (5, mV ad (some 6)), (6, mV ad (some 0))]) C hl_163 dL_end_229 (k := 4) rfl rfl (by decide) rfl (fun ls hl73 => ?_)
                clear hl_163
                refine lv_goto (tgt := 163) hx hb dL_end_232 (by decide) ?_
                obtain ⟨k74, hk74, h69⟩ := h69
                exact ih163 k74 hk74 (x9_163 + 1) σ68 _ _ _ h69 hM70 (ml_sub hl73 [1, 2, 3, 4, 0] rfl)
              · replace h69 := h69.2 hc72
                refine mr_aload_n C dL_end_192 rfl (ml_at hl_163 0 rfl) ?_
                refine mr_aload C dL_end_193 (ml_at hl_163 1 rfl) ?_
                refine lv_iload hx hb dL_end_195 (ml_at hl_163 4 rfl) ?_
                obtain ⟨j75, ej76, ej76b, h69⟩ := h69
                refine mr_iald C hM70 (mB_fix hM70 rfl (by decide) (by decide) (by decide)) ej76 ej76b (by decide) dL_end_197 ?_
                refine lv_iconst (v := 3) hx hb dL_end_198 (by decide) ?_
                refine lv_iconst (v := 3) hx hb dL_end_199 (by decide) ?_
                refine mr_ci hM70 (mr_runS (As := [mV ad (some 2), .int (mI σ68 4 j75), .int (3 : Int32), .int (3 : Int32)]) C hM70 hl_163.1.1 (c_L_get l G ad (mI σ68 4 j75) (3 : Int32) (3 : Int32) σ68 _ h69) cw_L_59 (n := 4) ⟨rfl, by decide, by decide, by decide +kernel⟩ rfl rfl ⟨Nat.le_of_ble_eq_true rfl, Nat.le_of_ble_eq_true rfl⟩ m_c0 (Nat.le_of_ble_eq_true rfl) dL_end_200 ⟨Nat.zero_le _, Nat.zero_le _⟩) (fun x80 σ77 H locs h78 hM79 => ?_)
                clear h69 hM70
                refine lv_iconst (v := 3) hx hb dL_end_203 (by decide) ?_
                refine lv_icmp_ge (tgt := 210) hx hb dL_end_204 (by decide) (fun hc81 => ?_) (fun hc81 => ?_)
                · replace h78 := h78.1 hc81
                  refine mr_aload_n C dL_end_210 rfl (ml_at hl_163 0 rfl) ?_
                  refine lv_iload hx hb dL_end_211 (ml_at hl_163 4 rfl) ?_
                  refine lv_iconst (v := 3) hx hb dL_end_213 (by decide) ?_
                  refine lv_iconst (v := 3) hx hb dL_end_214 (by decide) ?_
                  refine lv_bipush (v := 7) hx hb dL_end_215 (by decide) ?_
                  refine mr_cv hM79 (mr_runS (As := [mV ad (some 2), .int x9_163, .int (3 : Int32), .int (3 : Int32), .int (7 : Int32)]) C hM79 hl_163.1.1 (c_L_put l G ad x9_163 (3 : Int32) (3 : Int32) (7 : Int32) σ77 _ h78) cw_L_53 (n := 5) ⟨rfl, by decide, by decide, by decide +kernel⟩ rfl rfl ⟨Nat.le_of_ble_eq_true rfl, Nat.le_of_ble_eq_true rfl⟩ m_c0 (Nat.le_of_ble_eq_true rfl) dL_end_217 ⟨Nat.zero_le _, Nat.zero_le _⟩) (fun σ82 H locs h83 hM84 => ?_)
                  clear h78 hM79
                  refine mr_aload C dL_end_220 (ml_at hl_163 2 rfl) ?_
                  refine lv_iload hx hb dL_end_222 (ml_at hl_163 4 rfl) ?_
                  refine mr_aload C dL_end_224 (ml_at hl_163 3 rfl) ?_
                  refine lv_iconst (v := 0) hx hb dL_end_226 (by decide) ?_
                  obtain ⟨j85, ej86, ej86b, h83⟩ := h83
                  refine mr_iald C hM84 (mB_fix hM84 rfl (by decide) (by decide) (by decide)) ej86 ej86b (by decide) dL_end_227 ?_
                  obtain ⟨j87, ej88, ej88b, h83⟩ := h83
                  refine mr_iast C hM84 (mB_fix hM84 rfl (by decide) (by decide) (by decide)) ej88 ej88b (by decide) dL_end_228 (fun H locs hM89 => ?_)
                  clear hM84
                  obtain ⟨σ90, eσ90⟩ : ∃ y, y = sI σ82 6 j87 (mI σ82 0 j85) := ⟨_, rfl⟩
                  rw [← eσ90] at hM89
                  replace h83 := h83 σ90 eσ90
                  refine mr_iinc (v := (x9_163 + 1)) (lv' := [(9, .int (x9_163 + 1)), (3, mV ad (some 2)), (4, mV ad (some 4)), (5, mV ad (some 6)), (6, mV ad (some 0))]) C hl_163 dL_end_229 (k := 4) rfl rfl (by decide) rfl (fun ls hl91 => ?_)
                  clear hl_163
                  refine lv_goto (tgt := 163) hx hb dL_end_232 (by decide) ?_
                  obtain ⟨k92, hk92, h83⟩ := h83
                  exact ih163 k92 hk92 (x9_163 + 1) σ90 _ _ _ h83 hM89 (ml_sub hl91 [1, 2, 3, 4, 0] rfl)
                · replace h78 := h78.2 hc81
                  refine lv_goto (tgt := 229) hx hb dL_end_207 (by decide) ?_
                  refine mr_iinc (v := (x9_163 + 1)) (lv' := [(9, .int (x9_163 + 1)), (3, mV ad (some 2)), (4, mV ad (some 4)), (5, mV ad (some 6)), (6, mV ad (some 0))]) C hl_163 dL_end_229 (k := 4) rfl rfl (by decide) rfl (fun ls hl93 => ?_)
                  clear hl_163
                  refine lv_goto (tgt := 163) hx hb dL_end_232 (by decide) ?_
                  obtain ⟨k94, hk94, h78⟩ := h78
                  exact ih163 k94 hk94 (x9_163 + 1) σ77 _ _ _ h78 hM79 (ml_sub hl93 [1, 2, 3, 4, 0] rfl)
        exact hL163 nn163 (y0 + (1 : Int32)) σ58 _ _ _ h_147 hM57 (ml_sub hl59 [3, 4, 5, 6, 0] rfl)
      refine lv_icmp_ge (tgt := 147) hx hb dL_end_130 (by decide) (fun hc95 => ?_) (fun hc95 => ?_)
      · replace h_105 := h_105.1 hc95
        exact hj147  σ_105 _ _ _ h_105 hM_105 (ml_sub hl15 [1, 3, 4, 5, 6, 7, 0] rfl)
      · replace h_105 := h_105.2 hc95
        refine mr_aload_n C dL_end_133 rfl (ml_at hl15 3 rfl) ?_
        refine lv_bipush (v := 10) hx hb dL_end_134 (by decide) ?_
        refine lv_iload hx hb dL_end_136 (ml_at hl15 0 rfl) ?_
        refine lv_imul hx hb dL_end_138 ?_
        refine lv_bipush (v := 7) hx hb dL_end_139 (by decide) ?_
        refine lv_iadd hx hb dL_end_141 ?_
        refine lv_dup2_11 hx hb dL_end_142 rfl (mV_cat _ _) ?_
        obtain ⟨j96, ej97, ej97b, h_105⟩ := h_105
        refine mr_iald C hM_105 (mB_fix hM_105 rfl (by decide) (by decide) (by decide)) ej97 ej97b (by decide) dL_end_143 ?_
        refine lv_iconst (v := 1) hx hb dL_end_144 (by decide) ?_
        refine lv_iadd hx hb dL_end_145 ?_
        obtain ⟨j98, ej99, ej99b, h_105⟩ := h_105
        refine mr_iast C hM_105 (mB_fix hM_105 rfl (by decide) (by decide) (by decide)) ej99 ej99b (by decide) dL_end_146 (fun H locs hM100 => ?_)
        clear hM_105
        obtain ⟨σ101, eσ101⟩ : ∃ y, y = sI σ_105 1 j98 ((mI σ_105 1 j96) + (1 : Int32)) := ⟨_, rfl⟩
        rw [← eσ101] at hM100
        replace h_105 := h_105 σ101 eσ101
        exact hj147  σ101 _ _ _ h_105 hM100 (ml_sub hl15 [1, 3, 4, 5, 6, 7, 0] rfl)
  refine lv_if_ge (tgt := 38) hx hb dL_end_24 (by decide) (fun hc102 => ?_) (fun hc102 => ?_)
  · replace h2 := h2.1 hc102
    refine mr_aload_n C dL_end_38 rfl (ml_at hl12 4 rfl) ?_
    refine lv_iload hx hb dL_end_39 (ml_at hl12 0 rfl) ?_
    refine lv_iconst (v := 3) hx hb dL_end_41 (by decide) ?_
    refine lv_iconst (v := 3) hx hb dL_end_42 (by decide) ?_
    refine mr_ci hM8 (mr_runS (As := [mV ad (some 2), .int (mI σ9 4 j10), .int (3 : Int32), .int (3 : Int32)]) C hM8 hl12.1.1 (c_L_get l G ad (mI σ9 4 j10) (3 : Int32) (3 : Int32) σ9 _ h2) cw_L_59 (n := 4) ⟨rfl, by decide, by decide, by decide +kernel⟩ rfl rfl ⟨Nat.le_of_ble_eq_true rfl, Nat.le_of_ble_eq_true rfl⟩ m_c0 (Nat.le_of_ble_eq_true rfl) dL_end_43 ⟨Nat.zero_le _, Nat.zero_le _⟩) (fun x106 σ103 H locs h104 hM105 => ?_)
    clear h2 hM8
    refine lv_iconst (v := 2) hx hb dL_end_46 (by decide) ?_
    refine lv_icmp_ne (tgt := 105) hx hb dL_end_47 (by decide) (fun hc107 => ?_) (fun hc107 => ?_)
    · replace h104 := h104.1 hc107
      exact hj105  σ103 _ _ _ h104 hM105 (ml_sub hl12 [1, 2, 3, 4, 5, 6, 7] rfl)
    · replace h104 := h104.2 hc107
      refine mr_aload_n C dL_end_50 rfl (ml_at hl12 4 rfl) ?_
      refine lv_iload hx hb dL_end_51 (ml_at hl12 0 rfl) ?_
      refine lv_bipush (v := 6) hx hb dL_end_53 (by decide) ?_
      refine lv_iconst (v := 2) hx hb dL_end_55 (by decide) ?_
      refine mr_ci hM105 (mr_runS (As := [mV ad (some 2), .int (mI σ9 4 j10), .int (6 : Int32), .int (2 : Int32)]) C hM105 hl12.1.1 (c_L_get l G ad (mI σ9 4 j10) (6 : Int32) (2 : Int32) σ103 _ h104) cw_L_59 (n := 4) ⟨rfl, by decide, by decide, by decide +kernel⟩ rfl rfl ⟨Nat.le_of_ble_eq_true rfl, Nat.le_of_ble_eq_true rfl⟩ m_c0 (Nat.le_of_ble_eq_true rfl) dL_end_56 ⟨Nat.zero_le _, Nat.zero_le _⟩) (fun x111 σ108 H locs h109 hM110 => ?_)
      clear h104 hM105
      refine mr_aload_n C dL_end_59 rfl (ml_at hl12 4 rfl) ?_
      refine lv_iload_n hx hb dL_end_60 rfl (ml_at hl12 1 rfl) ?_
      refine lv_bipush (v := 18) hx hb dL_end_61 (by decide) ?_
      refine lv_iconst (v := 2) hx hb dL_end_63 (by decide) ?_
      refine mr_ci hM110 (mr_runS (As := [mV ad (some 2), .int y0, .int (18 : Int32), .int (2 : Int32)]) C hM110 hl12.1.1 (c_L_get l G ad y0 (18 : Int32) (2 : Int32) σ108 _ h109) cw_L_59 (n := 4) ⟨rfl, by decide, by decide, by decide +kernel⟩ rfl rfl ⟨Nat.le_of_ble_eq_true rfl, Nat.le_of_ble_eq_true rfl⟩ (m_cI m_c0) (Nat.le_of_ble_eq_true rfl) dL_end_64 ⟨Nat.zero_le _, Nat.zero_le _⟩) (fun x115 σ112 H locs h113 hM114 => ?_)
      clear h109 hM110
      refine lv_icmp_ne (tgt := 105) hx hb dL_end_67 (by decide) (fun hc116 => ?_) (fun hc116 => ?_)
      · replace h113 := h113.1 hc116
        exact hj105  σ112 _ _ _ h113 hM114 (ml_sub hl12 [1, 2, 3, 4, 5, 6, 7] rfl)
      · replace h113 := h113.2 hc116
        refine mr_aload_n C dL_end_70 rfl (ml_at hl12 4 rfl) ?_
        refine lv_iload hx hb dL_end_71 (ml_at hl12 0 rfl) ?_
        refine lv_bipush (v := 14) hx hb dL_end_73 (by decide) ?_
        refine lv_iconst (v := 3) hx hb dL_end_75 (by decide) ?_
        refine mr_aload_n C dL_end_76 rfl (ml_at hl12 4 rfl) ?_
        refine lv_iload hx hb dL_end_77 (ml_at hl12 0 rfl) ?_
        refine lv_bipush (v := 14) hx hb dL_end_79 (by decide) ?_
        refine lv_iconst (v := 3) hx hb dL_end_81 (by decide) ?_
        refine mr_ci hM114 (mr_runS (As := [mV ad (some 2), .int (mI σ9 4 j10), .int (14 : Int32), .int (3 : Int32)]) C hM114 hl12.1.1 (c_L_get l G ad (mI σ9 4 j10) (14 : Int32) (3 : Int32) σ112 _ h113) cw_L_59 (n := 4) ⟨rfl, by decide, by decide, by decide +kernel⟩ rfl rfl ⟨Nat.le_of_ble_eq_true rfl, Nat.le_of_ble_eq_true rfl⟩ (m_cI (m_cI (m_cI (m_cR m_c0)))) (Nat.le_of_ble_eq_true rfl) dL_end_82 ⟨Nat.zero_le _, Nat.zero_le _⟩) (fun x120 σ117 H locs h118 hM119 => ?_)
        clear h113 hM114
        refine lv_iconst (v := 1) hx hb dL_end_85 (by decide) ?_
        refine lv_isub hx hb dL_end_86 ?_
        refine mr_cv hM119 (mr_runS (As := [mV ad (some 2), .int (mI σ9 4 j10), .int (14 : Int32), .int (3 : Int32), .int (x120 - (1 : Int32))]) C hM119 hl12.1.1 (c_L_put l G ad (mI σ9 4 j10) (14 : Int32) (3 : Int32) (x120 - (1 : Int32)) σ117 _ h118) cw_L_53 (n := 5) ⟨rfl, by decide, by decide, by decide +kernel⟩ rfl rfl ⟨Nat.le_of_ble_eq_true rfl, Nat.le_of_ble_eq_true rfl⟩ m_c0 (Nat.le_of_ble_eq_true rfl) dL_end_87 ⟨Nat.zero_le _, Nat.zero_le _⟩) (fun σ121 H locs h122 hM123 => ?_)
        clear h118 hM119
        refine lv_iload_n hx hb dL_end_90 rfl (ml_at hl12 2 rfl) ?_
        refine lv_iconst (v := 3) hx hb dL_end_91 (by decide) ?_
        refine lv_icmp_ne (tgt := 105) hx hb dL_end_92 (by decide) (fun hc124 => ?_) (fun hc124 => ?_)
        · replace h122 := h122.1 hc124
          exact hj105  σ121 _ _ _ h122 hM123 (ml_sub hl12 [1, 2, 3, 4, 5, 6, 7] rfl)
        · replace h122 := h122.2 hc124
          refine mr_aload_n C dL_end_95 rfl (ml_at hl12 4 rfl) ?_
          refine lv_iload hx hb dL_end_96 (ml_at hl12 0 rfl) ?_
          refine lv_bipush (v := 17) hx hb dL_end_98 (by decide) ?_
          refine lv_iconst (v := 1) hx hb dL_end_100 (by decide) ?_
          refine lv_iconst (v := 1) hx hb dL_end_101 (by decide) ?_
          refine mr_cv hM123 (mr_runS (As := [mV ad (some 2), .int (mI σ9 4 j10), .int (17 : Int32), .int (1 : Int32), .int (1 : Int32)]) C hM123 hl12.1.1 (c_L_put l G ad (mI σ9 4 j10) (17 : Int32) (1 : Int32) (1 : Int32) σ121 _ h122) cw_L_53 (n := 5) ⟨rfl, by decide, by decide, by decide +kernel⟩ rfl rfl ⟨Nat.le_of_ble_eq_true rfl, Nat.le_of_ble_eq_true rfl⟩ m_c0 (Nat.le_of_ble_eq_true rfl) dL_end_102 ⟨Nat.zero_le _, Nat.zero_le _⟩) (fun σ125 H locs h126 hM127 => ?_)
          clear h122 hM123
          exact hj105  σ125 _ _ _ h126 hM127 (ml_sub hl12 [1, 2, 3, 4, 5, 6, 7] rfl)
  · replace h2 := h2.2 hc102
    refine mr_aload C dL_end_27 (ml_at hl12 7 rfl) ?_
    refine lv_iconst (v := 2) hx hb dL_end_29 (by decide) ?_
    refine lv_dup2_11 hx hb dL_end_30 rfl (mV_cat _ _) ?_
    obtain ⟨j128, ej129, ej129b, h2⟩ := h2
    refine mr_iald C hM8 (mB_fix hM8 rfl (by decide) (by decide) (by decide)) ej129 ej129b (by decide) dL_end_31 ?_
    refine lv_iconst (v := 1) hx hb dL_end_32 (by decide) ?_
    refine lv_iadd hx hb dL_end_33 ?_
    obtain ⟨j130, ej131, ej131b, h2⟩ := h2
    refine mr_iast C hM8 (mB_fix hM8 rfl (by decide) (by decide) (by decide)) ej131 ej131b (by decide) dL_end_34 (fun H locs hM132 => ?_)
    clear hM8
    obtain ⟨σ133, eσ133⟩ : ∃ y, y = sI σ9 0 j130 ((mI σ9 0 j128) + (1 : Int32)) := ⟨_, rfl⟩
    rw [← eσ133] at hM132
    replace h2 := h2 σ133 eσ133
    refine lv_goto (tgt := 105) hx hb dL_end_35 (by decide) ?_
    exact hj105  σ133 _ _ _ h2 hM132 (ml_sub hl12 [1, 2, 3, 4, 5, 6, 7] rfl)
def w_L_fault (y0 : Int32) (σ0 : mS) (Q : mS → Prop) : Prop := (∃ j1, (((10 : Int32) * y0) + (8 : Int32)) = nI j1 ∧ (j1 < 60 ∧ (∃ j3, (((10 : Int32) * y0) + (8 : Int32)) = nI j3 ∧ (j3 < 60 ∧ (∀ σ6, σ6 = sI σ0 1 j3 ((mI σ0 1 j1) + (1 : Int32)) → (∃ j7, (((10 : Int32) * y0) + (8 : Int32)) = nI j7 ∧ (j7 < 60 ∧ (((3 : Int32) ≤ (mI σ6 1 j7) → (∃ j10, (((10 : Int32) * y0) + (8 : Int32)) = nI j10 ∧ (j10 < 60 ∧ (∀ σ13, σ13 = sI σ6 1 j10 (0 : Int32) → (∃ j14, (0 : Int32) = nI j14 ∧ (j14 < 3 ∧ (∃ j16, (((10 : Int32) * y0) + (9 : Int32)) = nI j16 ∧ (j16 < 60 ∧ (∀ σ19, σ19 = sI σ13 1 j16 ((mI σ13 0 j14) + (20 : Int32)) → (Q σ19)))))))))) ∧ (¬ (3 : Int32) ≤ (mI σ6 1 j7) → (Q σ6))))))))))
set_option maxRecDepth 100000 in
set_option maxHeartbeats 4000000 in
theorem c_L_fault (l : Launch) (G : mG) (ad : Nat → Nat) (y0 : Int32) (σ0 : mS) (Q : mS → Prop) (h : w_L_fault y0 σ0 Q) : mKv l yL_fault cL_fault 3 0 0 G kdL ad σ0 [.int y0, mV ad (some 1), mV ad (some 0)] Q := by
  refine mr_start (lst := [(0, .int y0), (1, mV ad (some 1)), (2, mV ad (some 0))]) (by decide) (m_cI (m_cR (m_cR m_c0))) rfl (Nat.le_of_ble_eq_true rfl) (fun p e s m below meth c C hM hr hlk ls hl => ?_)
  have hx := C.1.1
  have hb := C.1.2.1
  unfold w_L_fault at h
  refine mr_aload_n C dL_fault_0 rfl (ml_at hl 1 rfl) ?_
  refine lv_bipush (v := 10) hx hb dL_fault_1 (by decide) ?_
  refine lv_iload_n hx hb dL_fault_3 rfl (ml_at hl 0 rfl) ?_
  refine lv_imul hx hb dL_fault_4 ?_
  refine lv_bipush (v := 8) hx hb dL_fault_5 (by decide) ?_
  refine lv_iadd hx hb dL_fault_7 ?_
  refine lv_dup2_11 hx hb dL_fault_8 rfl (mV_cat _ _) ?_
  obtain ⟨j1, ej2, ej2b, h⟩ := h
  refine mr_iald C hM (mB_fix hM rfl (by decide) (by decide) (by decide)) ej2 ej2b (by decide) dL_fault_9 ?_
  refine lv_iconst (v := 1) hx hb dL_fault_10 (by decide) ?_
  refine lv_iadd hx hb dL_fault_11 ?_
  obtain ⟨j3, ej4, ej4b, h⟩ := h
  refine mr_iast C hM (mB_fix hM rfl (by decide) (by decide) (by decide)) ej4 ej4b (by decide) dL_fault_12 (fun H locs hM5 => ?_)
  clear hM
  obtain ⟨σ6, eσ6⟩ : ∃ y, y = sI σ0 1 j3 ((mI σ0 1 j1) + (1 : Int32)) := ⟨_, rfl⟩
  rw [← eσ6] at hM5
  replace h := h σ6 eσ6
  refine mr_aload_n C dL_fault_13 rfl (ml_at hl 1 rfl) ?_
  refine lv_bipush (v := 10) hx hb dL_fault_14 (by decide) ?_
  refine lv_iload_n hx hb dL_fault_16 rfl (ml_at hl 0 rfl) ?_
  refine lv_imul hx hb dL_fault_17 ?_
  refine lv_bipush (v := 8) hx hb dL_fault_18 (by decide) ?_
  refine lv_iadd hx hb dL_fault_20 ?_
  obtain ⟨j7, ej8, ej8b, h⟩ := h
  refine mr_iald C hM5 (mB_fix hM5 rfl (by decide) (by decide) (by decide)) ej8 ej8b (by decide) dL_fault_21 ?_
  refine lv_iconst (v := 3) hx hb dL_fault_22 (by decide) ?_
  refine lv_icmp_ge (tgt := 27) hx hb dL_fault_23 (by decide) (fun hc9 => ?_) (fun hc9 => ?_)
  · replace h := h.1 hc9
    refine mr_aload_n C dL_fault_27 rfl (ml_at hl 1 rfl) ?_
    refine lv_bipush (v := 10) hx hb dL_fault_28 (by decide) ?_
    refine lv_iload_n hx hb dL_fault_30 rfl (ml_at hl 0 rfl) ?_
    refine lv_imul hx hb dL_fault_31 ?_
    refine lv_bipush (v := 8) hx hb dL_fault_32 (by decide) ?_
    refine lv_iadd hx hb dL_fault_34 ?_
    refine lv_iconst (v := 0) hx hb dL_fault_35 (by decide) ?_
    obtain ⟨j10, ej11, ej11b, h⟩ := h
    refine mr_iast C hM5 (mB_fix hM5 rfl (by decide) (by decide) (by decide)) ej11 ej11b (by decide) dL_fault_36 (fun H locs hM12 => ?_)
    clear hM5
    obtain ⟨σ13, eσ13⟩ : ∃ y, y = sI σ6 1 j10 (0 : Int32) := ⟨_, rfl⟩
    rw [← eσ13] at hM12
    replace h := h σ13 eσ13
    refine mr_aload_n C dL_fault_37 rfl (ml_at hl 1 rfl) ?_
    refine lv_bipush (v := 10) hx hb dL_fault_38 (by decide) ?_
    refine lv_iload_n hx hb dL_fault_40 rfl (ml_at hl 0 rfl) ?_
    refine lv_imul hx hb dL_fault_41 ?_
    refine lv_bipush (v := 9) hx hb dL_fault_42 (by decide) ?_
    refine lv_iadd hx hb dL_fault_44 ?_
    refine mr_aload_n C dL_fault_45 rfl (ml_at hl 2 rfl) ?_
    refine lv_iconst (v := 0) hx hb dL_fault_46 (by decide) ?_
    obtain ⟨j14, ej15, ej15b, h⟩ := h
    refine mr_iald C hM12 (mB_fix hM12 rfl (by decide) (by decide) (by decide)) ej15 ej15b (by decide) dL_fault_47 ?_
    refine lv_bipush (v := 20) hx hb dL_fault_48 (by decide) ?_
    refine lv_iadd hx hb dL_fault_50 ?_
    obtain ⟨j16, ej17, ej17b, h⟩ := h
    refine mr_iast C hM12 (mB_fix hM12 rfl (by decide) (by decide) (by decide)) ej17 ej17b (by decide) dL_fault_51 (fun H locs hM18 => ?_)
    clear hM12
    obtain ⟨σ19, eσ19⟩ : ∃ y, y = sI σ13 1 j16 ((mI σ13 0 j14) + (20 : Int32)) := ⟨_, rfl⟩
    rw [← eσ19] at hM18
    replace h := h σ19 eσ19
    exact mr_vret C hM18 hr hlk h dL_fault_52
  · replace h := h.2 hc9
    exact mr_vret C hM5 hr hlk h dL_fault_26
def w_L_below (y3 : Int32) (σ0 : mS) (Q : Int32 → mS → Prop) : Prop := (∃ I8 : Nat → Int32 → Int32 → mS → Prop, (∀ (n8 : Nat) (x4_8 : Int32) (x5_8 : Int32) (σ_8 : mS), I8 n8 x4_8 x5_8 σ_8 → (∃ j3, (1 : Int32) = nI j3 ∧ (j3 < 3 ∧ (((mI σ_8 0 j3) ≤ x5_8 → (Q x4_8 σ_8)) ∧ (¬ (mI σ_8 0 j3) ≤ x5_8 → (∃ j6, x5_8 = nI j6 ∧ (j6 < 60 ∧ (∃ I22 : Nat → Int32 → mS → Prop, (∀ (n22 : Nat) (x6_22 : Int32) (σ_22 : mS), I22 n22 x6_22 σ_22 → ((x6_22 ≤ y3 → ((¬ x6_22 = y3 → (∃ k13, k13 < n8 ∧ I8 k13 (x4_8 + (0 : Int32)) (x5_8 + 1) σ_22)) ∧ (x6_22 = y3 → w_L_get x5_8 (3 : Int32) (3 : Int32) σ_22 (fun x17 σ14 => (((3 : Int32) ≤ x17 → (∃ k21, k21 < n8 ∧ I8 k21 (x4_8 + (0 : Int32)) (x5_8 + 1) σ14)) ∧ (¬ (3 : Int32) ≤ x17 → (∃ k24, k24 < n8 ∧ I8 k24 (x4_8 + (1 : Int32)) (x5_8 + 1) σ14))))))) ∧ (¬ x6_22 ≤ y3 → (∃ j25, x6_22 = nI j25 ∧ (j25 < 60 ∧ (∃ k28, k28 < n22 ∧ I22 k28 (mI σ_22 4 j25) σ_22)))))) ∧ ∃ n, I22 n (mI σ_8 4 j6) σ_8)))))))) ∧ ∃ n, I8 n (0 : Int32) (y3 + (1 : Int32)) σ0)
set_option maxRecDepth 100000 in
set_option maxHeartbeats 4000000 in
theorem c_L_below (l : Launch) (G : mG) (ad : Nat → Nat) (y3 : Int32) (σ0 : mS) (Q : Int32 → mS → Prop) (h : w_L_below y3 σ0 Q) : mKi l yL_below cL_below 7 1 23 G kdL ad σ0 [mV ad (some 2), mV ad (some 4), mV ad (some 0), .int y3] Q := by
  refine mr_start (lst := [(0, mV ad (some 2)), (1, mV ad (some 4)), (2, mV ad (some 0)), (3, .int y3)]) (by decide) (m_cR (m_cR (m_cR (m_cI m_c0)))) rfl (Nat.le_of_ble_eq_true rfl) (fun p e s m below meth c C hM hr hlk ls hl => ?_)
  have hx := C.1.1
  have hb := C.1.2.1
  unfold w_L_below at h
  refine lv_iconst (v := 0) hx hb dL_below_0 (by decide) ?_
  refine mr_istore (lv' := [(4, .int (0 : Int32)), (0, mV ad (some 2)), (1, mV ad (some 4)), (2, mV ad (some 0)), (3, .int y3)]) C hl dL_below_1 (by decide) rfl (fun ls hl1 => ?_)
  clear hl
  refine lv_iload_n hx hb dL_below_3 rfl (ml_at hl1 4 rfl) ?_
  refine lv_iconst (v := 1) hx hb dL_below_4 (by decide) ?_
  refine lv_iadd hx hb dL_below_5 ?_
  refine mr_istore (lv' := [(5, .int (y3 + (1 : Int32))), (4, .int (0 : Int32)), (0, mV ad (some 2)), (1, mV ad (some 4)), (2, mV ad (some 0)), (3, .int y3)]) C hl1 dL_below_6 (by decide) rfl (fun ls hl2 => ?_)
  clear hl1
  obtain ⟨I8, hI8, nn8, h⟩ := h
  have hL8 : ∀ (n8 : Nat) (x4_8 : Int32) (x5_8 : Int32) (σ_8 : mS) (H : Heap) (locs : List Loc) (ls : Array Slot), I8 n8 x4_8 x5_8 σ_8 → mM G kdL ad s σ_8 H locs → ml_has ls 7 [(0, mV ad (some 2)), (1, mV ad (some 4)), (2, mV ad (some 0)), (3, .int y3), (4, .int x4_8), (5, .int x5_8)] → W p l e (mRm 1 23) s m ([mV ad (some 2), mV ad (some 4), mV ad (some 0), .int y3] : List Value).toArray below meth c H locs 0 0 (MQ below (va_Qi Q (mPost G kdL ad) (mA ad)) ([mV ad (some 2), mV ad (some 4), mV ad (some 0), .int y3] : List Value).toArray s 0 0 (mA ad)) (F0 m 8 ls []) := by
    refine m_loop (fun n8 ih8 => ?_)
    intro x4_8 x5_8 σ_8 H locs ls h_8 hM_8 hl_8
    replace h_8 := hI8 n8 x4_8 x5_8 σ_8 h_8
    refine lv_iload hx hb dL_below_8 (ml_at hl_8 5 rfl) ?_
    refine mr_aload_n C dL_below_10 rfl (ml_at hl_8 2 rfl) ?_
    refine lv_iconst (v := 1) hx hb dL_below_11 (by decide) ?_
    obtain ⟨j3, ej4, ej4b, h_8⟩ := h_8
    refine mr_iald C hM_8 (mB_fix hM_8 rfl (by decide) (by decide) (by decide)) ej4 ej4b (by decide) dL_below_12 ?_
    refine lv_icmp_ge (tgt := 71) hx hb dL_below_13 (by decide) (fun hc5 => ?_) (fun hc5 => ?_)
    · replace h_8 := h_8.1 hc5
      refine lv_iload hx hb dL_below_71 (ml_at hl_8 4 rfl) ?_
      exact mr_iret C hM_8 hr hlk h_8 dL_below_73
    · replace h_8 := h_8.2 hc5
      refine mr_aload_n C dL_below_16 rfl (ml_at hl_8 1 rfl) ?_
      refine lv_iload hx hb dL_below_17 (ml_at hl_8 5 rfl) ?_
      obtain ⟨j6, ej7, ej7b, h_8⟩ := h_8
      refine mr_iald C hM_8 (mB_fix hM_8 rfl (by decide) (by decide) (by decide)) ej7 ej7b (by decide) dL_below_19 ?_
      refine mr_istore (lv' := [(6, .int (mI σ_8 4 j6)), (0, mV ad (some 2)), (1, mV ad (some 4)), (2, mV ad (some 0)), (3, .int y3), (4, .int x4_8), (5, .int x5_8)]) C hl_8 dL_below_20 (by decide) rfl (fun ls hl8 => ?_)
      clear hl_8
      obtain ⟨I22, hI22, nn22, h_8⟩ := h_8
      have hL22 : ∀ (n22 : Nat) (x6_22 : Int32) (σ_22 : mS) (H : Heap) (locs : List Loc) (ls : Array Slot), I22 n22 x6_22 σ_22 → mM G kdL ad s σ_22 H locs → ml_has ls 7 [(0, mV ad (some 2)), (1, mV ad (some 4)), (2, mV ad (some 0)), (3, .int y3), (4, .int x4_8), (5, .int x5_8), (6, .int x6_22)] → W p l e (mRm 1 23) s m ([mV ad (some 2), mV ad (some 4), mV ad (some 0), .int y3] : List Value).toArray below meth c H locs 0 0 (MQ below (va_Qi Q (mPost G kdL ad) (mA ad)) ([mV ad (some 2), mV ad (some 4), mV ad (some 0), .int y3] : List Value).toArray s 0 0 (mA ad)) (F0 m 22 ls []) := by
        refine m_loop (fun n22 ih22 => ?_)
        intro x6_22 σ_22 H locs ls h_22 hM_22 hl_22
        replace h_22 := hI22 n22 x6_22 σ_22 h_22
        refine lv_iload hx hb dL_below_22 (ml_at hl_22 6 rfl) ?_
        refine lv_iload_n hx hb dL_below_24 rfl (ml_at hl_22 3 rfl) ?_
        refine lv_icmp_le (tgt := 37) hx hb dL_below_25 (by decide) (fun hc9 => ?_) (fun hc9 => ?_)
        · replace h_22 := h_22.1 hc9
          refine lv_iload hx hb dL_below_37 (ml_at hl_22 4 rfl) ?_
          refine lv_iload hx hb dL_below_39 (ml_at hl_22 6 rfl) ?_
          refine lv_iload_n hx hb dL_below_41 rfl (ml_at hl_22 3 rfl) ?_
          refine lv_icmp_ne (tgt := 61) hx hb dL_below_42 (by decide) (fun hc10 => ?_) (fun hc10 => ?_)
          · replace h_22 := h_22.1 hc10
            refine lv_iconst (v := 0) hx hb dL_below_61 (by decide) ?_
            refine lv_iadd hx hb dL_below_62 ?_
            refine mr_istore (lv' := [(4, .int (x4_8 + (0 : Int32))), (0, mV ad (some 2)), (1, mV ad (some 4)), (2, mV ad (some 0)), (3, .int y3), (5, .int x5_8), (6, .int x6_22)]) C hl_22 dL_below_63 (by decide) rfl (fun ls hl11 => ?_)
            clear hl_22
            refine mr_iinc (v := (x5_8 + 1)) (lv' := [(5, .int (x5_8 + 1)), (4, .int (x4_8 + (0 : Int32))), (0, mV ad (some 2)), (1, mV ad (some 4)), (2, mV ad (some 0)), (3, .int y3), (6, .int x6_22)]) C hl11 dL_below_65 (k := 5) rfl rfl (by decide) rfl (fun ls hl12 => ?_)
            clear hl11
            refine lv_goto (tgt := 8) hx hb dL_below_68 (by decide) ?_
            obtain ⟨k13, hk13, h_22⟩ := h_22
            exact ih8 k13 hk13 (x4_8 + (0 : Int32)) (x5_8 + 1) σ_22 _ _ _ h_22 hM_22 (ml_sub hl12 [2, 3, 4, 5, 1, 0] rfl)
          · replace h_22 := h_22.2 hc10
            refine mr_aload_n C dL_below_45 rfl (ml_at hl_22 0 rfl) ?_
            refine lv_iload hx hb dL_below_46 (ml_at hl_22 5 rfl) ?_
            refine lv_iconst (v := 3) hx hb dL_below_48 (by decide) ?_
            refine lv_iconst (v := 3) hx hb dL_below_49 (by decide) ?_
            refine mr_ci hM_22 (mr_runS (As := [mV ad (some 2), .int x5_8, .int (3 : Int32), .int (3 : Int32)]) C hM_22 hl_22.1.1 (c_L_get l G ad x5_8 (3 : Int32) (3 : Int32) σ_22 _ h_22) cw_L_59 (n := 4) ⟨rfl, by decide, by decide, by decide +kernel⟩ rfl rfl ⟨Nat.le_of_ble_eq_true rfl, Nat.le_of_ble_eq_true rfl⟩ (m_cI m_c0) (Nat.le_of_ble_eq_true rfl) dL_below_50 ⟨Nat.zero_le _, Nat.zero_le _⟩) (fun x17 σ14 H locs h15 hM16 => ?_)
            clear h_22 hM_22
            refine lv_iconst (v := 3) hx hb dL_below_53 (by decide) ?_
            refine lv_icmp_ge (tgt := 61) hx hb dL_below_54 (by decide) (fun hc18 => ?_) (fun hc18 => ?_)
            · replace h15 := h15.1 hc18
              refine lv_iconst (v := 0) hx hb dL_below_61 (by decide) ?_
              refine lv_iadd hx hb dL_below_62 ?_
              refine mr_istore (lv' := [(4, .int (x4_8 + (0 : Int32))), (0, mV ad (some 2)), (1, mV ad (some 4)), (2, mV ad (some 0)), (3, .int y3), (5, .int x5_8), (6, .int x6_22)]) C hl_22 dL_below_63 (by decide) rfl (fun ls hl19 => ?_)
              clear hl_22
              refine mr_iinc (v := (x5_8 + 1)) (lv' := [(5, .int (x5_8 + 1)), (4, .int (x4_8 + (0 : Int32))), (0, mV ad (some 2)), (1, mV ad (some 4)), (2, mV ad (some 0)), (3, .int y3), (6, .int x6_22)]) C hl19 dL_below_65 (k := 5) rfl rfl (by decide) rfl (fun ls hl20 => ?_)
              clear hl19
              refine lv_goto (tgt := 8) hx hb dL_below_68 (by decide) ?_
              obtain ⟨k21, hk21, h15⟩ := h15
              exact ih8 k21 hk21 (x4_8 + (0 : Int32)) (x5_8 + 1) σ14 _ _ _ h15 hM16 (ml_sub hl20 [2, 3, 4, 5, 1, 0] rfl)
            · replace h15 := h15.2 hc18
              refine lv_iconst (v := 1) hx hb dL_below_57 (by decide) ?_
              refine lv_goto (tgt := 62) hx hb dL_below_58 (by decide) ?_
              refine lv_iadd hx hb dL_below_62 ?_
              refine mr_istore (lv' := [(4, .int (x4_8 + (1 : Int32))), (0, mV ad (some 2)), (1, mV ad (some 4)), (2, mV ad (some 0)), (3, .int y3), (5, .int x5_8), (6, .int x6_22)]) C hl_22 dL_below_63 (by decide) rfl (fun ls hl22 => ?_)
              clear hl_22
              refine mr_iinc (v := (x5_8 + 1)) (lv' := [(5, .int (x5_8 + 1)), (4, .int (x4_8 + (1 : Int32))), (0, mV ad (some 2)), (1, mV ad (some 4)), (2, mV ad (some 0)), (3, .int y3), (6, .int x6_22)]) C hl22 dL_below_65 (k := 5) rfl rfl (by decide) rfl (fun ls hl23 => ?_)
              clear hl22
              refine lv_goto (tgt := 8) hx hb dL_below_68 (by decide) ?_
              obtain ⟨k24, hk24, h15⟩ := h15
              exact ih8 k24 hk24 (x4_8 + (1 : Int32)) (x5_8 + 1) σ14 _ _ _ h15 hM16 (ml_sub hl23 [2, 3, 4, 5, 1, 0] rfl)
        · replace h_22 := h_22.2 hc9
          refine mr_aload_n C dL_below_28 rfl (ml_at hl_22 1 rfl) ?_
          refine lv_iload hx hb dL_below_29 (ml_at hl_22 6 rfl) ?_
          obtain ⟨j25, ej26, ej26b, h_22⟩ := h_22
          refine mr_iald C hM_22 (mB_fix hM_22 rfl (by decide) (by decide) (by decide)) ej26 ej26b (by decide) dL_below_31 ?_
          refine mr_istore (lv' := [(6, .int (mI σ_22 4 j25)), (0, mV ad (some 2)), (1, mV ad (some 4)), (2, mV ad (some 0)), (3, .int y3), (4, .int x4_8), (5, .int x5_8)]) C hl_22 dL_below_32 (by decide) rfl (fun ls hl27 => ?_)
          clear hl_22
          refine lv_goto (tgt := 22) hx hb dL_below_34 (by decide) ?_
          obtain ⟨k28, hk28, h_22⟩ := h_22
          exact ih22 k28 hk28 (mI σ_22 4 j25) σ_22 _ _ _ h_22 hM_22 (ml_sub hl27 [1, 2, 3, 4, 5, 6, 0] rfl)
      exact hL22 nn22 (mI σ_8 4 j6) σ_8 _ _ _ h_8 hM_8 (ml_sub hl8 [1, 2, 3, 4, 5, 6, 0] rfl)
  exact hL8 nn8 (0 : Int32) (y3 + (1 : Int32)) σ0 _ _ _ h hM (ml_sub hl2 [2, 3, 4, 5, 1, 0] rfl)
