def w_L_sets (y1 : Int32) (y2 : Int32) (y3 : Int32) (σ0 τ0 : mS) (b : Nat) (Q : Int32 → mS → mS → Prop) : Prop := w_L_low y2 (6 : Int32) τ0 (fun x3 τ4 => (mN τ4 = 8 ∧ (((3 : Int32) ≤ y1 → (((7 : Int32) ≤ y1 → (∃ J416 : Int32 → Nat → mS → mS → Prop, (∀ (xk0_416 : Int32) (u_416 : Nat) (σ_416 τ_416 : mS), J416 xk0_416 u_416 σ_416 τ_416 → w_L_low y3 xk0_416 τ_416 (fun x10 τ11 => (mN τ11 = 8 ∧ (∃ J440 : Int32 → Nat → mS → mS → Prop, (∀ (xk0_440 : Int32) (u_440 : Nat) (σ_440 τ_440 : mS), J440 xk0_440 u_440 σ_440 τ_440 → w_L_low (y3 >>> ((5 : Int32) &&& 31)) xk0_440 τ_440 (fun x15 τ16 => (mN τ16 = 8 ∧ (∃ J481 : Int32 → Nat → mS → mS → Prop, (∀ (xk0_481 : Int32) (u_481 : Nat) (σ_481 τ_481 : mS), J481 xk0_481 u_481 σ_481 τ_481 → (∃ j19, (((10 : Int32) * x3) + (4 : Int32)) = nI j19 ∧ (j19 < 60 ∧ (∃ j22, (((10 : Int32) * x3) + (4 : Int32)) = nI j22 ∧ (j22 < 60 ∧ (∀ τ25, τ25 = sI τ_481 1 j22 ((1 : Int32) + x10) → (∃ j26, (((10 : Int32) * x3) + (5 : Int32)) = nI j26 ∧ (j26 < 60 ∧ (∀ τ29, τ29 = sI τ25 1 j26 x15 → (∃ j30, (((10 : Int32) * x3) + (6 : Int32)) = nI j30 ∧ (j30 < 60 ∧ (∀ τ33, τ33 = sI τ29 1 j30 xk0_481 → (mRok kdC σ_481 ∧ (∃ k39, u_481 + k39 ≤ b ∧ w_L_setRoom (6 : Int32) (0 : Int32) (0 : Int32) (0 : Int32) σ_481 k39 (fun x36 σ38 => (mN σ_481 ≤ mN σ38 ∧ ((¬ x36 = (-71 : Int32) → (Q (0 : Int32) σ38 τ33)) ∧ (x36 = (-71 : Int32) → (mRok kdC σ38 ∧ (∃ k46, (u_481 + k39) + k46 ≤ b ∧ w_L_setRoom x3 (0 : Int32) (0 : Int32) (0 : Int32) σ38 k46 (fun x43 σ45 => (mN σ38 ≤ mN σ45 ∧ ((¬ x43 = (-72 : Int32) → (Q (0 : Int32) σ45 τ33)) ∧ (x43 = (-72 : Int32) → (mRok kdC σ45 ∧ (∃ k53, ((u_481 + k39) + k46) + k53 ≤ b ∧ w_L_setRoom x3 (6 : Int32) (0 : Int32) (0 : Int32) σ45 k53 (fun x50 σ52 => (mN σ45 ≤ mN σ52 ∧ ((¬ x50 = (-72 : Int32) → (Q (0 : Int32) σ52 τ33)) ∧ (x50 = (-72 : Int32) → (mRok kdC σ52 ∧ (∃ k60, (((u_481 + k39) + k46) + k53) + k60 ≤ b ∧ w_L_setRoom x3 (1 : Int32) (9 : Int32) (0 : Int32) σ52 k60 (fun x57 σ59 => (mN σ52 ≤ mN σ59 ∧ ((¬ x57 = (-72 : Int32) → (Q (0 : Int32) σ59 τ33)) ∧ (x57 = (-72 : Int32) → (mRok kdC σ59 ∧ (∃ k67, ((((u_481 + k39) + k46) + k53) + k60) + k67 ≤ b ∧ w_L_setRoom x3 (1 : Int32) (0 : Int32) (51 : Int32) σ59 k67 (fun x64 σ66 => (mN σ59 ≤ mN σ66 ∧ ((¬ x64 = (-72 : Int32) → (Q (0 : Int32) σ66 τ33)) ∧ (x64 = (-72 : Int32) → (mRok kdC σ66 ∧ (∃ k74, (((((u_481 + k39) + k46) + k53) + k60) + k67) + k74 ≤ b ∧ w_L_setRoom x3 ((1 : Int32) + x10) x15 xk0_481 σ66 k74 (fun x71 σ73 => (mN σ66 ≤ mN σ73 ∧ ((¬ x71 = (mI τ_481 1 j19) → (Q (0 : Int32) σ73 τ33)) ∧ (x71 = (mI τ_481 1 j19) → (Q (1 : Int32) σ73 τ33))))))))))))))))))))))))))))))))))))))))))))))))) ∧ ((¬ (y2 &&& (48 : Int32)) = 0 → (∃ J477 : Int32 → Nat → mS → mS → Prop, (∀ (xk0_477 : Int32) (u_477 : Nat) (σ_477 τ_477 : mS), J477 xk0_477 u_477 σ_477 τ_477 → w_L_low (y3 >>> ((9 : Int32) &&& 31)) xk0_477 τ_477 (fun x79 τ80 => (mN τ80 = 8 ∧ (J481 ((1 : Int32) + x79) u_477 σ_477 τ80)))) ∧ ((¬ (y3 &&& (24 : Int32)) = (16 : Int32) → (J477 (6 : Int32) u_440 σ_440 τ16)) ∧ ((y3 &&& (24 : Int32)) = (16 : Int32) → (J477 (50 : Int32) u_440 σ_440 τ16))))) ∧ ((y2 &&& (48 : Int32)) = 0 → (J481 (0 : Int32) u_440 σ_440 τ16))))))) ∧ ((¬ (y3 &&& (24 : Int32)) = (8 : Int32) → (J440 (3 : Int32) u_416 σ_416 τ11)) ∧ ((y3 &&& (24 : Int32)) = (8 : Int32) → (J440 (9 : Int32) u_416 σ_416 τ11))))))) ∧ ((¬ (y3 &&& (24 : Int32)) = 0 → (J416 (2 : Int32) 0 σ0 τ4)) ∧ ((y3 &&& (24 : Int32)) = 0 → (J416 (5 : Int32) 0 σ0 τ4))))) ∧ (¬ (7 : Int32) ≤ y1 → w_L_low y3 (6 : Int32) τ4 (fun x86 τ87 => (mN τ87 = 8 ∧ (mRok kdC σ0 ∧ (∃ k94, 0 + k94 ≤ b ∧ w_L_ask (6 : Int32) (0 : Int32) σ0 k94 (fun x91 σ93 => (mN σ0 ≤ mN σ93 ∧ ((¬ x91 = (-71 : Int32) → (Q (0 : Int32) σ93 τ87)) ∧ (x91 = (-71 : Int32) → (mRok kdC σ93 ∧ (∃ k101, (0 + k94) + k101 ≤ b ∧ w_L_ask x3 (-1 : Int32) σ93 k101 (fun x98 σ100 => (mN σ93 ≤ mN σ100 ∧ ((¬ x98 = (-71 : Int32) → (Q (0 : Int32) σ100 τ87)) ∧ (x98 = (-71 : Int32) → (mRok kdC σ100 ∧ (∃ k108, ((0 + k94) + k101) + k108 ≤ b ∧ w_L_ask x3 x3 σ100 k108 (fun x105 σ107 => (mN σ100 ≤ mN σ107 ∧ ((x105 = (-72 : Int32) → (∃ j110, (((10 : Int32) * x3) + (3 : Int32)) = nI j110 ∧ (j110 < 60 ∧ (∃ J306 : Int32 → Nat → mS → mS → Prop, (∀ (xk0_306 : Int32) (u_306 : Nat) (σ_306 τ_306 : mS), J306 xk0_306 u_306 σ_306 τ_306 → ((x3 < x86 → ((¬ xk0_306 = (3 : Int32) → (∃ j116, (((10 : Int32) * x3) + (3 : Int32)) = nI j116 ∧ (j116 < 60 ∧ (∀ τ119, τ119 = sI τ_306 1 j116 ((mI τ87 1 j110) + ((x86 + (1 : Int32)) <<< (((3 : Int32) * xk0_306) &&& 31))) → (mRok kdC σ_306 ∧ (∃ k125, u_306 + k125 ≤ b ∧ w_L_ask x3 x86 σ_306 k125 (fun x122 σ124 => (mN σ_306 ≤ mN σ124 ∧ ((¬ x122 = (xk0_306 + (1 : Int32)) → (Q (0 : Int32) σ124 τ119)) ∧ (x122 = (xk0_306 + (1 : Int32)) → (Q (1 : Int32) σ124 τ119))))))))))) ∧ (xk0_306 = (3 : Int32) → (mRok kdC σ_306 ∧ (∃ k132, u_306 + k132 ≤ b ∧ w_L_ask x3 x86 σ_306 k132 (fun x129 σ131 => (mN σ_306 ≤ mN σ131 ∧ ((¬ x129 = (-73 : Int32) → (Q (0 : Int32) σ131 τ_306)) ∧ (x129 = (-73 : Int32) → (Q (1 : Int32) σ131 τ_306)))))))))) ∧ (¬ x3 < x86 → (mRok kdC σ_306 ∧ (∃ k139, u_306 + k139 ≤ b ∧ w_L_ask x3 x86 σ_306 k139 (fun x136 σ138 => (mN σ_306 ≤ mN σ138 ∧ ((¬ x136 = (-72 : Int32) → (Q (0 : Int32) σ138 τ_306)) ∧ (x136 = (-72 : Int32) → (Q (1 : Int32) σ138 τ_306)))))))))) ∧ ((¬ (mI τ87 1 j110) = 0 → (((8 : Int32) ≤ (mI τ87 1 j110) → (((64 : Int32) ≤ (mI τ87 1 j110) → (J306 (3 : Int32) (((0 + k94) + k101) + k108) σ107 τ87)) ∧ (¬ (64 : Int32) ≤ (mI τ87 1 j110) → (J306 (2 : Int32) (((0 + k94) + k101) + k108) σ107 τ87)))) ∧ (¬ (8 : Int32) ≤ (mI τ87 1 j110) → (J306 (1 : Int32) (((0 + k94) + k101) + k108) σ107 τ87)))) ∧ ((mI τ87 1 j110) = 0 → (J306 (0 : Int32) (((0 + k94) + k101) + k108) σ107 τ87))))))) ∧ (¬ x105 = (-72 : Int32) → (Q (0 : Int32) σ107 τ87)))))))))))))))))))))))) ∧ (¬ (3 : Int32) ≤ y1 → (∃ J28 : Int32 → Nat → mS → mS → Prop, (∀ (xk0_28 : Int32) (u_28 : Nat) (σ_28 τ_28 : mS), J28 xk0_28 u_28 σ_28 τ_28 → w_L_low y3 xk0_28 τ_28 (fun x146 τ147 => (mN τ147 = 8 ∧ (∃ J76 : Int32 → Nat → mS → mS → Prop, (∀ (xk0_76 : Int32) (u_76 : Nat) (σ_76 τ_76 : mS), J76 xk0_76 u_76 σ_76 τ_76 → (∃ j150, ((10 : Int32) * x3) = nI j150 ∧ (j150 < 60 ∧ (∃ j153, ((10 : Int32) * x3) = nI j153 ∧ (j153 < 60 ∧ (∀ τ156, τ156 = sI τ_76 1 j153 ((1 : Int32) + x146) → (∃ j157, (((10 : Int32) * x3) + (1 : Int32)) = nI j157 ∧ (j157 < 60 ∧ (∀ τ160, τ160 = sI τ156 1 j157 xk0_76 → (∃ j161, (((10 : Int32) * x3) + (2 : Int32)) = nI j161 ∧ (j161 < 60 ∧ (∀ τ164, τ164 = sI τ160 1 j161 (0 : Int32) → (mRok kdC σ_76 ∧ (∃ k170, u_76 + k170 ≤ b ∧ w_L_setWork (6 : Int32) (0 : Int32) (0 : Int32) σ_76 k170 (fun x167 σ169 => (mN σ_76 ≤ mN σ169 ∧ ((¬ x167 = (-71 : Int32) → (Q (0 : Int32) σ169 τ164)) ∧ (x167 = (-71 : Int32) → (mRok kdC σ169 ∧ (∃ k177, (u_76 + k170) + k177 ≤ b ∧ w_L_setWork x3 (0 : Int32) (0 : Int32) σ169 k177 (fun x174 σ176 => (mN σ169 ≤ mN σ176 ∧ ((¬ x174 = (-72 : Int32) → (Q (0 : Int32) σ176 τ164)) ∧ (x174 = (-72 : Int32) → (mRok kdC σ176 ∧ (∃ k184, ((u_76 + k170) + k177) + k184 ≤ b ∧ w_L_setWork x3 (21 : Int32) (0 : Int32) σ176 k184 (fun x181 σ183 => (mN σ176 ≤ mN σ183 ∧ ((¬ x181 = (-72 : Int32) → (Q (0 : Int32) σ183 τ164)) ∧ (x181 = (-72 : Int32) → (mRok kdC σ183 ∧ (∃ k191, (((u_76 + k170) + k177) + k184) + k191 ≤ b ∧ w_L_setWork x3 (1 : Int32) (21 : Int32) σ183 k191 (fun x188 σ190 => (mN σ183 ≤ mN σ190 ∧ ((¬ x188 = (-72 : Int32) → (Q (0 : Int32) σ190 τ164)) ∧ (x188 = (-72 : Int32) → (mRok kdC σ190 ∧ (∃ k198, ((((u_76 + k170) + k177) + k184) + k191) + k198 ≤ b ∧ w_L_setWork x3 (1 : Int32) (-1 : Int32) σ190 k198 (fun x195 σ197 => (mN σ190 ≤ mN σ197 ∧ ((¬ x195 = (-72 : Int32) → (Q (0 : Int32) σ197 τ164)) ∧ (x195 = (-72 : Int32) → (mRok kdC σ197 ∧ (∃ k205, (((((u_76 + k170) + k177) + k184) + k191) + k198) + k205 ≤ b ∧ w_L_setWork x3 ((1 : Int32) + x146) xk0_76 σ197 k205 (fun x202 σ204 => (mN σ197 ≤ mN σ204 ∧ ((¬ x202 = (mI τ_76 1 j150) → (Q (0 : Int32) σ204 τ164)) ∧ (x202 = (mI τ_76 1 j150) → (Q (1 : Int32) σ204 τ164))))))))))))))))))))))))))))))))))))))))))))))))) ∧ ((¬ (y2 &&& (48 : Int32)) = 0 → ((¬ (y2 &&& (48 : Int32)) = (16 : Int32) → (J76 (0 : Int32) u_28 σ_28 τ147)) ∧ ((y2 &&& (48 : Int32)) = (16 : Int32) → w_L_low (y3 >>> ((7 : Int32) &&& 31)) (3 : Int32) τ147 (fun x211 τ212 => (mN τ212 = 8 ∧ (J76 ((1 : Int32) + x211) u_28 σ_28 τ212)))))) ∧ ((y2 &&& (48 : Int32)) = 0 → w_L_low (y3 >>> ((7 : Int32) &&& 31)) (21 : Int32) τ147 (fun x215 τ216 => (mN τ216 = 8 ∧ (J76 x215 u_28 σ_28 τ216))))))))) ∧ ((¬ (y3 &&& (96 : Int32)) = 0 → (J28 (4 : Int32) 0 σ0 τ4)) ∧ ((y3 &&& (96 : Int32)) = 0 → (J28 (20 : Int32) 0 σ0 τ4))))))))
set_option maxRecDepth 100000 in
set_option maxHeartbeats 4000000 in
theorem c_L_sets (l : Launch) (hfl : l.stackTraces = false) (G : mG) (N0 N1 : Nat) (a1 a2 : Nat → Nat) (y1 : Int32) (y2 : Int32) (y3 : Int32) (σ0 τ0 : mS) (b : Nat) (Q : Int32 → mS → mS → Prop) (h : w_L_sets y1 y2 y3 σ0 τ0 b Q) : Met l yL_sets (mWs yL_sets cL_sets 10 (some .boolean)) (mRb 9 164 b) (va_Pc [mV a1 (some 0), .int y1, .int y2, .int y3, mV a2 (some 1)] (pPre G N0 N1 a1 a2 σ0 τ0)) (va_Qi (fun r (q : mS × mS) => Q r q.1 q.2 ∧ narrow .boolean (.int r) = .int r) (pPost G N1 a1 a2 (mN σ0)) (pA a1 a2 (mN σ0) N1)) b (18 * b) (pA a1 a2 (mN σ0) N1) := by
  refine pr_start (lst := [(0, mV a1 (some 0)), (1, .int y1), (2, .int y2), (3, .int y3), (4, mV a2 (some 1))]) (by decide) (m_cR (m_cI (m_cI (m_cI (m_cR m_c0))))) rfl (Nat.le_of_ble_eq_true rfl) (fun p e s m below meth c C E hM hN hr hlk ls hl => ?_)
  have hx := C.1.1
  have hb := C.1.2.1
  unfold w_L_sets at h
  refine lv_iload_n hx hb dL_sets_0 rfl (ml_at hl 2 rfl) ?_
  refine lv_bipush (v := 6) hx hb dL_sets_1 (by decide) ?_
  refine pr_li (As := fun ad => [.int y2, .int (6 : Int32)]) C hM (fun _ _ => rfl) hl.1.1 cw_L_83 (fun ad => c_L_low l G ad y2 (6 : Int32) _ _ h) (fun _ _ q => q.1) (n := 2) ⟨rfl, by decide, by decide, by decide +kernel⟩ rfl rfl ⟨Nat.le_of_ble_eq_true rfl, Nat.le_of_ble_eq_true rfl⟩ m_c0 (Nat.le_of_ble_eq_true rfl) dL_sets_3 ⟨(Nat.zero_le _), Nat.mul_le_mul_left 18 (Nat.zero_le _)⟩ (fun x3 τ4 H locs h1 hM2 => ?_)
  clear h hM
  replace h1 := h1.2
  refine mr_istore (lv' := [(5, .int x3), (0, mV a1 (some 0)), (1, .int y1), (2, .int y2), (3, .int y3), (4, mV a2 (some 1))]) C hl dL_sets_6 (by decide) rfl (fun ls hl5 => ?_)
  clear hl
  refine lv_iload_n hx hb dL_sets_8 rfl (ml_at hl5 2 rfl) ?_
  refine lv_iconst (v := 3) hx hb dL_sets_9 (by decide) ?_
  refine lv_icmp_ge (tgt := 209) hx hb dL_sets_10 (by decide) (fun hc6 => ?_) (fun hc6 => ?_)
  · replace h1 := h1.1 hc6
    refine lv_iload_n hx hb dL_sets_209 rfl (ml_at hl5 2 rfl) ?_
    refine lv_bipush (v := 7) hx hb dL_sets_210 (by decide) ?_
    refine lv_icmp_ge (tgt := 402) hx hb dL_sets_212 (by decide) (fun hc7 => ?_) (fun hc7 => ?_)
    · replace h1 := h1.1 hc7
      refine lv_iconst (v := 1) hx hb dL_sets_402 (by decide) ?_
      refine lv_iload_n hx hb dL_sets_403 rfl (ml_at hl5 4 rfl) ?_
      refine lv_iload_n hx hb dL_sets_404 rfl (ml_at hl5 4 rfl) ?_
      refine lv_bipush (v := 24) hx hb dL_sets_405 (by decide) ?_
      refine lv_iand hx hb dL_sets_407 ?_
      obtain ⟨J416, hJ416, h1⟩ := h1
      have hj416 : ∀ (xk0_416 : Int32) (u_416 : Nat) (σ_416 τ_416 : mS) (H : Heap) (locs : List Loc) (ls : Array Slot), u_416 ≤ b → J416 xk0_416 u_416 σ_416 τ_416 → pM G a1 a2 (mN σ0) s σ_416 τ_416 H locs → ml_has ls 10 [(0, mV a1 (some 0)), (2, .int y2), (3, .int y3), (4, mV a2 (some 1)), (5, .int x3)] → W p l e (mRb 9 164 b) s m ([mV a1 (some 0), .int y1, .int y2, .int y3, mV a2 (some 1)] : List Value).toArray below meth c H locs u_416 (18 * u_416) (MQ below (va_Qi (fun r (q : mS × mS) => Q r q.1 q.2 ∧ narrow .boolean (.int r) = .int r) (pPost G N1 a1 a2 (mN σ0)) (pA a1 a2 (mN σ0) N1)) ([mV a1 (some 0), .int y1, .int y2, .int y3, mV a2 (some 1)] : List Value).toArray s b (18 * b) (pA a1 a2 (mN σ0) N1)) (F0 m 416 ls [.int xk0_416, .int y3, .int (1 : Int32)]) := by
        intro xk0_416 u_416 σ_416 τ_416 H locs ls hu_416 h_416 hM_416 hl_416
        replace h_416 := hJ416 xk0_416 u_416 σ_416 τ_416 h_416
        refine pr_li (As := fun ad => [.int y3, .int xk0_416]) C hM_416 (fun _ _ => rfl) hl_416.1.1 cw_L_83 (fun ad => c_L_low l G ad y3 xk0_416 _ _ h_416) (fun _ _ q => q.1) (n := 2) ⟨rfl, by decide, by decide, by decide +kernel⟩ rfl rfl ⟨Nat.le_of_ble_eq_true rfl, Nat.le_of_ble_eq_true rfl⟩ (m_cI m_c0) (Nat.le_of_ble_eq_true rfl) dL_sets_416 ⟨hu_416, Nat.mul_le_mul_left 18 hu_416⟩ (fun x10 τ11 H locs h8 hM9 => ?_)
        clear h_416 hM_416
        replace h8 := h8.2
        refine lv_iadd hx hb dL_sets_419 ?_
        refine mr_istore (lv' := [(6, .int ((1 : Int32) + x10)), (0, mV a1 (some 0)), (2, .int y2), (3, .int y3), (4, mV a2 (some 1)), (5, .int x3)]) C hl_416 dL_sets_420 (by decide) rfl (fun ls hl12 => ?_)
        clear hl_416
        refine lv_iload_n hx hb dL_sets_422 rfl (ml_at hl12 3 rfl) ?_
        refine lv_iconst (v := 5) hx hb dL_sets_423 (by decide) ?_
        refine lv_ishr hx hb dL_sets_424 ?_
        refine lv_iload_n hx hb dL_sets_425 rfl (ml_at hl12 3 rfl) ?_
        refine lv_bipush (v := 24) hx hb dL_sets_426 (by decide) ?_
        refine lv_iand hx hb dL_sets_428 ?_
        refine lv_bipush (v := 8) hx hb dL_sets_429 (by decide) ?_
        obtain ⟨J440, hJ440, h8⟩ := h8
        have hj440 : ∀ (xk0_440 : Int32) (u_440 : Nat) (σ_440 τ_440 : mS) (H : Heap) (locs : List Loc) (ls : Array Slot), u_440 ≤ b → J440 xk0_440 u_440 σ_440 τ_440 → pM G a1 a2 (mN σ0) s σ_440 τ_440 H locs → ml_has ls 10 [(0, mV a1 (some 0)), (2, .int y2), (3, .int y3), (4, mV a2 (some 1)), (5, .int x3), (6, .int ((1 : Int32) + x10))] → W p l e (mRb 9 164 b) s m ([mV a1 (some 0), .int y1, .int y2, .int y3, mV a2 (some 1)] : List Value).toArray below meth c H locs u_440 (18 * u_440) (MQ below (va_Qi (fun r (q : mS × mS) => Q r q.1 q.2 ∧ narrow .boolean (.int r) = .int r) (pPost G N1 a1 a2 (mN σ0)) (pA a1 a2 (mN σ0) N1)) ([mV a1 (some 0), .int y1, .int y2, .int y3, mV a2 (some 1)] : List Value).toArray s b (18 * b) (pA a1 a2 (mN σ0) N1)) (F0 m 440 ls [.int xk0_440, .int (y3 >>> ((5 : Int32) &&& 31))]) := by
          intro xk0_440 u_440 σ_440 τ_440 H locs ls hu_440 h_440 hM_440 hl_440
          replace h_440 := hJ440 xk0_440 u_440 σ_440 τ_440 h_440
          refine pr_li (As := fun ad => [.int (y3 >>> ((5 : Int32) &&& 31)), .int xk0_440]) C hM_440 (fun _ _ => rfl) hl_440.1.1 cw_L_83 (fun ad => c_L_low l G ad (y3 >>> ((5 : Int32) &&& 31)) xk0_440 _ _ h_440) (fun _ _ q => q.1) (n := 2) ⟨rfl, by decide, by decide, by decide +kernel⟩ rfl rfl ⟨Nat.le_of_ble_eq_true rfl, Nat.le_of_ble_eq_true rfl⟩ m_c0 (Nat.le_of_ble_eq_true rfl) dL_sets_440 ⟨hu_440, Nat.mul_le_mul_left 18 hu_440⟩ (fun x15 τ16 H locs h13 hM14 => ?_)
          clear h_440 hM_440
          replace h13 := h13.2
          refine mr_istore (lv' := [(7, .int x15), (0, mV a1 (some 0)), (2, .int y2), (3, .int y3), (4, mV a2 (some 1)), (5, .int x3), (6, .int ((1 : Int32) + x10))]) C hl_440 dL_sets_443 (by decide) rfl (fun ls hl17 => ?_)
          clear hl_440
          refine lv_iload_n hx hb dL_sets_445 rfl (ml_at hl17 2 rfl) ?_
          refine lv_bipush (v := 48) hx hb dL_sets_446 (by decide) ?_
          refine lv_iand hx hb dL_sets_448 ?_
          obtain ⟨J481, hJ481, h13⟩ := h13
          have hj481 : ∀ (xk0_481 : Int32) (u_481 : Nat) (σ_481 τ_481 : mS) (H : Heap) (locs : List Loc) (ls : Array Slot), u_481 ≤ b → J481 xk0_481 u_481 σ_481 τ_481 → pM G a1 a2 (mN σ0) s σ_481 τ_481 H locs → ml_has ls 10 [(0, mV a1 (some 0)), (4, mV a2 (some 1)), (5, .int x3), (6, .int ((1 : Int32) + x10)), (7, .int x15)] → W p l e (mRb 9 164 b) s m ([mV a1 (some 0), .int y1, .int y2, .int y3, mV a2 (some 1)] : List Value).toArray below meth c H locs u_481 (18 * u_481) (MQ below (va_Qi (fun r (q : mS × mS) => Q r q.1 q.2 ∧ narrow .boolean (.int r) = .int r) (pPost G N1 a1 a2 (mN σ0)) (pA a1 a2 (mN σ0) N1)) ([mV a1 (some 0), .int y1, .int y2, .int y3, mV a2 (some 1)] : List Value).toArray s b (18 * b) (pA a1 a2 (mN σ0) N1)) (F0 m 481 ls [.int xk0_481]) := by
            intro xk0_481 u_481 σ_481 τ_481 H locs ls hu_481 h_481 hM_481 hl_481
            replace h_481 := hJ481 xk0_481 u_481 σ_481 τ_481 h_481
            refine mr_istore (lv' := [(8, .int xk0_481), (0, mV a1 (some 0)), (4, mV a2 (some 1)), (5, .int x3), (6, .int ((1 : Int32) + x10)), (7, .int x15)]) C hl_481 dL_sets_481 (by decide) rfl (fun ls hl18 => ?_)
            clear hl_481
            refine mr_aload C dL_sets_483 (ml_at hl18 2 rfl) ?_
            refine lv_bipush (v := 10) hx hb dL_sets_485 (by decide) ?_
            refine lv_iload hx hb dL_sets_487 (ml_at hl18 3 rfl) ?_
            refine lv_imul hx hb dL_sets_489 ?_
            refine lv_iconst (v := 4) hx hb dL_sets_490 (by decide) ?_
            refine lv_iadd hx hb dL_sets_491 ?_
            obtain ⟨j19, ej20, ej20b, h_481⟩ := h_481
            refine pr_iald C hM_481 (i := 1) rfl (by decide) ej20 ej20b (by decide) dL_sets_492 ?_
            refine mr_istore (lv' := [(9, .int (mI τ_481 1 j19)), (8, .int xk0_481), (0, mV a1 (some 0)), (4, mV a2 (some 1)), (5, .int x3), (6, .int ((1 : Int32) + x10)), (7, .int x15)]) C hl18 dL_sets_493 (by decide) rfl (fun ls hl21 => ?_)
            clear hl18
            refine mr_aload C dL_sets_495 (ml_at hl21 3 rfl) ?_
            refine lv_bipush (v := 10) hx hb dL_sets_497 (by decide) ?_
            refine lv_iload hx hb dL_sets_499 (ml_at hl21 4 rfl) ?_
            refine lv_imul hx hb dL_sets_501 ?_
            refine lv_iconst (v := 4) hx hb dL_sets_502 (by decide) ?_
            refine lv_iadd hx hb dL_sets_503 ?_
            refine lv_iload hx hb dL_sets_504 (ml_at hl21 5 rfl) ?_
            obtain ⟨j22, ej23, ej23b, h_481⟩ := h_481
            refine pr_iast C hM_481 (i := 1) rfl (by decide) ej23 ej23b (by decide) dL_sets_506 (fun H locs hM24 => ?_)
            clear hM_481
            obtain ⟨τ25, eτ25⟩ : ∃ y, y = sI τ_481 1 j22 ((1 : Int32) + x10) := ⟨_, rfl⟩
            rw [← eτ25] at hM24
            replace h_481 := h_481 τ25 eτ25
            refine mr_aload C dL_sets_507 (ml_at hl21 3 rfl) ?_
            refine lv_bipush (v := 10) hx hb dL_sets_509 (by decide) ?_
            refine lv_iload hx hb dL_sets_511 (ml_at hl21 4 rfl) ?_
            refine lv_imul hx hb dL_sets_513 ?_
            refine lv_iconst (v := 5) hx hb dL_sets_514 (by decide) ?_
            refine lv_iadd hx hb dL_sets_515 ?_
            refine lv_iload hx hb dL_sets_516 (ml_at hl21 6 rfl) ?_
            obtain ⟨j26, ej27, ej27b, h_481⟩ := h_481
            refine pr_iast C hM24 (i := 1) rfl (by decide) ej27 ej27b (by decide) dL_sets_518 (fun H locs hM28 => ?_)
            clear hM24
            obtain ⟨τ29, eτ29⟩ : ∃ y, y = sI τ25 1 j26 x15 := ⟨_, rfl⟩
            rw [← eτ29] at hM28
            replace h_481 := h_481 τ29 eτ29
            refine mr_aload C dL_sets_519 (ml_at hl21 3 rfl) ?_
            refine lv_bipush (v := 10) hx hb dL_sets_521 (by decide) ?_
            refine lv_iload hx hb dL_sets_523 (ml_at hl21 4 rfl) ?_
            refine lv_imul hx hb dL_sets_525 ?_
            refine lv_bipush (v := 6) hx hb dL_sets_526 (by decide) ?_
            refine lv_iadd hx hb dL_sets_528 ?_
            refine lv_iload hx hb dL_sets_529 (ml_at hl21 1 rfl) ?_
            obtain ⟨j30, ej31, ej31b, h_481⟩ := h_481
            refine pr_iast C hM28 (i := 1) rfl (by decide) ej31 ej31b (by decide) dL_sets_531 (fun H locs hM32 => ?_)
            clear hM28
            obtain ⟨τ33, eτ33⟩ : ∃ y, y = sI τ29 1 j30 xk0_481 := ⟨_, rfl⟩
            rw [← eτ33] at hM32
            replace h_481 := h_481 τ33 eτ33
            refine mr_aload_n C dL_sets_532 rfl (ml_at hl21 2 rfl) ?_
            refine lv_bipush (v := 6) hx hb dL_sets_533 (by decide) ?_
            refine lv_iconst (v := 0) hx hb dL_sets_535 (by decide) ?_
            refine lv_iconst (v := 0) hx hb dL_sets_536 (by decide) ?_
            refine lv_iconst (v := 0) hx hb dL_sets_537 (by decide) ?_
            obtain ⟨hr37, h_481⟩ := h_481
            obtain ⟨k39, hk39, h_481⟩ := h_481
            refine pr_wi (Is := [.int (6 : Int32), .int (0 : Int32), .int (0 : Int32), .int (0 : Int32)]) C E hM32 hr37 hl21.1.1 cl_L_92 (fun ad => c_L_setRoom l hfl G ad (6 : Int32) (0 : Int32) (0 : Int32) (0 : Int32) _ _ _ h_481) (fun _ _ q => q.1) (n := 5) ⟨by decide, by decide, by decide +kernel⟩ rfl rfl ⟨Nat.le_of_ble_eq_true rfl, Nat.le_of_ble_eq_true rfl⟩ m_c0 (Nat.le_of_ble_eq_true rfl) dL_sets_538 hk39 (fun x36 σ38 H locs h34 hM35 => ?_)
            clear h_481 hM32
            replace h34 := h34.2
            refine lv_bipush (v := -71) hx hb dL_sets_541 (by decide) ?_
            refine lv_icmp_ne (tgt := 626) hx hb dL_sets_543 (by decide) (fun hc40 => ?_) (fun hc40 => ?_)
            · replace h34 := h34.1 hc40
              refine lv_iconst (v := 0) hx hb dL_sets_626 (by decide) ?_
              exact mr_wi hk39 (pr_zret C hM35 hN hr hlk rfl h34 dL_sets_627)
            · replace h34 := h34.2 hc40
              refine mr_aload_n C dL_sets_546 rfl (ml_at hl21 2 rfl) ?_
              refine lv_iload hx hb dL_sets_547 (ml_at hl21 4 rfl) ?_
              refine lv_iconst (v := 0) hx hb dL_sets_549 (by decide) ?_
              refine lv_iconst (v := 0) hx hb dL_sets_550 (by decide) ?_
              refine lv_iconst (v := 0) hx hb dL_sets_551 (by decide) ?_
              obtain ⟨hr44, h34⟩ := h34
              obtain ⟨k46, hk46, h34⟩ := h34
              refine pr_wi (Is := [.int x3, .int (0 : Int32), .int (0 : Int32), .int (0 : Int32)]) C E hM35 hr44 hl21.1.1 cl_L_92 (fun ad => c_L_setRoom l hfl G ad x3 (0 : Int32) (0 : Int32) (0 : Int32) _ _ _ h34) (fun _ _ q => q.1) (n := 5) ⟨by decide, by decide, by decide +kernel⟩ rfl rfl ⟨Nat.le_of_ble_eq_true rfl, Nat.le_of_ble_eq_true rfl⟩ m_c0 (Nat.le_of_ble_eq_true rfl) dL_sets_552 hk46 (fun x43 σ45 H locs h41 hM42 => ?_)
              clear h34 hM35
              replace h41 := h41.2
              refine lv_bipush (v := -72) hx hb dL_sets_555 (by decide) ?_
              refine lv_icmp_ne (tgt := 626) hx hb dL_sets_557 (by decide) (fun hc47 => ?_) (fun hc47 => ?_)
              · replace h41 := h41.1 hc47
                refine lv_iconst (v := 0) hx hb dL_sets_626 (by decide) ?_
                exact mr_wi hk46 (pr_zret C hM42 hN hr hlk rfl h41 dL_sets_627)
              · replace h41 := h41.2 hc47
                refine mr_aload_n C dL_sets_560 rfl (ml_at hl21 2 rfl) ?_
                refine lv_iload hx hb dL_sets_561 (ml_at hl21 4 rfl) ?_
                refine lv_bipush (v := 6) hx hb dL_sets_563 (by decide) ?_
                refine lv_iconst (v := 0) hx hb dL_sets_565 (by decide) ?_
                refine lv_iconst (v := 0) hx hb dL_sets_566 (by decide) ?_
                obtain ⟨hr51, h41⟩ := h41
                obtain ⟨k53, hk53, h41⟩ := h41
                refine pr_wi (Is := [.int x3, .int (6 : Int32), .int (0 : Int32), .int (0 : Int32)]) C E hM42 hr51 hl21.1.1 cl_L_92 (fun ad => c_L_setRoom l hfl G ad x3 (6 : Int32) (0 : Int32) (0 : Int32) _ _ _ h41) (fun _ _ q => q.1) (n := 5) ⟨by decide, by decide, by decide +kernel⟩ rfl rfl ⟨Nat.le_of_ble_eq_true rfl, Nat.le_of_ble_eq_true rfl⟩ m_c0 (Nat.le_of_ble_eq_true rfl) dL_sets_567 hk53 (fun x50 σ52 H locs h48 hM49 => ?_)
                clear h41 hM42
                replace h48 := h48.2
                refine lv_bipush (v := -72) hx hb dL_sets_570 (by decide) ?_
                refine lv_icmp_ne (tgt := 626) hx hb dL_sets_572 (by decide) (fun hc54 => ?_) (fun hc54 => ?_)
                · replace h48 := h48.1 hc54
                  refine lv_iconst (v := 0) hx hb dL_sets_626 (by decide) ?_
                  exact mr_wi hk53 (pr_zret C hM49 hN hr hlk rfl h48 dL_sets_627)
                · replace h48 := h48.2 hc54
                  refine mr_aload_n C dL_sets_575 rfl (ml_at hl21 2 rfl) ?_
                  refine lv_iload hx hb dL_sets_576 (ml_at hl21 4 rfl) ?_
                  refine lv_iconst (v := 1) hx hb dL_sets_578 (by decide) ?_
                  refine lv_bipush (v := 9) hx hb dL_sets_579 (by decide) ?_
                  refine lv_iconst (v := 0) hx hb dL_sets_581 (by decide) ?_
                  obtain ⟨hr58, h48⟩ := h48
                  obtain ⟨k60, hk60, h48⟩ := h48
                  refine pr_wi (Is := [.int x3, .int (1 : Int32), .int (9 : Int32), .int (0 : Int32)]) C E hM49 hr58 hl21.1.1 cl_L_92 (fun ad => c_L_setRoom l hfl G ad x3 (1 : Int32) (9 : Int32) (0 : Int32) _ _ _ h48) (fun _ _ q => q.1) (n := 5) ⟨by decide, by decide, by decide +kernel⟩ rfl rfl ⟨Nat.le_of_ble_eq_true rfl, Nat.le_of_ble_eq_true rfl⟩ m_c0 (Nat.le_of_ble_eq_true rfl) dL_sets_582 hk60 (fun x57 σ59 H locs h55 hM56 => ?_)
                  clear h48 hM49
                  replace h55 := h55.2
                  refine lv_bipush (v := -72) hx hb dL_sets_585 (by decide) ?_
                  refine lv_icmp_ne (tgt := 626) hx hb dL_sets_587 (by decide) (fun hc61 => ?_) (fun hc61 => ?_)
                  · replace h55 := h55.1 hc61
                    refine lv_iconst (v := 0) hx hb dL_sets_626 (by decide) ?_
                    exact mr_wi hk60 (pr_zret C hM56 hN hr hlk rfl h55 dL_sets_627)
                  · replace h55 := h55.2 hc61
                    refine mr_aload_n C dL_sets_590 rfl (ml_at hl21 2 rfl) ?_
                    refine lv_iload hx hb dL_sets_591 (ml_at hl21 4 rfl) ?_
                    refine lv_iconst (v := 1) hx hb dL_sets_593 (by decide) ?_
                    refine lv_iconst (v := 0) hx hb dL_sets_594 (by decide) ?_
                    refine lv_bipush (v := 51) hx hb dL_sets_595 (by decide) ?_
                    obtain ⟨hr65, h55⟩ := h55
                    obtain ⟨k67, hk67, h55⟩ := h55
                    refine pr_wi (Is := [.int x3, .int (1 : Int32), .int (0 : Int32), .int (51 : Int32)]) C E hM56 hr65 hl21.1.1 cl_L_92 (fun ad => c_L_setRoom l hfl G ad x3 (1 : Int32) (0 : Int32) (51 : Int32) _ _ _ h55) (fun _ _ q => q.1) (n := 5) ⟨by decide, by decide, by decide +kernel⟩ rfl rfl ⟨Nat.le_of_ble_eq_true rfl, Nat.le_of_ble_eq_true rfl⟩ m_c0 (Nat.le_of_ble_eq_true rfl) dL_sets_597 hk67 (fun x64 σ66 H locs h62 hM63 => ?_)
                    clear h55 hM56
                    replace h62 := h62.2
                    refine lv_bipush (v := -72) hx hb dL_sets_600 (by decide) ?_
                    refine lv_icmp_ne (tgt := 626) hx hb dL_sets_602 (by decide) (fun hc68 => ?_) (fun hc68 => ?_)
                    · replace h62 := h62.1 hc68
                      refine lv_iconst (v := 0) hx hb dL_sets_626 (by decide) ?_
                      exact mr_wi hk67 (pr_zret C hM63 hN hr hlk rfl h62 dL_sets_627)
                    · replace h62 := h62.2 hc68
                      refine mr_aload_n C dL_sets_605 rfl (ml_at hl21 2 rfl) ?_
                      refine lv_iload hx hb dL_sets_606 (ml_at hl21 4 rfl) ?_
                      refine lv_iload hx hb dL_sets_608 (ml_at hl21 5 rfl) ?_
                      refine lv_iload hx hb dL_sets_610 (ml_at hl21 6 rfl) ?_
                      refine lv_iload hx hb dL_sets_612 (ml_at hl21 1 rfl) ?_
                      obtain ⟨hr72, h62⟩ := h62
                      obtain ⟨k74, hk74, h62⟩ := h62
                      refine pr_wi (Is := [.int x3, .int ((1 : Int32) + x10), .int x15, .int xk0_481]) C E hM63 hr72 hl21.1.1 cl_L_92 (fun ad => c_L_setRoom l hfl G ad x3 ((1 : Int32) + x10) x15 xk0_481 _ _ _ h62) (fun _ _ q => q.1) (n := 5) ⟨by decide, by decide, by decide +kernel⟩ rfl rfl ⟨Nat.le_of_ble_eq_true rfl, Nat.le_of_ble_eq_true rfl⟩ m_c0 (Nat.le_of_ble_eq_true rfl) dL_sets_614 hk74 (fun x71 σ73 H locs h69 hM70 => ?_)
                      clear h62 hM63
                      replace h69 := h69.2
                      refine lv_iload hx hb dL_sets_617 (ml_at hl21 0 rfl) ?_
                      refine lv_icmp_ne (tgt := 626) hx hb dL_sets_619 (by decide) (fun hc75 => ?_) (fun hc75 => ?_)
                      · replace h69 := h69.1 hc75
                        refine lv_iconst (v := 0) hx hb dL_sets_626 (by decide) ?_
                        exact mr_wi hk74 (pr_zret C hM70 hN hr hlk rfl h69 dL_sets_627)
                      · replace h69 := h69.2 hc75
                        refine lv_iconst (v := 1) hx hb dL_sets_622 (by decide) ?_
                        refine lv_goto (tgt := 627) hx hb dL_sets_623 (by decide) ?_
                        exact mr_wi hk74 (pr_zret C hM70 hN hr hlk rfl h69 dL_sets_627)
          refine lv_if_ne (tgt := 456) hx hb dL_sets_449 (by decide) (fun hc76 => ?_) (fun hc76 => ?_)
          · replace h13 := h13.1 hc76
            refine lv_iconst (v := 1) hx hb dL_sets_456 (by decide) ?_
            refine lv_iload_n hx hb dL_sets_457 rfl (ml_at hl17 3 rfl) ?_
            refine lv_bipush (v := 9) hx hb dL_sets_458 (by decide) ?_
            refine lv_ishr hx hb dL_sets_460 ?_
            refine lv_iload_n hx hb dL_sets_461 rfl (ml_at hl17 3 rfl) ?_
            refine lv_bipush (v := 24) hx hb dL_sets_462 (by decide) ?_
            refine lv_iand hx hb dL_sets_464 ?_
            refine lv_bipush (v := 16) hx hb dL_sets_465 (by decide) ?_
            obtain ⟨J477, hJ477, h13⟩ := h13
            have hj477 : ∀ (xk0_477 : Int32) (u_477 : Nat) (σ_477 τ_477 : mS) (H : Heap) (locs : List Loc) (ls : Array Slot), u_477 ≤ b → J477 xk0_477 u_477 σ_477 τ_477 → pM G a1 a2 (mN σ0) s σ_477 τ_477 H locs → ml_has ls 10 [(0, mV a1 (some 0)), (4, mV a2 (some 1)), (5, .int x3), (6, .int ((1 : Int32) + x10)), (7, .int x15)] → W p l e (mRb 9 164 b) s m ([mV a1 (some 0), .int y1, .int y2, .int y3, mV a2 (some 1)] : List Value).toArray below meth c H locs u_477 (18 * u_477) (MQ below (va_Qi (fun r (q : mS × mS) => Q r q.1 q.2 ∧ narrow .boolean (.int r) = .int r) (pPost G N1 a1 a2 (mN σ0)) (pA a1 a2 (mN σ0) N1)) ([mV a1 (some 0), .int y1, .int y2, .int y3, mV a2 (some 1)] : List Value).toArray s b (18 * b) (pA a1 a2 (mN σ0) N1)) (F0 m 477 ls [.int xk0_477, .int (y3 >>> ((9 : Int32) &&& 31)), .int (1 : Int32)]) := by
              intro xk0_477 u_477 σ_477 τ_477 H locs ls hu_477 h_477 hM_477 hl_477
              replace h_477 := hJ477 xk0_477 u_477 σ_477 τ_477 h_477
              refine pr_li (As := fun ad => [.int (y3 >>> ((9 : Int32) &&& 31)), .int xk0_477]) C hM_477 (fun _ _ => rfl) hl_477.1.1 cw_L_83 (fun ad => c_L_low l G ad (y3 >>> ((9 : Int32) &&& 31)) xk0_477 _ _ h_477) (fun _ _ q => q.1) (n := 2) ⟨rfl, by decide, by decide, by decide +kernel⟩ rfl rfl ⟨Nat.le_of_ble_eq_true rfl, Nat.le_of_ble_eq_true rfl⟩ (m_cI m_c0) (Nat.le_of_ble_eq_true rfl) dL_sets_477 ⟨hu_477, Nat.mul_le_mul_left 18 hu_477⟩ (fun x79 τ80 H locs h77 hM78 => ?_)
              clear h_477 hM_477
              replace h77 := h77.2
              refine lv_iadd hx hb dL_sets_480 ?_
              exact hj481 ((1 : Int32) + x79) u_477 σ_477 τ80 _ _ _ hu_477 h77 hM78 (ml_sub hl_477 [0, 1, 2, 3, 4] rfl)
            refine lv_icmp_ne (tgt := 475) hx hb dL_sets_467 (by decide) (fun hc81 => ?_) (fun hc81 => ?_)
            · replace h13 := h13.1 hc81
              refine lv_bipush (v := 6) hx hb dL_sets_475 (by decide) ?_
              exact hj477 (6 : Int32) u_440 σ_440 τ16 _ _ _ hu_440 h13 hM14 (ml_sub hl17 [1, 4, 5, 6, 0] rfl)
            · replace h13 := h13.2 hc81
              refine lv_bipush (v := 50) hx hb dL_sets_470 (by decide) ?_
              refine lv_goto (tgt := 477) hx hb dL_sets_472 (by decide) ?_
              exact hj477 (50 : Int32) u_440 σ_440 τ16 _ _ _ hu_440 h13 hM14 (ml_sub hl17 [1, 4, 5, 6, 0] rfl)
          · replace h13 := h13.2 hc76
            refine lv_iconst (v := 0) hx hb dL_sets_452 (by decide) ?_
            refine lv_goto (tgt := 481) hx hb dL_sets_453 (by decide) ?_
            exact hj481 (0 : Int32) u_440 σ_440 τ16 _ _ _ hu_440 h13 hM14 (ml_sub hl17 [1, 4, 5, 6, 0] rfl)
        refine lv_icmp_ne (tgt := 439) hx hb dL_sets_431 (by decide) (fun hc82 => ?_) (fun hc82 => ?_)
        · replace h8 := h8.1 hc82
          refine lv_iconst (v := 3) hx hb dL_sets_439 (by decide) ?_
          exact hj440 (3 : Int32) u_416 σ_416 τ11 _ _ _ hu_416 h8 hM9 (ml_sub hl12 [1, 2, 3, 4, 5, 0] rfl)
        · replace h8 := h8.2 hc82
          refine lv_bipush (v := 9) hx hb dL_sets_434 (by decide) ?_
          refine lv_goto (tgt := 440) hx hb dL_sets_436 (by decide) ?_
          exact hj440 (9 : Int32) u_416 σ_416 τ11 _ _ _ hu_416 h8 hM9 (ml_sub hl12 [1, 2, 3, 4, 5, 0] rfl)
      refine lv_if_ne (tgt := 415) hx hb dL_sets_408 (by decide) (fun hc83 => ?_) (fun hc83 => ?_)
      · replace h1 := h1.1 hc83
        refine lv_iconst (v := 2) hx hb dL_sets_415 (by decide) ?_
        exact hj416 (2 : Int32) 0 σ0 τ4 _ _ _ (Nat.zero_le _) h1 hM2 (ml_sub hl5 [1, 3, 4, 5, 0] rfl)
      · replace h1 := h1.2 hc83
        refine lv_iconst (v := 5) hx hb dL_sets_411 (by decide) ?_
        refine lv_goto (tgt := 416) hx hb dL_sets_412 (by decide) ?_
        exact hj416 (5 : Int32) 0 σ0 τ4 _ _ _ (Nat.zero_le _) h1 hM2 (ml_sub hl5 [1, 3, 4, 5, 0] rfl)
    · replace h1 := h1.2 hc7
      refine lv_iload_n hx hb dL_sets_215 rfl (ml_at hl5 4 rfl) ?_
      refine lv_bipush (v := 6) hx hb dL_sets_216 (by decide) ?_
      refine pr_li (As := fun ad => [.int y3, .int (6 : Int32)]) C hM2 (fun _ _ => rfl) hl5.1.1 cw_L_83 (fun ad => c_L_low l G ad y3 (6 : Int32) _ _ h1) (fun _ _ q => q.1) (n := 2) ⟨rfl, by decide, by decide, by decide +kernel⟩ rfl rfl ⟨Nat.le_of_ble_eq_true rfl, Nat.le_of_ble_eq_true rfl⟩ m_c0 (Nat.le_of_ble_eq_true rfl) dL_sets_218 ⟨(Nat.zero_le _), Nat.mul_le_mul_left 18 (Nat.zero_le _)⟩ (fun x86 τ87 H locs h84 hM85 => ?_)
      clear h1 hM2
      replace h84 := h84.2
      refine mr_istore (lv' := [(6, .int x86), (5, .int x3), (0, mV a1 (some 0)), (1, .int y1), (2, .int y2), (3, .int y3), (4, mV a2 (some 1))]) C hl5 dL_sets_221 (by decide) rfl (fun ls hl88 => ?_)
      clear hl5
      refine mr_aload_n C dL_sets_223 rfl (ml_at hl88 2 rfl) ?_
      refine lv_bipush (v := 6) hx hb dL_sets_224 (by decide) ?_
      refine lv_iconst (v := 0) hx hb dL_sets_226 (by decide) ?_
      obtain ⟨hr92, h84⟩ := h84
      obtain ⟨k94, hk94, h84⟩ := h84
      refine pr_wi (Is := [.int (6 : Int32), .int (0 : Int32)]) C E hM85 hr92 hl88.1.1 cl_L_89 (fun ad => c_L_ask l hfl G ad (6 : Int32) (0 : Int32) _ _ _ h84) (fun _ _ q => q.1) (n := 3) ⟨by decide, by decide, by decide +kernel⟩ rfl rfl ⟨Nat.le_of_ble_eq_true rfl, Nat.le_of_ble_eq_true rfl⟩ m_c0 (Nat.le_of_ble_eq_true rfl) dL_sets_227 hk94 (fun x91 σ93 H locs h89 hM90 => ?_)
      clear h84 hM85
      replace h89 := h89.2
      refine lv_bipush (v := -71) hx hb dL_sets_230 (by decide) ?_
      refine lv_icmp_ne (tgt := 260) hx hb dL_sets_232 (by decide) (fun hc95 => ?_) (fun hc95 => ?_)
      · replace h89 := h89.1 hc95
        refine lv_iconst (v := 0) hx hb dL_sets_260 (by decide) ?_
        exact mr_wi hk94 (pr_zret C hM90 hN hr hlk rfl h89 dL_sets_261)
      · replace h89 := h89.2 hc95
        refine mr_aload_n C dL_sets_235 rfl (ml_at hl88 2 rfl) ?_
        refine lv_iload hx hb dL_sets_236 (ml_at hl88 1 rfl) ?_
        refine lv_iconst (v := -1) hx hb dL_sets_238 (by decide) ?_
        obtain ⟨hr99, h89⟩ := h89
        obtain ⟨k101, hk101, h89⟩ := h89
        refine pr_wi (Is := [.int x3, .int (-1 : Int32)]) C E hM90 hr99 hl88.1.1 cl_L_89 (fun ad => c_L_ask l hfl G ad x3 (-1 : Int32) _ _ _ h89) (fun _ _ q => q.1) (n := 3) ⟨by decide, by decide, by decide +kernel⟩ rfl rfl ⟨Nat.le_of_ble_eq_true rfl, Nat.le_of_ble_eq_true rfl⟩ m_c0 (Nat.le_of_ble_eq_true rfl) dL_sets_239 hk101 (fun x98 σ100 H locs h96 hM97 => ?_)
        clear h89 hM90
        replace h96 := h96.2
        refine lv_bipush (v := -71) hx hb dL_sets_242 (by decide) ?_
        refine lv_icmp_ne (tgt := 260) hx hb dL_sets_244 (by decide) (fun hc102 => ?_) (fun hc102 => ?_)
        · replace h96 := h96.1 hc102
          refine lv_iconst (v := 0) hx hb dL_sets_260 (by decide) ?_
          exact mr_wi hk101 (pr_zret C hM97 hN hr hlk rfl h96 dL_sets_261)
        · replace h96 := h96.2 hc102
          refine mr_aload_n C dL_sets_247 rfl (ml_at hl88 2 rfl) ?_
          refine lv_iload hx hb dL_sets_248 (ml_at hl88 1 rfl) ?_
          refine lv_iload hx hb dL_sets_250 (ml_at hl88 1 rfl) ?_
          obtain ⟨hr106, h96⟩ := h96
          obtain ⟨k108, hk108, h96⟩ := h96
          refine pr_wi (Is := [.int x3, .int x3]) C E hM97 hr106 hl88.1.1 cl_L_89 (fun ad => c_L_ask l hfl G ad x3 x3 _ _ _ h96) (fun _ _ q => q.1) (n := 3) ⟨by decide, by decide, by decide +kernel⟩ rfl rfl ⟨Nat.le_of_ble_eq_true rfl, Nat.le_of_ble_eq_true rfl⟩ m_c0 (Nat.le_of_ble_eq_true rfl) dL_sets_252 hk108 (fun x105 σ107 H locs h103 hM104 => ?_)
          clear h96 hM97
          replace h103 := h103.2
          refine lv_bipush (v := -72) hx hb dL_sets_255 (by decide) ?_
          refine lv_icmp_eq (tgt := 262) hx hb dL_sets_257 (by decide) (fun hc109 => ?_) (fun hc109 => ?_)
          · replace h103 := h103.1 hc109
            refine mr_aload C dL_sets_262 (ml_at hl88 6 rfl) ?_
            refine lv_bipush (v := 10) hx hb dL_sets_264 (by decide) ?_
            refine lv_iload hx hb dL_sets_266 (ml_at hl88 1 rfl) ?_
            refine lv_imul hx hb dL_sets_268 ?_
            refine lv_iconst (v := 3) hx hb dL_sets_269 (by decide) ?_
            refine lv_iadd hx hb dL_sets_270 ?_
            obtain ⟨j110, ej111, ej111b, h103⟩ := h103
            refine pr_iald C hM104 (i := 1) rfl (by decide) ej111 ej111b (by decide) dL_sets_271 ?_
            refine mr_istore (lv' := [(7, .int (mI τ87 1 j110)), (6, .int x86), (5, .int x3), (0, mV a1 (some 0)), (1, .int y1), (2, .int y2), (3, .int y3), (4, mV a2 (some 1))]) C hl88 dL_sets_272 (by decide) rfl (fun ls hl112 => ?_)
            clear hl88
            refine lv_iload hx hb dL_sets_274 (ml_at hl112 0 rfl) ?_
            obtain ⟨J306, hJ306, h103⟩ := h103
            have hj306 : ∀ (xk0_306 : Int32) (u_306 : Nat) (σ_306 τ_306 : mS) (H : Heap) (locs : List Loc) (ls : Array Slot), u_306 ≤ b → J306 xk0_306 u_306 σ_306 τ_306 → pM G a1 a2 (mN σ0) s σ_306 τ_306 H locs → ml_has ls 10 [(0, mV a1 (some 0)), (4, mV a2 (some 1)), (5, .int x3), (6, .int x86), (7, .int (mI τ87 1 j110))] → W p l e (mRb 9 164 b) s m ([mV a1 (some 0), .int y1, .int y2, .int y3, mV a2 (some 1)] : List Value).toArray below meth c H locs u_306 (18 * u_306) (MQ below (va_Qi (fun r (q : mS × mS) => Q r q.1 q.2 ∧ narrow .boolean (.int r) = .int r) (pPost G N1 a1 a2 (mN σ0)) (pA a1 a2 (mN σ0) N1)) ([mV a1 (some 0), .int y1, .int y2, .int y3, mV a2 (some 1)] : List Value).toArray s b (18 * b) (pA a1 a2 (mN σ0) N1)) (F0 m 306 ls [.int xk0_306]) := by
              intro xk0_306 u_306 σ_306 τ_306 H locs ls hu_306 h_306 hM_306 hl_306
              replace h_306 := hJ306 xk0_306 u_306 σ_306 τ_306 h_306
              refine mr_istore (lv' := [(8, .int xk0_306), (0, mV a1 (some 0)), (4, mV a2 (some 1)), (5, .int x3), (6, .int x86), (7, .int (mI τ87 1 j110))]) C hl_306 dL_sets_306 (by decide) rfl (fun ls hl113 => ?_)
              clear hl_306
              refine lv_iload hx hb dL_sets_308 (ml_at hl113 4 rfl) ?_
              refine lv_iload hx hb dL_sets_310 (ml_at hl113 3 rfl) ?_
              refine lv_icmp_gt (tgt := 334) hx hb dL_sets_312 (by decide) (fun hc114 => ?_) (fun hc114 => ?_)
              · replace h_306 := h_306.1 hc114
                refine lv_iload hx hb dL_sets_334 (ml_at hl113 0 rfl) ?_
                refine lv_iconst (v := 3) hx hb dL_sets_336 (by decide) ?_
                refine lv_icmp_ne (tgt := 359) hx hb dL_sets_337 (by decide) (fun hc115 => ?_) (fun hc115 => ?_)
                · replace h_306 := h_306.1 hc115
                  refine mr_aload C dL_sets_359 (ml_at hl113 2 rfl) ?_
                  refine lv_bipush (v := 10) hx hb dL_sets_361 (by decide) ?_
                  refine lv_iload hx hb dL_sets_363 (ml_at hl113 3 rfl) ?_
                  refine lv_imul hx hb dL_sets_365 ?_
                  refine lv_iconst (v := 3) hx hb dL_sets_366 (by decide) ?_
                  refine lv_iadd hx hb dL_sets_367 ?_
                  refine lv_iload hx hb dL_sets_368 (ml_at hl113 5 rfl) ?_
                  refine lv_iload hx hb dL_sets_370 (ml_at hl113 4 rfl) ?_
                  refine lv_iconst (v := 1) hx hb dL_sets_372 (by decide) ?_
                  refine lv_iadd hx hb dL_sets_373 ?_
                  refine lv_iconst (v := 3) hx hb dL_sets_374 (by decide) ?_
                  refine lv_iload hx hb dL_sets_375 (ml_at hl113 0 rfl) ?_
                  refine lv_imul hx hb dL_sets_377 ?_
                  refine lv_ishl hx hb dL_sets_378 ?_
                  refine lv_iadd hx hb dL_sets_379 ?_
                  obtain ⟨j116, ej117, ej117b, h_306⟩ := h_306
                  refine pr_iast C hM_306 (i := 1) rfl (by decide) ej117 ej117b (by decide) dL_sets_380 (fun H locs hM118 => ?_)
                  clear hM_306
                  obtain ⟨τ119, eτ119⟩ : ∃ y, y = sI τ_306 1 j116 ((mI τ87 1 j110) + ((x86 + (1 : Int32)) <<< (((3 : Int32) * xk0_306) &&& 31))) := ⟨_, rfl⟩
                  rw [← eτ119] at hM118
                  replace h_306 := h_306 τ119 eτ119
                  refine mr_aload_n C dL_sets_381 rfl (ml_at hl113 1 rfl) ?_
                  refine lv_iload hx hb dL_sets_382 (ml_at hl113 3 rfl) ?_
                  refine lv_iload hx hb dL_sets_384 (ml_at hl113 4 rfl) ?_
                  obtain ⟨hr123, h_306⟩ := h_306
                  obtain ⟨k125, hk125, h_306⟩ := h_306
                  refine pr_wi (Is := [.int x3, .int x86]) C E hM118 hr123 hl113.1.1 cl_L_89 (fun ad => c_L_ask l hfl G ad x3 x86 _ _ _ h_306) (fun _ _ q => q.1) (n := 3) ⟨by decide, by decide, by decide +kernel⟩ rfl rfl ⟨Nat.le_of_ble_eq_true rfl, Nat.le_of_ble_eq_true rfl⟩ m_c0 (Nat.le_of_ble_eq_true rfl) dL_sets_386 hk125 (fun x122 σ124 H locs h120 hM121 => ?_)
                  clear h_306 hM118
                  replace h120 := h120.2
                  refine lv_iload hx hb dL_sets_389 (ml_at hl113 0 rfl) ?_
                  refine lv_iconst (v := 1) hx hb dL_sets_391 (by decide) ?_
                  refine lv_iadd hx hb dL_sets_392 ?_
                  refine lv_icmp_ne (tgt := 400) hx hb dL_sets_393 (by decide) (fun hc126 => ?_) (fun hc126 => ?_)
                  · replace h120 := h120.1 hc126
                    refine lv_iconst (v := 0) hx hb dL_sets_400 (by decide) ?_
                    exact mr_wi hk125 (pr_zret C hM121 hN hr hlk rfl h120 dL_sets_401)
                  · replace h120 := h120.2 hc126
                    refine lv_iconst (v := 1) hx hb dL_sets_396 (by decide) ?_
                    refine lv_goto (tgt := 401) hx hb dL_sets_397 (by decide) ?_
                    exact mr_wi hk125 (pr_zret C hM121 hN hr hlk rfl h120 dL_sets_401)
                · replace h_306 := h_306.2 hc115
                  refine mr_aload_n C dL_sets_340 rfl (ml_at hl113 1 rfl) ?_
                  refine lv_iload hx hb dL_sets_341 (ml_at hl113 3 rfl) ?_
                  refine lv_iload hx hb dL_sets_343 (ml_at hl113 4 rfl) ?_
                  obtain ⟨hr130, h_306⟩ := h_306
                  obtain ⟨k132, hk132, h_306⟩ := h_306
                  refine pr_wi (Is := [.int x3, .int x86]) C E hM_306 hr130 hl113.1.1 cl_L_89 (fun ad => c_L_ask l hfl G ad x3 x86 _ _ _ h_306) (fun _ _ q => q.1) (n := 3) ⟨by decide, by decide, by decide +kernel⟩ rfl rfl ⟨Nat.le_of_ble_eq_true rfl, Nat.le_of_ble_eq_true rfl⟩ m_c0 (Nat.le_of_ble_eq_true rfl) dL_sets_345 hk132 (fun x129 σ131 H locs h127 hM128 => ?_)
                  clear h_306 hM_306
                  replace h127 := h127.2
                  refine lv_bipush (v := -73) hx hb dL_sets_348 (by decide) ?_
                  refine lv_icmp_ne (tgt := 357) hx hb dL_sets_350 (by decide) (fun hc133 => ?_) (fun hc133 => ?_)
                  · replace h127 := h127.1 hc133
                    refine lv_iconst (v := 0) hx hb dL_sets_357 (by decide) ?_
                    exact mr_wi hk132 (pr_zret C hM128 hN hr hlk rfl h127 dL_sets_358)
                  · replace h127 := h127.2 hc133
                    refine lv_iconst (v := 1) hx hb dL_sets_353 (by decide) ?_
                    refine lv_goto (tgt := 358) hx hb dL_sets_354 (by decide) ?_
                    exact mr_wi hk132 (pr_zret C hM128 hN hr hlk rfl h127 dL_sets_358)
              · replace h_306 := h_306.2 hc114
                refine mr_aload_n C dL_sets_315 rfl (ml_at hl113 1 rfl) ?_
                refine lv_iload hx hb dL_sets_316 (ml_at hl113 3 rfl) ?_
                refine lv_iload hx hb dL_sets_318 (ml_at hl113 4 rfl) ?_
                obtain ⟨hr137, h_306⟩ := h_306
                obtain ⟨k139, hk139, h_306⟩ := h_306
                refine pr_wi (Is := [.int x3, .int x86]) C E hM_306 hr137 hl113.1.1 cl_L_89 (fun ad => c_L_ask l hfl G ad x3 x86 _ _ _ h_306) (fun _ _ q => q.1) (n := 3) ⟨by decide, by decide, by decide +kernel⟩ rfl rfl ⟨Nat.le_of_ble_eq_true rfl, Nat.le_of_ble_eq_true rfl⟩ m_c0 (Nat.le_of_ble_eq_true rfl) dL_sets_320 hk139 (fun x136 σ138 H locs h134 hM135 => ?_)
                clear h_306 hM_306
                replace h134 := h134.2
                refine lv_bipush (v := -72) hx hb dL_sets_323 (by decide) ?_
                refine lv_icmp_ne (tgt := 332) hx hb dL_sets_325 (by decide) (fun hc140 => ?_) (fun hc140 => ?_)
                · replace h134 := h134.1 hc140
                  refine lv_iconst (v := 0) hx hb dL_sets_332 (by decide) ?_
                  exact mr_wi hk139 (pr_zret C hM135 hN hr hlk rfl h134 dL_sets_333)
                · replace h134 := h134.2 hc140
                  refine lv_iconst (v := 1) hx hb dL_sets_328 (by decide) ?_
                  refine lv_goto (tgt := 333) hx hb dL_sets_329 (by decide) ?_
                  exact mr_wi hk139 (pr_zret C hM135 hN hr hlk rfl h134 dL_sets_333)
            refine lv_if_ne (tgt := 283) hx hb dL_sets_276 (by decide) (fun hc141 => ?_) (fun hc141 => ?_)
            · replace h103 := h103.1 hc141
              refine lv_iload hx hb dL_sets_283 (ml_at hl112 0 rfl) ?_
              refine lv_bipush (v := 8) hx hb dL_sets_285 (by decide) ?_
              refine lv_icmp_ge (tgt := 294) hx hb dL_sets_287 (by decide) (fun hc142 => ?_) (fun hc142 => ?_)
              · replace h103 := h103.1 hc142
                refine lv_iload hx hb dL_sets_294 (ml_at hl112 0 rfl) ?_
                refine lv_bipush (v := 64) hx hb dL_sets_296 (by decide) ?_
                refine lv_icmp_ge (tgt := 305) hx hb dL_sets_298 (by decide) (fun hc143 => ?_) (fun hc143 => ?_)
                · replace h103 := h103.1 hc143
                  refine lv_iconst (v := 3) hx hb dL_sets_305 (by decide) ?_
                  exact hj306 (3 : Int32) (((0 + k94) + k101) + k108) σ107 τ87 _ _ _ hk108 h103 hM104 (ml_sub hl112 [3, 7, 2, 1, 0] rfl)
                · replace h103 := h103.2 hc143
                  refine lv_iconst (v := 2) hx hb dL_sets_301 (by decide) ?_
                  refine lv_goto (tgt := 306) hx hb dL_sets_302 (by decide) ?_
                  exact hj306 (2 : Int32) (((0 + k94) + k101) + k108) σ107 τ87 _ _ _ hk108 h103 hM104 (ml_sub hl112 [3, 7, 2, 1, 0] rfl)
              · replace h103 := h103.2 hc142
                refine lv_iconst (v := 1) hx hb dL_sets_290 (by decide) ?_
                refine lv_goto (tgt := 306) hx hb dL_sets_291 (by decide) ?_
                exact hj306 (1 : Int32) (((0 + k94) + k101) + k108) σ107 τ87 _ _ _ hk108 h103 hM104 (ml_sub hl112 [3, 7, 2, 1, 0] rfl)
            · replace h103 := h103.2 hc141
              refine lv_iconst (v := 0) hx hb dL_sets_279 (by decide) ?_
              refine lv_goto (tgt := 306) hx hb dL_sets_280 (by decide) ?_
              exact hj306 (0 : Int32) (((0 + k94) + k101) + k108) σ107 τ87 _ _ _ hk108 h103 hM104 (ml_sub hl112 [3, 7, 2, 1, 0] rfl)
          · replace h103 := h103.2 hc109
            refine lv_iconst (v := 0) hx hb dL_sets_260 (by decide) ?_
            exact mr_wi hk108 (pr_zret C hM104 hN hr hlk rfl h103 dL_sets_261)
  · replace h1 := h1.2 hc6
    refine lv_iconst (v := 1) hx hb dL_sets_13 (by decide) ?_
    refine lv_iload_n hx hb dL_sets_14 rfl (ml_at hl5 4 rfl) ?_
    refine lv_iload_n hx hb dL_sets_15 rfl (ml_at hl5 4 rfl) ?_
    refine lv_bipush (v := 96) hx hb dL_sets_16 (by decide) ?_
    refine lv_iand hx hb dL_sets_18 ?_
    obtain ⟨J28, hJ28, h1⟩ := h1
    have hj28 : ∀ (xk0_28 : Int32) (u_28 : Nat) (σ_28 τ_28 : mS) (H : Heap) (locs : List Loc) (ls : Array Slot), u_28 ≤ b → J28 xk0_28 u_28 σ_28 τ_28 → pM G a1 a2 (mN σ0) s σ_28 τ_28 H locs → ml_has ls 10 [(0, mV a1 (some 0)), (2, .int y2), (3, .int y3), (4, mV a2 (some 1)), (5, .int x3)] → W p l e (mRb 9 164 b) s m ([mV a1 (some 0), .int y1, .int y2, .int y3, mV a2 (some 1)] : List Value).toArray below meth c H locs u_28 (18 * u_28) (MQ below (va_Qi (fun r (q : mS × mS) => Q r q.1 q.2 ∧ narrow .boolean (.int r) = .int r) (pPost G N1 a1 a2 (mN σ0)) (pA a1 a2 (mN σ0) N1)) ([mV a1 (some 0), .int y1, .int y2, .int y3, mV a2 (some 1)] : List Value).toArray s b (18 * b) (pA a1 a2 (mN σ0) N1)) (F0 m 28 ls [.int xk0_28, .int y3, .int (1 : Int32)]) := by
      intro xk0_28 u_28 σ_28 τ_28 H locs ls hu_28 h_28 hM_28 hl_28
      replace h_28 := hJ28 xk0_28 u_28 σ_28 τ_28 h_28
      refine pr_li (As := fun ad => [.int y3, .int xk0_28]) C hM_28 (fun _ _ => rfl) hl_28.1.1 cw_L_83 (fun ad => c_L_low l G ad y3 xk0_28 _ _ h_28) (fun _ _ q => q.1) (n := 2) ⟨rfl, by decide, by decide, by decide +kernel⟩ rfl rfl ⟨Nat.le_of_ble_eq_true rfl, Nat.le_of_ble_eq_true rfl⟩ (m_cI m_c0) (Nat.le_of_ble_eq_true rfl) dL_sets_28 ⟨hu_28, Nat.mul_le_mul_left 18 hu_28⟩ (fun x146 τ147 H locs h144 hM145 => ?_)
      clear h_28 hM_28
      replace h144 := h144.2
      refine lv_iadd hx hb dL_sets_31 ?_
      refine mr_istore (lv' := [(6, .int ((1 : Int32) + x146)), (0, mV a1 (some 0)), (2, .int y2), (3, .int y3), (4, mV a2 (some 1)), (5, .int x3)]) C hl_28 dL_sets_32 (by decide) rfl (fun ls hl148 => ?_)
      clear hl_28
      refine lv_iload_n hx hb dL_sets_34 rfl (ml_at hl148 2 rfl) ?_
      refine lv_bipush (v := 48) hx hb dL_sets_35 (by decide) ?_
      refine lv_iand hx hb dL_sets_37 ?_
      obtain ⟨J76, hJ76, h144⟩ := h144
      have hj76 : ∀ (xk0_76 : Int32) (u_76 : Nat) (σ_76 τ_76 : mS) (H : Heap) (locs : List Loc) (ls : Array Slot), u_76 ≤ b → J76 xk0_76 u_76 σ_76 τ_76 → pM G a1 a2 (mN σ0) s σ_76 τ_76 H locs → ml_has ls 10 [(0, mV a1 (some 0)), (4, mV a2 (some 1)), (5, .int x3), (6, .int ((1 : Int32) + x146))] → W p l e (mRb 9 164 b) s m ([mV a1 (some 0), .int y1, .int y2, .int y3, mV a2 (some 1)] : List Value).toArray below meth c H locs u_76 (18 * u_76) (MQ below (va_Qi (fun r (q : mS × mS) => Q r q.1 q.2 ∧ narrow .boolean (.int r) = .int r) (pPost G N1 a1 a2 (mN σ0)) (pA a1 a2 (mN σ0) N1)) ([mV a1 (some 0), .int y1, .int y2, .int y3, mV a2 (some 1)] : List Value).toArray s b (18 * b) (pA a1 a2 (mN σ0) N1)) (F0 m 76 ls [.int xk0_76]) := by
        intro xk0_76 u_76 σ_76 τ_76 H locs ls hu_76 h_76 hM_76 hl_76
        replace h_76 := hJ76 xk0_76 u_76 σ_76 τ_76 h_76
        refine mr_istore (lv' := [(7, .int xk0_76), (0, mV a1 (some 0)), (4, mV a2 (some 1)), (5, .int x3), (6, .int ((1 : Int32) + x146))]) C hl_76 dL_sets_76 (by decide) rfl (fun ls hl149 => ?_)
        clear hl_76
        refine mr_aload C dL_sets_78 (ml_at hl149 2 rfl) ?_
        refine lv_bipush (v := 10) hx hb dL_sets_80 (by decide) ?_
        refine lv_iload hx hb dL_sets_82 (ml_at hl149 3 rfl) ?_
        refine lv_imul hx hb dL_sets_84 ?_
        obtain ⟨j150, ej151, ej151b, h_76⟩ := h_76
        refine pr_iald C hM_76 (i := 1) rfl (by decide) ej151 ej151b (by decide) dL_sets_85 ?_
        refine mr_istore (lv' := [(8, .int (mI τ_76 1 j150)), (7, .int xk0_76), (0, mV a1 (some 0)), (4, mV a2 (some 1)), (5, .int x3), (6, .int ((1 : Int32) + x146))]) C hl149 dL_sets_86 (by decide) rfl (fun ls hl152 => ?_)
        clear hl149
        refine mr_aload C dL_sets_88 (ml_at hl152 3 rfl) ?_
        refine lv_bipush (v := 10) hx hb dL_sets_90 (by decide) ?_
        refine lv_iload hx hb dL_sets_92 (ml_at hl152 4 rfl) ?_
        refine lv_imul hx hb dL_sets_94 ?_
        refine lv_iload hx hb dL_sets_95 (ml_at hl152 5 rfl) ?_
        obtain ⟨j153, ej154, ej154b, h_76⟩ := h_76
        refine pr_iast C hM_76 (i := 1) rfl (by decide) ej154 ej154b (by decide) dL_sets_97 (fun H locs hM155 => ?_)
        clear hM_76
        obtain ⟨τ156, eτ156⟩ : ∃ y, y = sI τ_76 1 j153 ((1 : Int32) + x146) := ⟨_, rfl⟩
        rw [← eτ156] at hM155
        replace h_76 := h_76 τ156 eτ156
        refine mr_aload C dL_sets_98 (ml_at hl152 3 rfl) ?_
        refine lv_bipush (v := 10) hx hb dL_sets_100 (by decide) ?_
        refine lv_iload hx hb dL_sets_102 (ml_at hl152 4 rfl) ?_
        refine lv_imul hx hb dL_sets_104 ?_
        refine lv_iconst (v := 1) hx hb dL_sets_105 (by decide) ?_
        refine lv_iadd hx hb dL_sets_106 ?_
        refine lv_iload hx hb dL_sets_107 (ml_at hl152 1 rfl) ?_
        obtain ⟨j157, ej158, ej158b, h_76⟩ := h_76
        refine pr_iast C hM155 (i := 1) rfl (by decide) ej158 ej158b (by decide) dL_sets_109 (fun H locs hM159 => ?_)
        clear hM155
        obtain ⟨τ160, eτ160⟩ : ∃ y, y = sI τ156 1 j157 xk0_76 := ⟨_, rfl⟩
        rw [← eτ160] at hM159
        replace h_76 := h_76 τ160 eτ160
        refine mr_aload C dL_sets_110 (ml_at hl152 3 rfl) ?_
        refine lv_bipush (v := 10) hx hb dL_sets_112 (by decide) ?_
        refine lv_iload hx hb dL_sets_114 (ml_at hl152 4 rfl) ?_
        refine lv_imul hx hb dL_sets_116 ?_
        refine lv_iconst (v := 2) hx hb dL_sets_117 (by decide) ?_
        refine lv_iadd hx hb dL_sets_118 ?_
        refine lv_iconst (v := 0) hx hb dL_sets_119 (by decide) ?_
        obtain ⟨j161, ej162, ej162b, h_76⟩ := h_76
        refine pr_iast C hM159 (i := 1) rfl (by decide) ej162 ej162b (by decide) dL_sets_120 (fun H locs hM163 => ?_)
        clear hM159
        obtain ⟨τ164, eτ164⟩ : ∃ y, y = sI τ160 1 j161 (0 : Int32) := ⟨_, rfl⟩
        rw [← eτ164] at hM163
        replace h_76 := h_76 τ164 eτ164
        refine mr_aload_n C dL_sets_121 rfl (ml_at hl152 2 rfl) ?_
        refine lv_bipush (v := 6) hx hb dL_sets_122 (by decide) ?_
        refine lv_iconst (v := 0) hx hb dL_sets_124 (by decide) ?_
        refine lv_iconst (v := 0) hx hb dL_sets_125 (by decide) ?_
        obtain ⟨hr168, h_76⟩ := h_76
        obtain ⟨k170, hk170, h_76⟩ := h_76
        refine pr_wi (Is := [.int (6 : Int32), .int (0 : Int32), .int (0 : Int32)]) C E hM163 hr168 hl152.1.1 cl_L_86 (fun ad => c_L_setWork l hfl G ad (6 : Int32) (0 : Int32) (0 : Int32) _ _ _ h_76) (fun _ _ q => q.1) (n := 4) ⟨by decide, by decide, by decide +kernel⟩ rfl rfl ⟨Nat.le_of_ble_eq_true rfl, Nat.le_of_ble_eq_true rfl⟩ m_c0 (Nat.le_of_ble_eq_true rfl) dL_sets_126 hk170 (fun x167 σ169 H locs h165 hM166 => ?_)
        clear h_76 hM163
        replace h165 := h165.2
        refine lv_bipush (v := -71) hx hb dL_sets_129 (by decide) ?_
        refine lv_icmp_ne (tgt := 207) hx hb dL_sets_131 (by decide) (fun hc171 => ?_) (fun hc171 => ?_)
        · replace h165 := h165.1 hc171
          refine lv_iconst (v := 0) hx hb dL_sets_207 (by decide) ?_
          exact mr_wi hk170 (pr_zret C hM166 hN hr hlk rfl h165 dL_sets_208)
        · replace h165 := h165.2 hc171
          refine mr_aload_n C dL_sets_134 rfl (ml_at hl152 2 rfl) ?_
          refine lv_iload hx hb dL_sets_135 (ml_at hl152 4 rfl) ?_
          refine lv_iconst (v := 0) hx hb dL_sets_137 (by decide) ?_
          refine lv_iconst (v := 0) hx hb dL_sets_138 (by decide) ?_
          obtain ⟨hr175, h165⟩ := h165
          obtain ⟨k177, hk177, h165⟩ := h165
          refine pr_wi (Is := [.int x3, .int (0 : Int32), .int (0 : Int32)]) C E hM166 hr175 hl152.1.1 cl_L_86 (fun ad => c_L_setWork l hfl G ad x3 (0 : Int32) (0 : Int32) _ _ _ h165) (fun _ _ q => q.1) (n := 4) ⟨by decide, by decide, by decide +kernel⟩ rfl rfl ⟨Nat.le_of_ble_eq_true rfl, Nat.le_of_ble_eq_true rfl⟩ m_c0 (Nat.le_of_ble_eq_true rfl) dL_sets_139 hk177 (fun x174 σ176 H locs h172 hM173 => ?_)
          clear h165 hM166
          replace h172 := h172.2
          refine lv_bipush (v := -72) hx hb dL_sets_142 (by decide) ?_
          refine lv_icmp_ne (tgt := 207) hx hb dL_sets_144 (by decide) (fun hc178 => ?_) (fun hc178 => ?_)
          · replace h172 := h172.1 hc178
            refine lv_iconst (v := 0) hx hb dL_sets_207 (by decide) ?_
            exact mr_wi hk177 (pr_zret C hM173 hN hr hlk rfl h172 dL_sets_208)
          · replace h172 := h172.2 hc178
            refine mr_aload_n C dL_sets_147 rfl (ml_at hl152 2 rfl) ?_
            refine lv_iload hx hb dL_sets_148 (ml_at hl152 4 rfl) ?_
            refine lv_bipush (v := 21) hx hb dL_sets_150 (by decide) ?_
            refine lv_iconst (v := 0) hx hb dL_sets_152 (by decide) ?_
            obtain ⟨hr182, h172⟩ := h172
            obtain ⟨k184, hk184, h172⟩ := h172
            refine pr_wi (Is := [.int x3, .int (21 : Int32), .int (0 : Int32)]) C E hM173 hr182 hl152.1.1 cl_L_86 (fun ad => c_L_setWork l hfl G ad x3 (21 : Int32) (0 : Int32) _ _ _ h172) (fun _ _ q => q.1) (n := 4) ⟨by decide, by decide, by decide +kernel⟩ rfl rfl ⟨Nat.le_of_ble_eq_true rfl, Nat.le_of_ble_eq_true rfl⟩ m_c0 (Nat.le_of_ble_eq_true rfl) dL_sets_153 hk184 (fun x181 σ183 H locs h179 hM180 => ?_)
            clear h172 hM173
            replace h179 := h179.2
            refine lv_bipush (v := -72) hx hb dL_sets_156 (by decide) ?_
            refine lv_icmp_ne (tgt := 207) hx hb dL_sets_158 (by decide) (fun hc185 => ?_) (fun hc185 => ?_)
            · replace h179 := h179.1 hc185
              refine lv_iconst (v := 0) hx hb dL_sets_207 (by decide) ?_
              exact mr_wi hk184 (pr_zret C hM180 hN hr hlk rfl h179 dL_sets_208)
            · replace h179 := h179.2 hc185
              refine mr_aload_n C dL_sets_161 rfl (ml_at hl152 2 rfl) ?_
              refine lv_iload hx hb dL_sets_162 (ml_at hl152 4 rfl) ?_
              refine lv_iconst (v := 1) hx hb dL_sets_164 (by decide) ?_
              refine lv_bipush (v := 21) hx hb dL_sets_165 (by decide) ?_
              obtain ⟨hr189, h179⟩ := h179
              obtain ⟨k191, hk191, h179⟩ := h179
              refine pr_wi (Is := [.int x3, .int (1 : Int32), .int (21 : Int32)]) C E hM180 hr189 hl152.1.1 cl_L_86 (fun ad => c_L_setWork l hfl G ad x3 (1 : Int32) (21 : Int32) _ _ _ h179) (fun _ _ q => q.1) (n := 4) ⟨by decide, by decide, by decide +kernel⟩ rfl rfl ⟨Nat.le_of_ble_eq_true rfl, Nat.le_of_ble_eq_true rfl⟩ m_c0 (Nat.le_of_ble_eq_true rfl) dL_sets_167 hk191 (fun x188 σ190 H locs h186 hM187 => ?_)
              clear h179 hM180
              replace h186 := h186.2
              refine lv_bipush (v := -72) hx hb dL_sets_170 (by decide) ?_
              refine lv_icmp_ne (tgt := 207) hx hb dL_sets_172 (by decide) (fun hc192 => ?_) (fun hc192 => ?_)
              · replace h186 := h186.1 hc192
                refine lv_iconst (v := 0) hx hb dL_sets_207 (by decide) ?_
                exact mr_wi hk191 (pr_zret C hM187 hN hr hlk rfl h186 dL_sets_208)
              · replace h186 := h186.2 hc192
                refine mr_aload_n C dL_sets_175 rfl (ml_at hl152 2 rfl) ?_
                refine lv_iload hx hb dL_sets_176 (ml_at hl152 4 rfl) ?_
                refine lv_iconst (v := 1) hx hb dL_sets_178 (by decide) ?_
                refine lv_iconst (v := -1) hx hb dL_sets_179 (by decide) ?_
                obtain ⟨hr196, h186⟩ := h186
                obtain ⟨k198, hk198, h186⟩ := h186
                refine pr_wi (Is := [.int x3, .int (1 : Int32), .int (-1 : Int32)]) C E hM187 hr196 hl152.1.1 cl_L_86 (fun ad => c_L_setWork l hfl G ad x3 (1 : Int32) (-1 : Int32) _ _ _ h186) (fun _ _ q => q.1) (n := 4) ⟨by decide, by decide, by decide +kernel⟩ rfl rfl ⟨Nat.le_of_ble_eq_true rfl, Nat.le_of_ble_eq_true rfl⟩ m_c0 (Nat.le_of_ble_eq_true rfl) dL_sets_180 hk198 (fun x195 σ197 H locs h193 hM194 => ?_)
                clear h186 hM187
                replace h193 := h193.2
                refine lv_bipush (v := -72) hx hb dL_sets_183 (by decide) ?_
                refine lv_icmp_ne (tgt := 207) hx hb dL_sets_185 (by decide) (fun hc199 => ?_) (fun hc199 => ?_)
                · replace h193 := h193.1 hc199
                  refine lv_iconst (v := 0) hx hb dL_sets_207 (by decide) ?_
                  exact mr_wi hk198 (pr_zret C hM194 hN hr hlk rfl h193 dL_sets_208)
                · replace h193 := h193.2 hc199
                  refine mr_aload_n C dL_sets_188 rfl (ml_at hl152 2 rfl) ?_
                  refine lv_iload hx hb dL_sets_189 (ml_at hl152 4 rfl) ?_
                  refine lv_iload hx hb dL_sets_191 (ml_at hl152 5 rfl) ?_
                  refine lv_iload hx hb dL_sets_193 (ml_at hl152 1 rfl) ?_
                  obtain ⟨hr203, h193⟩ := h193
                  obtain ⟨k205, hk205, h193⟩ := h193
                  refine pr_wi (Is := [.int x3, .int ((1 : Int32) + x146), .int xk0_76]) C E hM194 hr203 hl152.1.1 cl_L_86 (fun ad => c_L_setWork l hfl G ad x3 ((1 : Int32) + x146) xk0_76 _ _ _ h193) (fun _ _ q => q.1) (n := 4) ⟨by decide, by decide, by decide +kernel⟩ rfl rfl ⟨Nat.le_of_ble_eq_true rfl, Nat.le_of_ble_eq_true rfl⟩ m_c0 (Nat.le_of_ble_eq_true rfl) dL_sets_195 hk205 (fun x202 σ204 H locs h200 hM201 => ?_)
                  clear h193 hM194
                  replace h200 := h200.2
                  refine lv_iload hx hb dL_sets_198 (ml_at hl152 0 rfl) ?_
                  refine lv_icmp_ne (tgt := 207) hx hb dL_sets_200 (by decide) (fun hc206 => ?_) (fun hc206 => ?_)
                  · replace h200 := h200.1 hc206
                    refine lv_iconst (v := 0) hx hb dL_sets_207 (by decide) ?_
                    exact mr_wi hk205 (pr_zret C hM201 hN hr hlk rfl h200 dL_sets_208)
                  · replace h200 := h200.2 hc206
                    refine lv_iconst (v := 1) hx hb dL_sets_203 (by decide) ?_
                    refine lv_goto (tgt := 208) hx hb dL_sets_204 (by decide) ?_
                    exact mr_wi hk205 (pr_zret C hM201 hN hr hlk rfl h200 dL_sets_208)
      refine lv_if_ne (tgt := 53) hx hb dL_sets_38 (by decide) (fun hc207 => ?_) (fun hc207 => ?_)
      · replace h144 := h144.1 hc207
        refine lv_iload_n hx hb dL_sets_53 rfl (ml_at hl148 2 rfl) ?_
        refine lv_bipush (v := 48) hx hb dL_sets_54 (by decide) ?_
        refine lv_iand hx hb dL_sets_56 ?_
        refine lv_bipush (v := 16) hx hb dL_sets_57 (by decide) ?_
        refine lv_icmp_ne (tgt := 75) hx hb dL_sets_59 (by decide) (fun hc208 => ?_) (fun hc208 => ?_)
        · replace h144 := h144.1 hc208
          refine lv_iconst (v := 0) hx hb dL_sets_75 (by decide) ?_
          exact hj76 (0 : Int32) u_28 σ_28 τ147 _ _ _ hu_28 h144 hM145 (ml_sub hl148 [1, 4, 5, 0] rfl)
        · replace h144 := h144.2 hc208
          refine lv_iconst (v := 1) hx hb dL_sets_62 (by decide) ?_
          refine lv_iload_n hx hb dL_sets_63 rfl (ml_at hl148 3 rfl) ?_
          refine lv_bipush (v := 7) hx hb dL_sets_64 (by decide) ?_
          refine lv_ishr hx hb dL_sets_66 ?_
          refine lv_iconst (v := 3) hx hb dL_sets_67 (by decide) ?_
          refine pr_li (As := fun ad => [.int (y3 >>> ((7 : Int32) &&& 31)), .int (3 : Int32)]) C hM145 (fun _ _ => rfl) hl148.1.1 cw_L_83 (fun ad => c_L_low l G ad (y3 >>> ((7 : Int32) &&& 31)) (3 : Int32) _ _ h144) (fun _ _ q => q.1) (n := 2) ⟨rfl, by decide, by decide, by decide +kernel⟩ rfl rfl ⟨Nat.le_of_ble_eq_true rfl, Nat.le_of_ble_eq_true rfl⟩ (m_cI m_c0) (Nat.le_of_ble_eq_true rfl) dL_sets_68 ⟨hu_28, Nat.mul_le_mul_left 18 hu_28⟩ (fun x211 τ212 H locs h209 hM210 => ?_)
          clear h144 hM145
          replace h209 := h209.2
          refine lv_iadd hx hb dL_sets_71 ?_
          refine lv_goto (tgt := 76) hx hb dL_sets_72 (by decide) ?_
          exact hj76 ((1 : Int32) + x211) u_28 σ_28 τ212 _ _ _ hu_28 h209 hM210 (ml_sub hl148 [1, 4, 5, 0] rfl)
      · replace h144 := h144.2 hc207
        refine lv_iload_n hx hb dL_sets_41 rfl (ml_at hl148 3 rfl) ?_
        refine lv_bipush (v := 7) hx hb dL_sets_42 (by decide) ?_
        refine lv_ishr hx hb dL_sets_44 ?_
        refine lv_bipush (v := 21) hx hb dL_sets_45 (by decide) ?_
        refine pr_li (As := fun ad => [.int (y3 >>> ((7 : Int32) &&& 31)), .int (21 : Int32)]) C hM145 (fun _ _ => rfl) hl148.1.1 cw_L_83 (fun ad => c_L_low l G ad (y3 >>> ((7 : Int32) &&& 31)) (21 : Int32) _ _ h144) (fun _ _ q => q.1) (n := 2) ⟨rfl, by decide, by decide, by decide +kernel⟩ rfl rfl ⟨Nat.le_of_ble_eq_true rfl, Nat.le_of_ble_eq_true rfl⟩ m_c0 (Nat.le_of_ble_eq_true rfl) dL_sets_47 ⟨hu_28, Nat.mul_le_mul_left 18 hu_28⟩ (fun x215 τ216 H locs h213 hM214 => ?_)
        clear h144 hM145
        replace h213 := h213.2
        refine lv_goto (tgt := 76) hx hb dL_sets_50 (by decide) ?_
        exact hj76 x215 u_28 σ_28 τ216 _ _ _ hu_28 h213 hM214 (ml_sub hl148 [1, 4, 5, 0] rfl)
    refine lv_if_ne (tgt := 27) hx hb dL_sets_19 (by decide) (fun hc217 => ?_) (fun hc217 => ?_)
    · replace h1 := h1.1 hc217
      refine lv_iconst (v := 4) hx hb dL_sets_27 (by decide) ?_
      exact hj28 (4 : Int32) 0 σ0 τ4 _ _ _ (Nat.zero_le _) h1 hM2 (ml_sub hl5 [1, 3, 4, 5, 0] rfl)
    · replace h1 := h1.2 hc217
      refine lv_bipush (v := 20) hx hb dL_sets_22 (by decide) ?_
      refine lv_goto (tgt := 28) hx hb dL_sets_24 (by decide) ?_
      exact hj28 (20 : Int32) 0 σ0 τ4 _ _ _ (Nat.zero_le _) h1 hM2 (ml_sub hl5 [1, 3, 4, 5, 0] rfl)
