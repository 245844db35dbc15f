/-! the room, whatever its numbers are (they differ from one turn to the next) -/
theorem rmC {a : Nat} (h : a ≤ 300000) : a ≤ room_1.cells := Nat.le_trans h (Nat.le_of_ble_eq_true rfl)
theorem rmS {a : Nat} (h : a ≤ 5500000) : a ≤ room_1.slots := Nat.le_trans h (Nat.le_of_ble_eq_true rfl)
def lRel (Rel : mS → mS → Prop) : Prop := ∀ σ μ, Rel σ μ → mRok kdC σ ∧ mRok kdM μ ∧ 21 ≤ mN σ ∧ mN σ ≤ 221 ∧ mN μ = 26
theorem l_cmp {x y : Int64} (h : x = y) : lg_cmp x y = 0 := by subst h; simp [lg_cmp]
theorem l_sld {p : Program} {l : Launch} {e : Env} {R : Room} {s : State} {m : MethodId} {args : Array Value} {below : List Frame} {meth : Method} {c : Code} {H : Heap} {cells slots : Nat} {Q : State → Prop} {cc : ByteArray} {pc nL b0 L j : Nat} {xs : Nat → Int32} {ls : Array Slot} {rest : List Value} {own : String} {G : mG} (C : mX p s m c cc nL args own G) (hX : va_X b0 L xs s s.heap) (hbl : b0 < s.heap.size) (hB : s.heap.size ≤ H.size ∧ ∀ q : Nat, q < s.heap.size → H[q]? = s.heap[q]?) {x : Int32} (hx : x = nI j) (hj : j < L) (hL : L < 2 ^ 31) (hdg : decode cc pc = .ok (.iaload, 1))
    (kk : W p l e R s m args below meth c H [] cells slots Q (F0 m (pc + 1) ls (.int (xs j) :: rest))) : W p l e R s m args below meth c H [] cells slots Q (F0 m pc ls (.int x :: .ref b0 :: rest)) := by
  subst hx
  refine va_sld (A := fun q => s.heap.size ≤ q) C.1.1 C.1.2.1 hX hbl (Nat.not_le.mpr hbl) ⟨hB.1, fun q h1 _ => hB.2 q h1, fun _ h => by cases h⟩ (vp_in_nI hj hL) hdg ?_
  rw [nI_clamp (by omega)]
  exact kk
theorem l_lald {p : Program} {l : Launch} {e : Env} {R : Room} {s : State} {m : MethodId} {args : Array Value} {below : List Frame} {meth : Method} {c : Code} {H : Heap} {locs : List Loc} {cells slots : Nat} {Q : State → Prop} {cc : ByteArray} {pc nL o : Nat} {v : Nat → Int64} {ls : Array Slot} {rest : List Value} {own : String} {G : mG} {cL : ClassId} (C : mX p s m c cc nL args own G) (Z : lZ cL s) (hO : mOut cL o v H) (hdg : decode cc pc = .ok (.laload, 1))
    (kk : W p l e R s m args below meth c H locs cells slots Q (F0 m (pc + 1) ls (.long (v 0) :: rest))) : W p l e R s m args below meth c H locs cells slots Q (F0 m pc ls (.int 0 :: .ref o :: rest)) := by
  refine W.lald (v := .long (v 0)) C.1.1 C.1.2.1 hO (Z.2.2.2.2.1 1 (fun j => .long (v j))) (fun q => by cases q) (by show ¬ ((0 : Int32) < 0 ∨ (arrV _ _ _).slots.size ≤ _); rw [arrV_size]; show ¬ ((0 : Int32) < 0 ∨ 1 ≤ Int32.toNatClampNeg 0); decide) ?_ rfl rfl hdg kk
  show (arrV cL 1 fun j => Value.long (v j)).slots[Int32.toNatClampNeg 0]? = _
  rw [show Int32.toNatClampNeg 0 = 0 from rfl, arrV_read _ _ (by decide)]
theorem cl_L_72 : mCl 72 yL_setWork cL_setWork 6 [(0, 12, 15, 13), (0, 12, 19, 15)] := ⟨(mw_3 _ (List.mem_of_getElem? (i := 14) rfl)), (mw_3 _ (List.mem_of_getElem? (i := 15) rfl)), (mw_3 _ (List.mem_of_getElem? (i := 16) rfl)), (mw_3 _ (List.mem_of_getElem? (i := 17) rfl))⟩
theorem cw_La_77 : mCw RL 77 RX3 yX3_setWork cX3_setWork 5 (some .int) := ⟨(mw_4 _ (List.mem_of_getElem? (i := 14) rfl)), (mw_4 _ (List.mem_of_getElem? (i := 15) rfl)), (mw_4 _ (List.mem_of_getElem? (i := 16) rfl)), (mw_1 _ (List.mem_of_getElem? (i := 5) rfl)), (mw_4 _ (List.mem_of_getElem? (i := 17) rfl))⟩
theorem cw_La_78 : mCw RL 78 RX3 yX3_thrown cX3_thrown 1 (some .int) := ⟨(mw_5 _ (List.mem_of_getElem? (i := 1) rfl)), (mw_5 _ (List.mem_of_getElem? (i := 2) rfl)), (mw_5 _ (List.mem_of_getElem? (i := 3) rfl)), (mw_1 _ (List.mem_of_getElem? (i := 5) rfl)), (mw_5 _ (List.mem_of_getElem? (i := 4) rfl))⟩
theorem cl_L_82 : mCl 82 yL_ask cL_ask 5 [(0, 10, 13, 13), (0, 10, 17, 15), (0, 10, 21, 21)] := ⟨(mw_5 _ (List.mem_of_getElem? (i := 5) rfl)), (mw_5 _ (List.mem_of_getElem? (i := 6) rfl)), (mw_3 _ (List.mem_of_getElem? (i := 16) rfl)), (mw_5 _ (List.mem_of_getElem? (i := 7) rfl))⟩
theorem cw_La_85 : mCw RL 85 RX3 yX3_ask cX3_ask 3 (some .int) := ⟨(mw_5 _ (List.mem_of_getElem? (i := 21) rfl)), (mw_5 _ (List.mem_of_getElem? (i := 22) rfl)), (mw_5 _ (List.mem_of_getElem? (i := 23) rfl)), (mw_1 _ (List.mem_of_getElem? (i := 5) rfl)), (mw_6 _ (List.mem_of_getElem? (i := 0) rfl))⟩
theorem cl_L_86 : mCl 86 yL_setRoom cL_setRoom 7 [(0, 14, 17, 13), (0, 14, 21, 15)] := ⟨(mw_6 _ (List.mem_of_getElem? (i := 1) rfl)), (mw_6 _ (List.mem_of_getElem? (i := 2) rfl)), (mw_3 _ (List.mem_of_getElem? (i := 16) rfl)), (mw_6 _ (List.mem_of_getElem? (i := 3) rfl))⟩
theorem cw_La_89 : mCw RL 89 RX3 yX3_setRoom cX3_setRoom 7 (some .int) := ⟨(mw_6 _ (List.mem_of_getElem? (i := 11) rfl)), (mw_6 _ (List.mem_of_getElem? (i := 12) rfl)), (mw_6 _ (List.mem_of_getElem? (i := 13) rfl)), (mw_1 _ (List.mem_of_getElem? (i := 5) rfl)), (mw_6 _ (List.mem_of_getElem? (i := 14) rfl))⟩
theorem cl_L_90 : mCl 90 yL_call cL_call 5 [(0, 10, 13, 13), (0, 10, 17, 15), (0, 10, 21, 21)] := ⟨(mw_6 _ (List.mem_of_getElem? (i := 15) rfl)), (mw_6 _ (List.mem_of_getElem? (i := 16) rfl)), (mw_3 _ (List.mem_of_getElem? (i := 16) rfl)), (mw_6 _ (List.mem_of_getElem? (i := 17) rfl))⟩
theorem cw_La_92 : mCw RL 92 RX3 yX3_call cX3_call 3 (some .int) := ⟨(mw_10 _ (List.mem_of_getElem? (i := 16) rfl)), (mw_10 _ (List.mem_of_getElem? (i := 17) rfl)), (mw_10 _ (List.mem_of_getElem? (i := 18) rfl)), (mw_1 _ (List.mem_of_getElem? (i := 5) rfl)), (mw_10 _ (List.mem_of_getElem? (i := 19) rfl))⟩
theorem cl_L_93 : mCl 93 yL_cancel cL_cancel 4 [(0, 9, 12, 13), (0, 9, 15, 21)] := ⟨(mw_11 _ (List.mem_of_getElem? (i := 22) rfl)), (mw_11 _ (List.mem_of_getElem? (i := 23) rfl)), (mw_3 _ (List.mem_of_getElem? (i := 16) rfl)), (mw_12 _ (List.mem_of_getElem? (i := 0) rfl))⟩
theorem cw_La_96 : mCw RL 96 RX3 yX3_cancel cX3_cancel 2 (some .int) := ⟨(mw_12 _ (List.mem_of_getElem? (i := 9) rfl)), (mw_12 _ (List.mem_of_getElem? (i := 10) rfl)), (mw_12 _ (List.mem_of_getElem? (i := 11) rfl)), (mw_1 _ (List.mem_of_getElem? (i := 5) rfl)), (mw_12 _ (List.mem_of_getElem? (i := 12) rfl))⟩
theorem cl_L_97 : mCl 97 yL_pass cL_pass 4 [(0, 9, 12, 15)] := ⟨(mw_12 _ (List.mem_of_getElem? (i := 17) rfl)), (mw_12 _ (List.mem_of_getElem? (i := 18) rfl)), (mw_3 _ (List.mem_of_getElem? (i := 16) rfl)), (mw_12 _ (List.mem_of_getElem? (i := 19) rfl))⟩
theorem cw_La_99 : mCw RL 99 RX3 yX3_pass cX3_pass 4 (some .int) := ⟨(mw_17 _ (List.mem_of_getElem? (i := 8) rfl)), (mw_17 _ (List.mem_of_getElem? (i := 9) rfl)), (mw_17 _ (List.mem_of_getElem? (i := 10) rfl)), (mw_1 _ (List.mem_of_getElem? (i := 5) rfl)), (mw_17 _ (List.mem_of_getElem? (i := 11) rfl))⟩
theorem cl_L_108 : mCl 108 yL_state cL_state 4 [(0, 9, 12, 13)] := ⟨(mw_20 _ (List.mem_of_getElem? (i := 4) rfl)), (mw_20 _ (List.mem_of_getElem? (i := 5) rfl)), (mw_3 _ (List.mem_of_getElem? (i := 16) rfl)), (mw_20 _ (List.mem_of_getElem? (i := 6) rfl))⟩
theorem cw_La_110 : mCw RL 110 RX3 yX3_state cX3_state 2 (some .int) := ⟨(mw_20 _ (List.mem_of_getElem? (i := 11) rfl)), (mw_20 _ (List.mem_of_getElem? (i := 12) rfl)), (mw_20 _ (List.mem_of_getElem? (i := 13) rfl)), (mw_1 _ (List.mem_of_getElem? (i := 5) rfl)), (mw_20 _ (List.mem_of_getElem? (i := 14) rfl))⟩
theorem cl_L_111 : mCl 111 yL_origin cL_origin 4 [(0, 9, 12, 13)] := ⟨(mw_20 _ (List.mem_of_getElem? (i := 19) rfl)), (mw_20 _ (List.mem_of_getElem? (i := 20) rfl)), (mw_3 _ (List.mem_of_getElem? (i := 16) rfl)), (mw_20 _ (List.mem_of_getElem? (i := 21) rfl))⟩
theorem cw_La_113 : mCw RL 113 RX3 yX3_origin cX3_origin 2 (some .int) := ⟨(mw_21 _ (List.mem_of_getElem? (i := 3) rfl)), (mw_21 _ (List.mem_of_getElem? (i := 4) rfl)), (mw_21 _ (List.mem_of_getElem? (i := 5) rfl)), (mw_1 _ (List.mem_of_getElem? (i := 5) rfl)), (mw_21 _ (List.mem_of_getElem? (i := 6) rfl))⟩
theorem cl_L_114 : mCl 114 yL_deadline cL_deadline 4 [(0, 9, 12, 13)] := ⟨(mw_21 _ (List.mem_of_getElem? (i := 7) rfl)), (mw_21 _ (List.mem_of_getElem? (i := 8) rfl)), (mw_3 _ (List.mem_of_getElem? (i := 16) rfl)), (mw_21 _ (List.mem_of_getElem? (i := 9) rfl))⟩
theorem cw_La_116 : mCw RL 116 RX3 yX3_deadline cX3_deadline 2 (some .int) := ⟨(mw_21 _ (List.mem_of_getElem? (i := 14) rfl)), (mw_21 _ (List.mem_of_getElem? (i := 15) rfl)), (mw_21 _ (List.mem_of_getElem? (i := 16) rfl)), (mw_1 _ (List.mem_of_getElem? (i := 5) rfl)), (mw_21 _ (List.mem_of_getElem? (i := 17) rfl))⟩
theorem cl_L_117 : mCl 117 yL_overAt cL_overAt 4 [(0, 9, 12, 13)] := ⟨(mw_21 _ (List.mem_of_getElem? (i := 18) rfl)), (mw_21 _ (List.mem_of_getElem? (i := 19) rfl)), (mw_3 _ (List.mem_of_getElem? (i := 16) rfl)), (mw_21 _ (List.mem_of_getElem? (i := 20) rfl))⟩
theorem cw_La_119 : mCw RL 119 RX3 yX3_overAt cX3_overAt 2 (some .int) := ⟨(mw_22 _ (List.mem_of_getElem? (i := 1) rfl)), (mw_22 _ (List.mem_of_getElem? (i := 2) rfl)), (mw_22 _ (List.mem_of_getElem? (i := 3) rfl)), (mw_1 _ (List.mem_of_getElem? (i := 5) rfl)), (mw_22 _ (List.mem_of_getElem? (i := 4) rfl))⟩
theorem cl_L_120 : mCl 120 yL_place cL_place 4 [(0, 9, 12, 13)] := ⟨(mw_22 _ (List.mem_of_getElem? (i := 5) rfl)), (mw_22 _ (List.mem_of_getElem? (i := 6) rfl)), (mw_3 _ (List.mem_of_getElem? (i := 16) rfl)), (mw_22 _ (List.mem_of_getElem? (i := 7) rfl))⟩
theorem cw_La_122 : mCw RL 122 RX3 yX3_place cX3_place 2 (some .int) := ⟨(mw_22 _ (List.mem_of_getElem? (i := 12) rfl)), (mw_22 _ (List.mem_of_getElem? (i := 13) rfl)), (mw_22 _ (List.mem_of_getElem? (i := 14) rfl)), (mw_1 _ (List.mem_of_getElem? (i := 5) rfl)), (mw_22 _ (List.mem_of_getElem? (i := 15) rfl))⟩
theorem cl_L_123 : mCl 123 yL_below cL_below 4 [(0, 9, 12, 13)] := ⟨(mw_22 _ (List.mem_of_getElem? (i := 16) rfl)), (mw_22 _ (List.mem_of_getElem? (i := 17) rfl)), (mw_3 _ (List.mem_of_getElem? (i := 16) rfl)), (mw_22 _ (List.mem_of_getElem? (i := 18) rfl))⟩
theorem cw_La_125 : mCw RL 125 RX3 yX3_below cX3_below 4 (some .int) := ⟨(mw_23 _ (List.mem_of_getElem? (i := 3) rfl)), (mw_23 _ (List.mem_of_getElem? (i := 4) rfl)), (mw_23 _ (List.mem_of_getElem? (i := 5) rfl)), (mw_1 _ (List.mem_of_getElem? (i := 5) rfl)), (mw_23 _ (List.mem_of_getElem? (i := 6) rfl))⟩
theorem cl_L_126 : mCl 126 yL_queuedAt cL_queuedAt 5 [(0, 10, 13, 13)] := ⟨(mw_23 _ (List.mem_of_getElem? (i := 11) rfl)), (mw_23 _ (List.mem_of_getElem? (i := 12) rfl)), (mw_3 _ (List.mem_of_getElem? (i := 16) rfl)), (mw_23 _ (List.mem_of_getElem? (i := 13) rfl))⟩
theorem cw_La_128 : mCw RL 128 RX3 yX3_queuedAt cX3_queuedAt 7 (some .int) := ⟨(mw_23 _ (List.mem_of_getElem? (i := 18) rfl)), (mw_23 _ (List.mem_of_getElem? (i := 19) rfl)), (mw_23 _ (List.mem_of_getElem? (i := 20) rfl)), (mw_1 _ (List.mem_of_getElem? (i := 5) rfl)), (mw_23 _ (List.mem_of_getElem? (i := 21) rfl))⟩
theorem cl_L_129 : mCl 129 yL_count cL_count 5 [(0, 10, 13, 13), (0, 10, 17, 15)] := ⟨(mw_23 _ (List.mem_of_getElem? (i := 22) rfl)), (mw_23 _ (List.mem_of_getElem? (i := 23) rfl)), (mw_3 _ (List.mem_of_getElem? (i := 16) rfl)), (mw_24 _ (List.mem_of_getElem? (i := 0) rfl))⟩
theorem cw_La_131 : mCw RL 131 RX3 yX3_count cX3_count 3 (some .int) := ⟨(mw_24 _ (List.mem_of_getElem? (i := 5) rfl)), (mw_24 _ (List.mem_of_getElem? (i := 6) rfl)), (mw_24 _ (List.mem_of_getElem? (i := 7) rfl)), (mw_1 _ (List.mem_of_getElem? (i := 5) rfl)), (mw_24 _ (List.mem_of_getElem? (i := 8) rfl))⟩
theorem cl_L_132 : mCl 132 yL_tokens cL_tokens 4 [(0, 9, 12, 13)] := ⟨(mw_24 _ (List.mem_of_getElem? (i := 9) rfl)), (mw_24 _ (List.mem_of_getElem? (i := 10) rfl)), (mw_3 _ (List.mem_of_getElem? (i := 16) rfl)), (mw_24 _ (List.mem_of_getElem? (i := 11) rfl))⟩
theorem cw_La_134 : mCw RL 134 RX3 yX3_tokens cX3_tokens 2 (some .int) := ⟨(mw_24 _ (List.mem_of_getElem? (i := 17) rfl)), (mw_24 _ (List.mem_of_getElem? (i := 18) rfl)), (mw_24 _ (List.mem_of_getElem? (i := 19) rfl)), (mw_1 _ (List.mem_of_getElem? (i := 5) rfl)), (mw_24 _ (List.mem_of_getElem? (i := 20) rfl))⟩
theorem cl_L_135 : mCl 135 yL_isOpen cL_isOpen 4 [(0, 16, 19, 13)] := ⟨(mw_24 _ (List.mem_of_getElem? (i := 21) rfl)), (mw_24 _ (List.mem_of_getElem? (i := 22) rfl)), (mw_3 _ (List.mem_of_getElem? (i := 16) rfl)), (mw_24 _ (List.mem_of_getElem? (i := 23) rfl))⟩
theorem cw_La_137 : mCw RL 137 RX3 yX3_isOpen cX3_isOpen 2 (some .boolean) := ⟨(mw_25 _ (List.mem_of_getElem? (i := 4) rfl)), (mw_25 _ (List.mem_of_getElem? (i := 5) rfl)), (mw_25 _ (List.mem_of_getElem? (i := 6) rfl)), (mw_1 _ (List.mem_of_getElem? (i := 5) rfl)), (mw_25 _ (List.mem_of_getElem? (i := 7) rfl))⟩
theorem cw_La_100 : mCw RL 100 RX2 yX2_time cX2_time 1 (some .int) := ⟨(mw_19 _ (List.mem_of_getElem? (i := 12) rfl)), (mw_19 _ (List.mem_of_getElem? (i := 13) rfl)), (mw_19 _ (List.mem_of_getElem? (i := 14) rfl)), (mw_1 _ (List.mem_of_getElem? (i := 2) rfl)), (mw_19 _ (List.mem_of_getElem? (i := 15) rfl))⟩
theorem cw_La_103 : mCw RL 103 RX3 yX3_time cX3_time 1 (some .int) := ⟨(mw_19 _ (List.mem_of_getElem? (i := 16) rfl)), (mw_19 _ (List.mem_of_getElem? (i := 17) rfl)), (mw_19 _ (List.mem_of_getElem? (i := 18) rfl)), (mw_1 _ (List.mem_of_getElem? (i := 5) rfl)), (mw_19 _ (List.mem_of_getElem? (i := 19) rfl))⟩
theorem cw_La_104 : mCw RL 104 RX2 yX2_calls cX2_calls 1 (some .int) := ⟨(mw_19 _ (List.mem_of_getElem? (i := 20) rfl)), (mw_19 _ (List.mem_of_getElem? (i := 21) rfl)), (mw_19 _ (List.mem_of_getElem? (i := 22) rfl)), (mw_1 _ (List.mem_of_getElem? (i := 2) rfl)), (mw_19 _ (List.mem_of_getElem? (i := 23) rfl))⟩
theorem cw_La_107 : mCw RL 107 RX3 yX3_calls cX3_calls 1 (some .int) := ⟨(mw_20 _ (List.mem_of_getElem? (i := 0) rfl)), (mw_20 _ (List.mem_of_getElem? (i := 1) rfl)), (mw_20 _ (List.mem_of_getElem? (i := 2) rfl)), (mw_1 _ (List.mem_of_getElem? (i := 5) rfl)), (mw_20 _ (List.mem_of_getElem? (i := 3) rfl))⟩
def lQ_setWork (Rel : mS → mS → Prop) (N : Nat) (μ : mS) (y1 : Int32) (y2 : Int32) (y3 : Int32) (k : Int32) (x : Int64) (σ' : mS) : Prop := N ≤ mN σ' ∧ w_X3_setWork y1 y2 y3 μ (fun r2 μ' => mI μ' 0 0 = k ∧ (k = 0 → x = r2.toInt64) ∧ Rel σ' μ')
def lO_setWork (Rel : mS → mS → Prop) : Prop := ∀ σ μ, Rel σ μ → ∀ (y1 : Int32) (y2 : Int32) (y3 : Int32) (x0 : Int64), ∃ b N, b ≤ 10 + (N - mN σ) ∧ mN σ ≤ N ∧ N ≤ 221 ∧ w_X2_setWork y1 y2 y3 σ b (fun r σ' => lQ_setWork Rel N μ y1 y2 y3 0 r.toInt64 σ') (fun E σ' => (E = xIO ∧ lQ_setWork Rel N μ y1 y2 y3 1 x0 σ') ∨ (E = xIA ∧ lQ_setWork Rel N μ y1 y2 y3 2 x0 σ'))
def lQ_ask (Rel : mS → mS → Prop) (N : Nat) (μ : mS) (y1 : Int32) (y2 : Int32) (k : Int32) (x : Int64) (σ' : mS) : Prop := N ≤ mN σ' ∧ w_X3_ask y1 y2 μ (fun r2 μ' => mI μ' 0 0 = k ∧ (k = 0 → x = r2.toInt64) ∧ Rel σ' μ')
def lO_ask (Rel : mS → mS → Prop) : Prop := ∀ σ μ, Rel σ μ → ∀ (y1 : Int32) (y2 : Int32) (x0 : Int64), ∃ b N, b ≤ 10 + (N - mN σ) ∧ mN σ ≤ N ∧ N ≤ 221 ∧ w_X2_ask y1 y2 σ b (fun r σ' => lQ_ask Rel N μ y1 y2 0 r.toInt64 σ') (fun E σ' => (E = xIO ∧ lQ_ask Rel N μ y1 y2 1 x0 σ') ∨ (E = xIA ∧ lQ_ask Rel N μ y1 y2 2 x0 σ') ∨ (E = xIS ∧ lQ_ask Rel N μ y1 y2 3 x0 σ'))
def lQ_setRoom (Rel : mS → mS → Prop) (N : Nat) (μ : mS) (y1 : Int32) (y2 : Int32) (y3 : Int32) (y4 : Int32) (k : Int32) (x : Int64) (σ' : mS) : Prop := N ≤ mN σ' ∧ w_X3_setRoom y1 y2 y3 y4 μ (fun r2 μ' => mI μ' 0 0 = k ∧ (k = 0 → x = r2.toInt64) ∧ Rel σ' μ')
def lO_setRoom (Rel : mS → mS → Prop) : Prop := ∀ σ μ, Rel σ μ → ∀ (y1 : Int32) (y2 : Int32) (y3 : Int32) (y4 : Int32) (x0 : Int64), ∃ b N, b ≤ 10 + (N - mN σ) ∧ mN σ ≤ N ∧ N ≤ 221 ∧ w_X2_setRoom y1 y2 y3 y4 σ b (fun r σ' => lQ_setRoom Rel N μ y1 y2 y3 y4 0 r.toInt64 σ') (fun E σ' => (E = xIO ∧ lQ_setRoom Rel N μ y1 y2 y3 y4 1 x0 σ') ∨ (E = xIA ∧ lQ_setRoom Rel N μ y1 y2 y3 y4 2 x0 σ'))
def lQ_call (Rel : mS → mS → Prop) (N : Nat) (μ : mS) (y1 : Int32) (y2 : Int32) (k : Int32) (x : Int64) (σ' : mS) : Prop := N ≤ mN σ' ∧ w_X3_call y1 y2 μ (fun r2 μ' => mI μ' 0 0 = k ∧ (k = 0 → x = r2.toInt64) ∧ Rel σ' μ')
def lO_call (Rel : mS → mS → Prop) : Prop := ∀ σ μ, Rel σ μ → ∀ (y1 : Int32) (y2 : Int32) (x0 : Int64), ∃ b N, b ≤ 10 + (N - mN σ) ∧ mN σ ≤ N ∧ N ≤ 221 ∧ w_X2_call y1 y2 σ b (fun r σ' => lQ_call Rel N μ y1 y2 0 r.toInt64 σ') (fun E σ' => (E = xIO ∧ lQ_call Rel N μ y1 y2 1 x0 σ') ∨ (E = xIA ∧ lQ_call Rel N μ y1 y2 2 x0 σ') ∨ (E = xIS ∧ lQ_call Rel N μ y1 y2 3 x0 σ'))
def lQ_cancel (Rel : mS → mS → Prop) (N : Nat) (μ : mS) (y1 : Int32) (k : Int32) (x : Int64) (σ' : mS) : Prop := N ≤ mN σ' ∧ w_X3_cancel y1 μ (fun r2 μ' => mI μ' 0 0 = k ∧ (k = 0 → x = r2.toInt64) ∧ Rel σ' μ')
def lO_cancel (Rel : mS → mS → Prop) : Prop := ∀ σ μ, Rel σ μ → ∀ (y1 : Int32) (x0 : Int64), ∃ b N, b ≤ 10 + (N - mN σ) ∧ mN σ ≤ N ∧ N ≤ 221 ∧ w_X2_cancel y1 σ b (fun r σ' => lQ_cancel Rel N μ y1 0 r.toInt64 σ') (fun E σ' => (E = xIO ∧ lQ_cancel Rel N μ y1 1 x0 σ') ∨ (E = xIS ∧ lQ_cancel Rel N μ y1 2 x0 σ'))
def lQ_pass (Rel : mS → mS → Prop) (N : Nat) (μ : mS) (y1 : Int32) (k : Int32) (x : Int64) (σ' : mS) : Prop := N ≤ mN σ' ∧ w_X3_pass y1 μ (fun r2 μ' => mI μ' 0 0 = k ∧ (k = 0 → x = r2.toInt64) ∧ Rel σ' μ')
def lO_pass (Rel : mS → mS → Prop) : Prop := ∀ σ μ, Rel σ μ → ∀ (y1 : Int32) (x0 : Int64), ∃ b N, b ≤ 10 + (N - mN σ) ∧ mN σ ≤ N ∧ N ≤ 221 ∧ w_X2_pass y1 σ b (fun r σ' => lQ_pass Rel N μ y1 0 r.toInt64 σ') (fun E σ' => (E = xIA ∧ lQ_pass Rel N μ y1 1 x0 σ'))
def lQ_state (Rel : mS → mS → Prop) (N : Nat) (μ : mS) (y1 : Int32) (k : Int32) (x : Int64) (σ' : mS) : Prop := N ≤ mN σ' ∧ w_X3_state y1 μ (fun r2 μ' => mI μ' 0 0 = k ∧ (k = 0 → x = r2.toInt64) ∧ Rel σ' μ')
def lO_state (Rel : mS → mS → Prop) : Prop := ∀ σ μ, Rel σ μ → ∀ (y1 : Int32) (x0 : Int64), ∃ b N, b ≤ 10 + (N - mN σ) ∧ mN σ ≤ N ∧ N ≤ 221 ∧ w_X2_state y1 σ b (fun r σ' => lQ_state Rel N μ y1 0 r.toInt64 σ') (fun E σ' => (E = xIO ∧ lQ_state Rel N μ y1 1 x0 σ'))
def lQ_origin (Rel : mS → mS → Prop) (N : Nat) (μ : mS) (y1 : Int32) (k : Int32) (x : Int64) (σ' : mS) : Prop := N ≤ mN σ' ∧ w_X3_origin y1 μ (fun r2 μ' => mI μ' 0 0 = k ∧ (k = 0 → x = r2.toInt64) ∧ Rel σ' μ')
def lO_origin (Rel : mS → mS → Prop) : Prop := ∀ σ μ, Rel σ μ → ∀ (y1 : Int32) (x0 : Int64), ∃ b N, b ≤ 10 + (N - mN σ) ∧ mN σ ≤ N ∧ N ≤ 221 ∧ w_X2_origin y1 σ b (fun r σ' => lQ_origin Rel N μ y1 0 r.toInt64 σ') (fun E σ' => (E = xIO ∧ lQ_origin Rel N μ y1 1 x0 σ'))
def lQ_deadline (Rel : mS → mS → Prop) (N : Nat) (μ : mS) (y1 : Int32) (k : Int32) (x : Int64) (σ' : mS) : Prop := N ≤ mN σ' ∧ w_X3_deadline y1 μ (fun r2 μ' => mI μ' 0 0 = k ∧ (k = 0 → x = r2.toInt64) ∧ Rel σ' μ')
def lO_deadline (Rel : mS → mS → Prop) : Prop := ∀ σ μ, Rel σ μ → ∀ (y1 : Int32) (x0 : Int64), ∃ b N, b ≤ 10 + (N - mN σ) ∧ mN σ ≤ N ∧ N ≤ 221 ∧ w_X2_deadline y1 σ b (fun r σ' => lQ_deadline Rel N μ y1 0 r.toInt64 σ') (fun E σ' => (E = xIO ∧ lQ_deadline Rel N μ y1 1 x0 σ'))
def lQ_overAt (Rel : mS → mS → Prop) (N : Nat) (μ : mS) (y1 : Int32) (k : Int32) (x : Int64) (σ' : mS) : Prop := N ≤ mN σ' ∧ w_X3_overAt y1 μ (fun r2 μ' => mI μ' 0 0 = k ∧ (k = 0 → x = r2.toInt64) ∧ Rel σ' μ')
def lO_overAt (Rel : mS → mS → Prop) : Prop := ∀ σ μ, Rel σ μ → ∀ (y1 : Int32) (x0 : Int64), ∃ b N, b ≤ 10 + (N - mN σ) ∧ mN σ ≤ N ∧ N ≤ 221 ∧ w_X2_overAt y1 σ b (fun r σ' => lQ_overAt Rel N μ y1 0 r.toInt64 σ') (fun E σ' => (E = xIO ∧ lQ_overAt Rel N μ y1 1 x0 σ'))
def lQ_place (Rel : mS → mS → Prop) (N : Nat) (μ : mS) (y1 : Int32) (k : Int32) (x : Int64) (σ' : mS) : Prop := N ≤ mN σ' ∧ w_X3_place y1 μ (fun r2 μ' => mI μ' 0 0 = k ∧ (k = 0 → x = r2.toInt64) ∧ Rel σ' μ')
def lO_place (Rel : mS → mS → Prop) : Prop := ∀ σ μ, Rel σ μ → ∀ (y1 : Int32) (x0 : Int64), ∃ b N, b ≤ 10 + (N - mN σ) ∧ mN σ ≤ N ∧ N ≤ 221 ∧ w_X2_place y1 σ b (fun r σ' => lQ_place Rel N μ y1 0 r.toInt64 σ') (fun E σ' => (E = xIO ∧ lQ_place Rel N μ y1 1 x0 σ'))
def lQ_below (Rel : mS → mS → Prop) (N : Nat) (μ : mS) (y1 : Int32) (k : Int32) (x : Int64) (σ' : mS) : Prop := N ≤ mN σ' ∧ w_X3_below y1 μ (fun r2 μ' => mI μ' 0 0 = k ∧ (k = 0 → x = r2.toInt64) ∧ Rel σ' μ')
def lO_below (Rel : mS → mS → Prop) : Prop := ∀ σ μ, Rel σ μ → ∀ (y1 : Int32) (x0 : Int64), ∃ b N, b ≤ 10 + (N - mN σ) ∧ mN σ ≤ N ∧ N ≤ 221 ∧ w_X2_below y1 σ b (fun r σ' => lQ_below Rel N μ y1 0 r.toInt64 σ') (fun E σ' => (E = xIO ∧ lQ_below Rel N μ y1 1 x0 σ'))
def lQ_queuedAt (Rel : mS → mS → Prop) (N : Nat) (μ : mS) (y1 : Int32) (y2 : Int32) (k : Int32) (x : Int64) (σ' : mS) : Prop := N ≤ mN σ' ∧ w_X3_queuedAt y1 y2 μ (fun r2 μ' => mI μ' 0 0 = k ∧ (k = 0 → x = r2.toInt64) ∧ Rel σ' μ')
def lO_queuedAt (Rel : mS → mS → Prop) : Prop := ∀ σ μ, Rel σ μ → ∀ (y1 : Int32) (y2 : Int32) (x0 : Int64), ∃ b N, b ≤ 10 + (N - mN σ) ∧ mN σ ≤ N ∧ N ≤ 221 ∧ w_X2_queuedAt y1 y2 σ b (fun r σ' => lQ_queuedAt Rel N μ y1 y2 0 r.toInt64 σ') (fun E σ' => (E = xIO ∧ lQ_queuedAt Rel N μ y1 y2 1 x0 σ'))
def lQ_count (Rel : mS → mS → Prop) (N : Nat) (μ : mS) (y1 : Int32) (y2 : Int32) (k : Int32) (x : Int64) (σ' : mS) : Prop := N ≤ mN σ' ∧ w_X3_count y1 y2 μ (fun r2 μ' => mI μ' 0 0 = k ∧ (k = 0 → x = r2.toInt64) ∧ Rel σ' μ')
def lO_count (Rel : mS → mS → Prop) : Prop := ∀ σ μ, Rel σ μ → ∀ (y1 : Int32) (y2 : Int32) (x0 : Int64), ∃ b N, b ≤ 10 + (N - mN σ) ∧ mN σ ≤ N ∧ N ≤ 221 ∧ w_X2_count y1 y2 σ b (fun r σ' => lQ_count Rel N μ y1 y2 0 r.toInt64 σ') (fun E σ' => (E = xIO ∧ lQ_count Rel N μ y1 y2 1 x0 σ') ∨ (E = xIA ∧ lQ_count Rel N μ y1 y2 2 x0 σ'))
def lQ_tokens (Rel : mS → mS → Prop) (N : Nat) (μ : mS) (y1 : Int32) (k : Int32) (x : Int64) (σ' : mS) : Prop := N ≤ mN σ' ∧ w_X3_tokens y1 μ (fun r2 μ' => mI μ' 0 0 = k ∧ (k = 0 → x = r2.toInt64) ∧ Rel σ' μ')
def lO_tokens (Rel : mS → mS → Prop) : Prop := ∀ σ μ, Rel σ μ → ∀ (y1 : Int32) (x0 : Int64), ∃ b N, b ≤ 10 + (N - mN σ) ∧ mN σ ≤ N ∧ N ≤ 221 ∧ w_X2_tokens y1 σ b (fun r σ' => lQ_tokens Rel N μ y1 0 r.toInt64 σ') (fun E σ' => (E = xIO ∧ lQ_tokens Rel N μ y1 1 x0 σ'))
def lQ_isOpen (Rel : mS → mS → Prop) (N : Nat) (μ : mS) (y1 : Int32) (k : Int32) (x : Int64) (σ' : mS) : Prop := N ≤ mN σ' ∧ w_X3_isOpen y1 μ (fun r2 μ' => mI μ' 0 0 = k ∧ (k = 0 → x = (if r2 = 0 then 0 else 1)) ∧ Rel σ' μ')
def lO_isOpen (Rel : mS → mS → Prop) : Prop := ∀ σ μ, Rel σ μ → ∀ (y1 : Int32) (x0 : Int64), ∃ b N, b ≤ 10 + (N - mN σ) ∧ mN σ ≤ N ∧ N ≤ 221 ∧ w_X2_isOpen y1 σ b (fun r σ' => lQ_isOpen Rel N μ y1 0 (if r = 0 then 0 else 1) σ') (fun E σ' => (E = xIO ∧ lQ_isOpen Rel N μ y1 1 x0 σ'))
def lO_time (Rel : mS → mS → Prop) : Prop := ∀ σ μ, Rel σ μ → w_X2_time σ (fun r σ' => σ' = σ ∧ w_X3_time μ (fun r2 μ' => r = r2 ∧ Rel σ μ'))
def lO_calls (Rel : mS → mS → Prop) : Prop := ∀ σ μ, Rel σ μ → w_X2_calls σ (fun r σ' => σ' = σ ∧ w_X3_calls μ (fun r2 μ' => r = r2 ∧ Rel σ μ'))
set_option maxRecDepth 100000 in
set_option maxHeartbeats 4000000 in
theorem lc_setWork {p : Program} {l : Launch} {e : Env} {s : State} {m : MethodId} {args : Array Value} {below : List Frame} {meth : Method} {c : Code} {H : Heap} {cells slots : Nat} {Q : State → Prop} {ls : Array Slot} {G : mG} {cL : ClassId} {a1 a2 : Nat → Nat} {σ μ : mS} {v : Nat → Int64} {b0 o i L : Nat} {xs : Nat → Int32} (Rel : mS → mS → Prop) (hRel : lRel Rel) (C : mX p s m c cL_law 7 args RL G) (hfl : l.stackTraces = false) (Z : lZ cL s) (hX : va_X b0 L xs s s.heap) (hbl : b0 < s.heap.size) (hL : L ≤ 2560) (hi : i + 5 ≤ L) (hB : lB G cL a1 a2 o s.heap σ μ v H) (hr : Rel σ μ) (hcs : cells ≤ 100000 ∧ slots ≤ 5000000) (hl : ml_has ls 7 [(4, .int (nI i)), (0, .ref b0), (1, .ref (a1 0)), (2, .ref (a2 0)), (3, .ref o)]) (hO : lO_setWork Rel) (kk : ∀ (σ' μ' : mS) (v' : Nat → Int64) (H' : Heap) (a1' a2' : Nat → Nat) (ls' : Array Slot) (cells' slots' : Nat), Rel σ' μ' → lB G cL a1' a2' o s.heap σ' μ' v' H' → a1' 0 = a1 0 → a2' 0 = a2 0 → ml_has ls' 7 [(4, .int (nI i)), (0, .ref b0), (1, .ref (a1 0)), (2, .ref (a2 0)), (3, .ref o)] → mN σ ≤ mN σ' → cells' ≤ cells + 10 + (mN σ' - mN σ) → slots' ≤ slots + 18 * (10 + (mN σ' - mN σ)) → W p l e room_1 s m args below meth c H' [] cells' slots' Q (F0 m 1161 ls' [])) : W p l e room_1 s m args below meth c H [] cells slots Q (F0 m 124 ls []) := by
  have hx := C.1.1
  have hb := C.1.2.1
  obtain ⟨hR1, hR2, hn21, hn221, hn26⟩ := hRel σ μ hr
  obtain ⟨b, N, hb1, hb2, hb3, hw⟩ := hO σ μ hr (xs (i + 1)) (xs (i + 2)) (xs (i + 3)) (v 0)
  refine lv_aload_n hx hb dL_law_124 rfl (ml_at hl 2 rfl) ?_
  refine lv_aload_n hx hb dL_law_125 rfl (ml_at hl 1 rfl) ?_
  refine lv_iload hx hb dL_law_126 (ml_at hl 0 rfl) ?_
  refine lv_iconst (v := 1) hx hb dL_law_128 (by decide) ?_
  refine lv_iadd hx hb dL_law_129 ?_
  refine l_sld C hX hbl hB.1 (j := i + 1) (nI_add i 1) (by omega) (by omega) dL_law_130 ?_
  refine lv_aload_n hx hb dL_law_131 rfl (ml_at hl 1 rfl) ?_
  refine lv_iload hx hb dL_law_132 (ml_at hl 0 rfl) ?_
  refine lv_iconst (v := 2) hx hb dL_law_134 (by decide) ?_
  refine lv_iadd hx hb dL_law_135 ?_
  refine l_sld C hX hbl hB.1 (j := i + 2) (nI_add i 2) (by omega) (by omega) dL_law_136 ?_
  refine lv_aload_n hx hb dL_law_137 rfl (ml_at hl 1 rfl) ?_
  refine lv_iload hx hb dL_law_138 (ml_at hl 0 rfl) ?_
  refine lv_iconst (v := 3) hx hb dL_law_140 (by decide) ?_
  refine lv_iadd hx hb dL_law_141 ?_
  refine l_sld C hX hbl hB.1 (j := i + 3) (nI_add i 3) (by omega) (by omega) dL_law_142 ?_
  refine lv_aload_n hx hb dL_law_143 rfl (ml_at hl 4 rfl) ?_
  refine lw_callL (Is := [.int (xs (i + 1)), .int (xs (i + 2)), .int (xs (i + 3))]) (n := 5) (b := b) C Z hB hR1 (by omega) hl.1.1 cl_L_72 (fun ad => c_L_setWork l hfl G cL ad o (xs (i + 1)) (xs (i + 2)) (xs (i + 3)) σ v b (lQ_setWork Rel N μ (xs (i + 1)) (xs (i + 2)) (xs (i + 3))) hw) ⟨by decide, by decide, by decide +kernel⟩ rfl rfl ⟨Nat.le_of_ble_eq_true rfl, Nat.le_of_ble_eq_true rfl⟩ m_c0 (Nat.le_of_ble_eq_true rfl) dL_law_144 ⟨rmC (show cells + b ≤ 300000 by omega), rmS (show slots + 18 * b ≤ 5500000 by omega)⟩ (fun k x σ' v' H1 a1' hq hv' ha1 hB1 hmo => ?_) (fun k x σ' hq => Nat.le_trans hb2 hq.1)
  obtain ⟨hN, hq⟩ := hq
  refine mr_istore (lv' := [(5, .int k), (4, .int (nI i)), (0, .ref b0), (1, .ref (a1 0)), (2, .ref (a2 0)), (3, .ref o)]) C hl dL_law_147 (by decide) rfl (fun ls hl1 => ?_)
  refine lv_aload_n hx hb dL_law_149 rfl (ml_at hl1 4 rfl) ?_
  refine lv_aload_n hx hb dL_law_150 rfl (ml_at hl1 2 rfl) ?_
  refine lv_iload hx hb dL_law_151 (ml_at hl1 1 rfl) ?_
  refine lv_iconst (v := 1) hx hb dL_law_153 (by decide) ?_
  refine lv_iadd hx hb dL_law_154 ?_
  refine l_sld C hX hbl hB1.1 (j := i + 1) (nI_add i 1) (by omega) (by omega) dL_law_155 ?_
  refine lv_aload_n hx hb dL_law_156 rfl (ml_at hl1 2 rfl) ?_
  refine lv_iload hx hb dL_law_157 (ml_at hl1 1 rfl) ?_
  refine lv_iconst (v := 2) hx hb dL_law_159 (by decide) ?_
  refine lv_iadd hx hb dL_law_160 ?_
  refine l_sld C hX hbl hB1.1 (j := i + 2) (nI_add i 2) (by omega) (by omega) dL_law_161 ?_
  refine lv_aload_n hx hb dL_law_162 rfl (ml_at hl1 2 rfl) ?_
  refine lv_iload hx hb dL_law_163 (ml_at hl1 1 rfl) ?_
  refine lv_iconst (v := 3) hx hb dL_law_165 (by decide) ?_
  refine lv_iadd hx hb dL_law_166 ?_
  refine l_sld C hX hbl hB1.1 (j := i + 3) (nI_add i 3) (by omega) (by omega) dL_law_167 ?_
  refine lw_callM (Is := [.int (xs (i + 1)), .int (xs (i + 2)), .int (xs (i + 3))]) (n := 3) C hB1 hR2 (by omega) hl1.1.1 cw_La_77 (fun ad => c_X3_setWork l G ad (xs (i + 1)) (xs (i + 2)) (xs (i + 3)) μ _ hq) ⟨rfl, by decide, by decide, by decide +kernel⟩ rfl rfl ⟨Nat.le_of_ble_eq_true rfl, Nat.le_of_ble_eq_true rfl⟩ m_c0 (Nat.le_of_ble_eq_true rfl) dL_law_168 ⟨rmC (show cells + b ≤ 300000 by omega), rmS (show slots + 18 * b ≤ 5500000 by omega)⟩ (fun r μ' h => ?_) (fun r2 μ' H2 a2' hq ha2 hB2 => ?_)
  · exact (hRel _ _ h.2.2).2.2.2.2.trans hn26.symm
  obtain ⟨hk, hx9, hr2⟩ := hq
  obtain ⟨hR1', hR2', hn21', hn221', hn26'⟩ := hRel σ' μ' hr2
  refine mr_istore (lv' := [(6, .int r2), (5, .int k), (4, .int (nI i)), (0, .ref b0), (1, .ref (a1 0)), (2, .ref (a2 0)), (3, .ref o)]) C hl1 dL_law_171 (by decide) rfl (fun ls hl2 => ?_)
  refine lv_aload_n hx hb dL_law_173 rfl (ml_at hl2 5 rfl) ?_
  rw [← ha2]
  refine lw_callM (Is := []) (n := 0) (Qi := fun r μ2 => r = mI μ' 0 0 ∧ μ2 = μ') C hB2 hR2' (by omega) hl2.1.1 cw_La_78 (fun ad => c_X3_thrown l G ad μ' _ ⟨rfl, rfl⟩) ⟨rfl, by decide, by decide, by decide +kernel⟩ rfl rfl ⟨Nat.le_of_ble_eq_true rfl, Nat.le_of_ble_eq_true rfl⟩ m_c0 (Nat.le_of_ble_eq_true rfl) dL_law_174 ⟨rmC (show cells + b ≤ 300000 by omega), rmS (show slots + 18 * b ≤ 5500000 by omega)⟩ (fun r μ2 h => by rw [h.2]) (fun r3 μ2 H3 a3 hq3 ha3 hB3 => ?_)
  obtain ⟨rfl, rfl⟩ := hq3
  refine lv_iload hx hb dL_law_177 (ml_at hl2 1 rfl) ?_
  refine lv_icmp_eq (tgt := 184) hx hb dL_law_179 (by decide) (fun _ => ?_) (fun hc => absurd hk hc)
  refine lv_iload hx hb dL_law_184 (ml_at hl2 1 rfl) ?_
  refine lv_if_ne (tgt := 201) hx hb dL_law_186 (by decide) (fun hc => ?_) (fun hc => ?_)
  · refine lv_goto (tgt := 1161) hx hb dL_law_201 (by decide) ?_
    exact kk σ' _ v' _ a1' a3 ls (cells + b) (slots + 18 * b) hr2 hB3 ha1 (ha3.trans ha2) (ml_sub hl2 [2, 3, 4, 5, 6] rfl) hmo (by omega) (by omega)
  · refine lv_aload_n hx hb dL_law_189 rfl (ml_at hl2 6 rfl) ?_
    refine lv_iconst (v := 0) hx hb dL_law_190 (by decide) ?_
    refine l_lald C Z hB3.2.2.2.1 dL_law_191 ?_
    refine lv_iload hx hb dL_law_192 (ml_at hl2 0 rfl) ?_
    refine lv_i2l (v := r2.toInt64) hx hb dL_law_194 rfl ?_
    refine W.lcmp hx hb dL_law_195 ?_
    refine lv_if_eq (tgt := 201) hx hb dL_law_196 (by decide) (fun _ => ?_) (fun h => absurd (l_cmp (hv'.trans (hx9 hc))) h)
    refine lv_goto (tgt := 1161) hx hb dL_law_201 (by decide) ?_
    exact kk σ' _ v' _ a1' a3 ls (cells + b) (slots + 18 * b) hr2 hB3 ha1 (ha3.trans ha2) (ml_sub hl2 [2, 3, 4, 5, 6] rfl) hmo (by omega) (by omega)
set_option maxRecDepth 100000 in
set_option maxHeartbeats 4000000 in
theorem lc_ask {p : Program} {l : Launch} {e : Env} {s : State} {m : MethodId} {args : Array Value} {below : List Frame} {meth : Method} {c : Code} {H : Heap} {cells slots : Nat} {Q : State → Prop} {ls : Array Slot} {G : mG} {cL : ClassId} {a1 a2 : Nat → Nat} {σ μ : mS} {v : Nat → Int64} {b0 o i L : Nat} {xs : Nat → Int32} (Rel : mS → mS → Prop) (hRel : lRel Rel) (C : mX p s m c cL_law 7 args RL G) (hfl : l.stackTraces = false) (Z : lZ cL s) (hX : va_X b0 L xs s s.heap) (hbl : b0 < s.heap.size) (hL : L ≤ 2560) (hi : i + 5 ≤ L) (hB : lB G cL a1 a2 o s.heap σ μ v H) (hr : Rel σ μ) (hcs : cells ≤ 100000 ∧ slots ≤ 5000000) (hl : ml_has ls 7 [(4, .int (nI i)), (0, .ref b0), (1, .ref (a1 0)), (2, .ref (a2 0)), (3, .ref o)]) (hO : lO_ask Rel) (kk : ∀ (σ' μ' : mS) (v' : Nat → Int64) (H' : Heap) (a1' a2' : Nat → Nat) (ls' : Array Slot) (cells' slots' : Nat), Rel σ' μ' → lB G cL a1' a2' o s.heap σ' μ' v' H' → a1' 0 = a1 0 → a2' 0 = a2 0 → ml_has ls' 7 [(4, .int (nI i)), (0, .ref b0), (1, .ref (a1 0)), (2, .ref (a2 0)), (3, .ref o)] → mN σ ≤ mN σ' → cells' ≤ cells + 10 + (mN σ' - mN σ) → slots' ≤ slots + 18 * (10 + (mN σ' - mN σ)) → W p l e room_1 s m args below meth c H' [] cells' slots' Q (F0 m 1161 ls' [])) : W p l e room_1 s m args below meth c H [] cells slots Q (F0 m 204 ls []) := by
  have hx := C.1.1
  have hb := C.1.2.1
  obtain ⟨hR1, hR2, hn21, hn221, hn26⟩ := hRel σ μ hr
  obtain ⟨b, N, hb1, hb2, hb3, hw⟩ := hO σ μ hr (xs (i + 1)) (xs (i + 2)) (v 0)
  refine lv_aload_n hx hb dL_law_204 rfl (ml_at hl 2 rfl) ?_
  refine lv_aload_n hx hb dL_law_205 rfl (ml_at hl 1 rfl) ?_
  refine lv_iload hx hb dL_law_206 (ml_at hl 0 rfl) ?_
  refine lv_iconst (v := 1) hx hb dL_law_208 (by decide) ?_
  refine lv_iadd hx hb dL_law_209 ?_
  refine l_sld C hX hbl hB.1 (j := i + 1) (nI_add i 1) (by omega) (by omega) dL_law_210 ?_
  refine lv_aload_n hx hb dL_law_211 rfl (ml_at hl 1 rfl) ?_
  refine lv_iload hx hb dL_law_212 (ml_at hl 0 rfl) ?_
  refine lv_iconst (v := 2) hx hb dL_law_214 (by decide) ?_
  refine lv_iadd hx hb dL_law_215 ?_
  refine l_sld C hX hbl hB.1 (j := i + 2) (nI_add i 2) (by omega) (by omega) dL_law_216 ?_
  refine lv_aload_n hx hb dL_law_217 rfl (ml_at hl 4 rfl) ?_
  refine lw_callL (Is := [.int (xs (i + 1)), .int (xs (i + 2))]) (n := 4) (b := b) C Z hB hR1 (by omega) hl.1.1 cl_L_82 (fun ad => c_L_ask l hfl G cL ad o (xs (i + 1)) (xs (i + 2)) σ v b (lQ_ask Rel N μ (xs (i + 1)) (xs (i + 2))) hw) ⟨by decide, by decide, by decide +kernel⟩ rfl rfl ⟨Nat.le_of_ble_eq_true rfl, Nat.le_of_ble_eq_true rfl⟩ m_c0 (Nat.le_of_ble_eq_true rfl) dL_law_218 ⟨rmC (show cells + b ≤ 300000 by omega), rmS (show slots + 18 * b ≤ 5500000 by omega)⟩ (fun k x σ' v' H1 a1' hq hv' ha1 hB1 hmo => ?_) (fun k x σ' hq => Nat.le_trans hb2 hq.1)
  obtain ⟨hN, hq⟩ := hq
  refine mr_istore (lv' := [(5, .int k), (4, .int (nI i)), (0, .ref b0), (1, .ref (a1 0)), (2, .ref (a2 0)), (3, .ref o)]) C hl dL_law_221 (by decide) rfl (fun ls hl1 => ?_)
  refine lv_aload_n hx hb dL_law_223 rfl (ml_at hl1 4 rfl) ?_
  refine lv_aload_n hx hb dL_law_224 rfl (ml_at hl1 2 rfl) ?_
  refine lv_iload hx hb dL_law_225 (ml_at hl1 1 rfl) ?_
  refine lv_iconst (v := 1) hx hb dL_law_227 (by decide) ?_
  refine lv_iadd hx hb dL_law_228 ?_
  refine l_sld C hX hbl hB1.1 (j := i + 1) (nI_add i 1) (by omega) (by omega) dL_law_229 ?_
  refine lv_aload_n hx hb dL_law_230 rfl (ml_at hl1 2 rfl) ?_
  refine lv_iload hx hb dL_law_231 (ml_at hl1 1 rfl) ?_
  refine lv_iconst (v := 2) hx hb dL_law_233 (by decide) ?_
  refine lv_iadd hx hb dL_law_234 ?_
  refine l_sld C hX hbl hB1.1 (j := i + 2) (nI_add i 2) (by omega) (by omega) dL_law_235 ?_
  refine lw_callM (Is := [.int (xs (i + 1)), .int (xs (i + 2))]) (n := 2) C hB1 hR2 (by omega) hl1.1.1 cw_La_85 (fun ad => c_X3_ask l G ad (xs (i + 1)) (xs (i + 2)) μ _ hq) ⟨rfl, by decide, by decide, by decide +kernel⟩ rfl rfl ⟨Nat.le_of_ble_eq_true rfl, Nat.le_of_ble_eq_true rfl⟩ m_c0 (Nat.le_of_ble_eq_true rfl) dL_law_236 ⟨rmC (show cells + b ≤ 300000 by omega), rmS (show slots + 18 * b ≤ 5500000 by omega)⟩ (fun r μ' h => ?_) (fun r2 μ' H2 a2' hq ha2 hB2 => ?_)
  · exact (hRel _ _ h.2.2).2.2.2.2.trans hn26.symm
  obtain ⟨hk, hx9, hr2⟩ := hq
  obtain ⟨hR1', hR2', hn21', hn221', hn26'⟩ := hRel σ' μ' hr2
  refine mr_istore (lv' := [(6, .int r2), (5, .int k), (4, .int (nI i)), (0, .ref b0), (1, .ref (a1 0)), (2, .ref (a2 0)), (3, .ref o)]) C hl1 dL_law_239 (by decide) rfl (fun ls hl2 => ?_)
  refine lv_aload_n hx hb dL_law_241 rfl (ml_at hl2 5 rfl) ?_
  rw [← ha2]
  refine lw_callM (Is := []) (n := 0) (Qi := fun r μ2 => r = mI μ' 0 0 ∧ μ2 = μ') C hB2 hR2' (by omega) hl2.1.1 cw_La_78 (fun ad => c_X3_thrown l G ad μ' _ ⟨rfl, rfl⟩) ⟨rfl, by decide, by decide, by decide +kernel⟩ rfl rfl ⟨Nat.le_of_ble_eq_true rfl, Nat.le_of_ble_eq_true rfl⟩ m_c0 (Nat.le_of_ble_eq_true rfl) dL_law_242 ⟨rmC (show cells + b ≤ 300000 by omega), rmS (show slots + 18 * b ≤ 5500000 by omega)⟩ (fun r μ2 h => by rw [h.2]) (fun r3 μ2 H3 a3 hq3 ha3 hB3 => ?_)
  obtain ⟨rfl, rfl⟩ := hq3
  refine lv_iload hx hb dL_law_245 (ml_at hl2 1 rfl) ?_
  refine lv_icmp_eq (tgt := 252) hx hb dL_law_247 (by decide) (fun _ => ?_) (fun hc => absurd hk hc)
  refine lv_iload hx hb dL_law_252 (ml_at hl2 1 rfl) ?_
  refine lv_if_ne (tgt := 269) hx hb dL_law_254 (by decide) (fun hc => ?_) (fun hc => ?_)
  · refine lv_goto (tgt := 1161) hx hb dL_law_269 (by decide) ?_
    exact kk σ' _ v' _ a1' a3 ls (cells + b) (slots + 18 * b) hr2 hB3 ha1 (ha3.trans ha2) (ml_sub hl2 [2, 3, 4, 5, 6] rfl) hmo (by omega) (by omega)
  · refine lv_aload_n hx hb dL_law_257 rfl (ml_at hl2 6 rfl) ?_
    refine lv_iconst (v := 0) hx hb dL_law_258 (by decide) ?_
    refine l_lald C Z hB3.2.2.2.1 dL_law_259 ?_
    refine lv_iload hx hb dL_law_260 (ml_at hl2 0 rfl) ?_
    refine lv_i2l (v := r2.toInt64) hx hb dL_law_262 rfl ?_
    refine W.lcmp hx hb dL_law_263 ?_
    refine lv_if_eq (tgt := 269) hx hb dL_law_264 (by decide) (fun _ => ?_) (fun h => absurd (l_cmp (hv'.trans (hx9 hc))) h)
    refine lv_goto (tgt := 1161) hx hb dL_law_269 (by decide) ?_
    exact kk σ' _ v' _ a1' a3 ls (cells + b) (slots + 18 * b) hr2 hB3 ha1 (ha3.trans ha2) (ml_sub hl2 [2, 3, 4, 5, 6] rfl) hmo (by omega) (by omega)
set_option maxRecDepth 100000 in
set_option maxHeartbeats 4000000 in
theorem lc_setRoom {p : Program} {l : Launch} {e : Env} {s : State} {m : MethodId} {args : Array Value} {below : List Frame} {meth : Method} {c : Code} {H : Heap} {cells slots : Nat} {Q : State → Prop} {ls : Array Slot} {G : mG} {cL : ClassId} {a1 a2 : Nat → Nat} {σ μ : mS} {v : Nat → Int64} {b0 o i L : Nat} {xs : Nat → Int32} (Rel : mS → mS → Prop) (hRel : lRel Rel) (C : mX p s m c cL_law 7 args RL G) (hfl : l.stackTraces = false) (Z : lZ cL s) (hX : va_X b0 L xs s s.heap) (hbl : b0 < s.heap.size) (hL : L ≤ 2560) (hi : i + 5 ≤ L) (hB : lB G cL a1 a2 o s.heap σ μ v H) (hr : Rel σ μ) (hcs : cells ≤ 100000 ∧ slots ≤ 5000000) (hl : ml_has ls 7 [(4, .int (nI i)), (0, .ref b0), (1, .ref (a1 0)), (2, .ref (a2 0)), (3, .ref o)]) (hO : lO_setRoom Rel) (kk : ∀ (σ' μ' : mS) (v' : Nat → Int64) (H' : Heap) (a1' a2' : Nat → Nat) (ls' : Array Slot) (cells' slots' : Nat), Rel σ' μ' → lB G cL a1' a2' o s.heap σ' μ' v' H' → a1' 0 = a1 0 → a2' 0 = a2 0 → ml_has ls' 7 [(4, .int (nI i)), (0, .ref b0), (1, .ref (a1 0)), (2, .ref (a2 0)), (3, .ref o)] → mN σ ≤ mN σ' → cells' ≤ cells + 10 + (mN σ' - mN σ) → slots' ≤ slots + 18 * (10 + (mN σ' - mN σ)) → W p l e room_1 s m args below meth c H' [] cells' slots' Q (F0 m 1161 ls' [])) : W p l e room_1 s m args below meth c H [] cells slots Q (F0 m 272 ls []) := by
  have hx := C.1.1
  have hb := C.1.2.1
  obtain ⟨hR1, hR2, hn21, hn221, hn26⟩ := hRel σ μ hr
  obtain ⟨b, N, hb1, hb2, hb3, hw⟩ := hO σ μ hr (xs (i + 1)) (xs (i + 2)) (xs (i + 3)) (xs (i + 4)) (v 0)
  refine lv_aload_n hx hb dL_law_272 rfl (ml_at hl 2 rfl) ?_
  refine lv_aload_n hx hb dL_law_273 rfl (ml_at hl 1 rfl) ?_
  refine lv_iload hx hb dL_law_274 (ml_at hl 0 rfl) ?_
  refine lv_iconst (v := 1) hx hb dL_law_276 (by decide) ?_
  refine lv_iadd hx hb dL_law_277 ?_
  refine l_sld C hX hbl hB.1 (j := i + 1) (nI_add i 1) (by omega) (by omega) dL_law_278 ?_
  refine lv_aload_n hx hb dL_law_279 rfl (ml_at hl 1 rfl) ?_
  refine lv_iload hx hb dL_law_280 (ml_at hl 0 rfl) ?_
  refine lv_iconst (v := 2) hx hb dL_law_282 (by decide) ?_
  refine lv_iadd hx hb dL_law_283 ?_
  refine l_sld C hX hbl hB.1 (j := i + 2) (nI_add i 2) (by omega) (by omega) dL_law_284 ?_
  refine lv_aload_n hx hb dL_law_285 rfl (ml_at hl 1 rfl) ?_
  refine lv_iload hx hb dL_law_286 (ml_at hl 0 rfl) ?_
  refine lv_iconst (v := 3) hx hb dL_law_288 (by decide) ?_
  refine lv_iadd hx hb dL_law_289 ?_
  refine l_sld C hX hbl hB.1 (j := i + 3) (nI_add i 3) (by omega) (by omega) dL_law_290 ?_
  refine lv_aload_n hx hb dL_law_291 rfl (ml_at hl 1 rfl) ?_
  refine lv_iload hx hb dL_law_292 (ml_at hl 0 rfl) ?_
  refine lv_iconst (v := 4) hx hb dL_law_294 (by decide) ?_
  refine lv_iadd hx hb dL_law_295 ?_
  refine l_sld C hX hbl hB.1 (j := i + 4) (nI_add i 4) (by omega) (by omega) dL_law_296 ?_
  refine lv_aload_n hx hb dL_law_297 rfl (ml_at hl 4 rfl) ?_
  refine lw_callL (Is := [.int (xs (i + 1)), .int (xs (i + 2)), .int (xs (i + 3)), .int (xs (i + 4))]) (n := 6) (b := b) C Z hB hR1 (by omega) hl.1.1 cl_L_86 (fun ad => c_L_setRoom l hfl G cL ad o (xs (i + 1)) (xs (i + 2)) (xs (i + 3)) (xs (i + 4)) σ v b (lQ_setRoom Rel N μ (xs (i + 1)) (xs (i + 2)) (xs (i + 3)) (xs (i + 4))) hw) ⟨by decide, by decide, by decide +kernel⟩ rfl rfl ⟨Nat.le_of_ble_eq_true rfl, Nat.le_of_ble_eq_true rfl⟩ m_c0 (Nat.le_of_ble_eq_true rfl) dL_law_298 ⟨rmC (show cells + b ≤ 300000 by omega), rmS (show slots + 18 * b ≤ 5500000 by omega)⟩ (fun k x σ' v' H1 a1' hq hv' ha1 hB1 hmo => ?_) (fun k x σ' hq => Nat.le_trans hb2 hq.1)
  obtain ⟨hN, hq⟩ := hq
  refine mr_istore (lv' := [(5, .int k), (4, .int (nI i)), (0, .ref b0), (1, .ref (a1 0)), (2, .ref (a2 0)), (3, .ref o)]) C hl dL_law_301 (by decide) rfl (fun ls hl1 => ?_)
  refine lv_aload_n hx hb dL_law_303 rfl (ml_at hl1 4 rfl) ?_
  refine lv_aload_n hx hb dL_law_304 rfl (ml_at hl1 2 rfl) ?_
  refine lv_iload hx hb dL_law_305 (ml_at hl1 1 rfl) ?_
  refine lv_iconst (v := 1) hx hb dL_law_307 (by decide) ?_
  refine lv_iadd hx hb dL_law_308 ?_
  refine l_sld C hX hbl hB1.1 (j := i + 1) (nI_add i 1) (by omega) (by omega) dL_law_309 ?_
  refine lv_aload_n hx hb dL_law_310 rfl (ml_at hl1 2 rfl) ?_
  refine lv_iload hx hb dL_law_311 (ml_at hl1 1 rfl) ?_
  refine lv_iconst (v := 2) hx hb dL_law_313 (by decide) ?_
  refine lv_iadd hx hb dL_law_314 ?_
  refine l_sld C hX hbl hB1.1 (j := i + 2) (nI_add i 2) (by omega) (by omega) dL_law_315 ?_
  refine lv_aload_n hx hb dL_law_316 rfl (ml_at hl1 2 rfl) ?_
  refine lv_iload hx hb dL_law_317 (ml_at hl1 1 rfl) ?_
  refine lv_iconst (v := 3) hx hb dL_law_319 (by decide) ?_
  refine lv_iadd hx hb dL_law_320 ?_
  refine l_sld C hX hbl hB1.1 (j := i + 3) (nI_add i 3) (by omega) (by omega) dL_law_321 ?_
  refine lv_aload_n hx hb dL_law_322 rfl (ml_at hl1 2 rfl) ?_
  refine lv_iload hx hb dL_law_323 (ml_at hl1 1 rfl) ?_
  refine lv_iconst (v := 4) hx hb dL_law_325 (by decide) ?_
  refine lv_iadd hx hb dL_law_326 ?_
  refine l_sld C hX hbl hB1.1 (j := i + 4) (nI_add i 4) (by omega) (by omega) dL_law_327 ?_
  refine lw_callM (Is := [.int (xs (i + 1)), .int (xs (i + 2)), .int (xs (i + 3)), .int (xs (i + 4))]) (n := 4) C hB1 hR2 (by omega) hl1.1.1 cw_La_89 (fun ad => c_X3_setRoom l G ad (xs (i + 1)) (xs (i + 2)) (xs (i + 3)) (xs (i + 4)) μ _ hq) ⟨rfl, by decide, by decide, by decide +kernel⟩ rfl rfl ⟨Nat.le_of_ble_eq_true rfl, Nat.le_of_ble_eq_true rfl⟩ m_c0 (Nat.le_of_ble_eq_true rfl) dL_law_328 ⟨rmC (show cells + b ≤ 300000 by omega), rmS (show slots + 18 * b ≤ 5500000 by omega)⟩ (fun r μ' h => ?_) (fun r2 μ' H2 a2' hq ha2 hB2 => ?_)
  · exact (hRel _ _ h.2.2).2.2.2.2.trans hn26.symm
  obtain ⟨hk, hx9, hr2⟩ := hq
  obtain ⟨hR1', hR2', hn21', hn221', hn26'⟩ := hRel σ' μ' hr2
  refine mr_istore (lv' := [(6, .int r2), (5, .int k), (4, .int (nI i)), (0, .ref b0), (1, .ref (a1 0)), (2, .ref (a2 0)), (3, .ref o)]) C hl1 dL_law_331 (by decide) rfl (fun ls hl2 => ?_)
  refine lv_aload_n hx hb dL_law_333 rfl (ml_at hl2 5 rfl) ?_
  rw [← ha2]
  refine lw_callM (Is := []) (n := 0) (Qi := fun r μ2 => r = mI μ' 0 0 ∧ μ2 = μ') C hB2 hR2' (by omega) hl2.1.1 cw_La_78 (fun ad => c_X3_thrown l G ad μ' _ ⟨rfl, rfl⟩) ⟨rfl, by decide, by decide, by decide +kernel⟩ rfl rfl ⟨Nat.le_of_ble_eq_true rfl, Nat.le_of_ble_eq_true rfl⟩ m_c0 (Nat.le_of_ble_eq_true rfl) dL_law_334 ⟨rmC (show cells + b ≤ 300000 by omega), rmS (show slots + 18 * b ≤ 5500000 by omega)⟩ (fun r μ2 h => by rw [h.2]) (fun r3 μ2 H3 a3 hq3 ha3 hB3 => ?_)
  obtain ⟨rfl, rfl⟩ := hq3
  refine lv_iload hx hb dL_law_337 (ml_at hl2 1 rfl) ?_
  refine lv_icmp_eq (tgt := 344) hx hb dL_law_339 (by decide) (fun _ => ?_) (fun hc => absurd hk hc)
  refine lv_iload hx hb dL_law_344 (ml_at hl2 1 rfl) ?_
  refine lv_if_ne (tgt := 361) hx hb dL_law_346 (by decide) (fun hc => ?_) (fun hc => ?_)
  · refine lv_goto (tgt := 1161) hx hb dL_law_361 (by decide) ?_
    exact kk σ' _ v' _ a1' a3 ls (cells + b) (slots + 18 * b) hr2 hB3 ha1 (ha3.trans ha2) (ml_sub hl2 [2, 3, 4, 5, 6] rfl) hmo (by omega) (by omega)
  · refine lv_aload_n hx hb dL_law_349 rfl (ml_at hl2 6 rfl) ?_
    refine lv_iconst (v := 0) hx hb dL_law_350 (by decide) ?_
    refine l_lald C Z hB3.2.2.2.1 dL_law_351 ?_
    refine lv_iload hx hb dL_law_352 (ml_at hl2 0 rfl) ?_
    refine lv_i2l (v := r2.toInt64) hx hb dL_law_354 rfl ?_
    refine W.lcmp hx hb dL_law_355 ?_
    refine lv_if_eq (tgt := 361) hx hb dL_law_356 (by decide) (fun _ => ?_) (fun h => absurd (l_cmp (hv'.trans (hx9 hc))) h)
    refine lv_goto (tgt := 1161) hx hb dL_law_361 (by decide) ?_
    exact kk σ' _ v' _ a1' a3 ls (cells + b) (slots + 18 * b) hr2 hB3 ha1 (ha3.trans ha2) (ml_sub hl2 [2, 3, 4, 5, 6] rfl) hmo (by omega) (by omega)
set_option maxRecDepth 100000 in
set_option maxHeartbeats 4000000 in
theorem lc_call {p : Program} {l : Launch} {e : Env} {s : State} {m : MethodId} {args : Array Value} {below : List Frame} {meth : Method} {c : Code} {H : Heap} {cells slots : Nat} {Q : State → Prop} {ls : Array Slot} {G : mG} {cL : ClassId} {a1 a2 : Nat → Nat} {σ μ : mS} {v : Nat → Int64} {b0 o i L : Nat} {xs : Nat → Int32} (Rel : mS → mS → Prop) (hRel : lRel Rel) (C : mX p s m c cL_law 7 args RL G) (hfl : l.stackTraces = false) (Z : lZ cL s) (hX : va_X b0 L xs s s.heap) (hbl : b0 < s.heap.size) (hL : L ≤ 2560) (hi : i + 5 ≤ L) (hB : lB G cL a1 a2 o s.heap σ μ v H) (hr : Rel σ μ) (hcs : cells ≤ 100000 ∧ slots ≤ 5000000) (hl : ml_has ls 7 [(4, .int (nI i)), (0, .ref b0), (1, .ref (a1 0)), (2, .ref (a2 0)), (3, .ref o)]) (hO : lO_call Rel) (kk : ∀ (σ' μ' : mS) (v' : Nat → Int64) (H' : Heap) (a1' a2' : Nat → Nat) (ls' : Array Slot) (cells' slots' : Nat), Rel σ' μ' → lB G cL a1' a2' o s.heap σ' μ' v' H' → a1' 0 = a1 0 → a2' 0 = a2 0 → ml_has ls' 7 [(4, .int (nI i)), (0, .ref b0), (1, .ref (a1 0)), (2, .ref (a2 0)), (3, .ref o)] → mN σ ≤ mN σ' → cells' ≤ cells + 10 + (mN σ' - mN σ) → slots' ≤ slots + 18 * (10 + (mN σ' - mN σ)) → W p l e room_1 s m args below meth c H' [] cells' slots' Q (F0 m 1161 ls' [])) : W p l e room_1 s m args below meth c H [] cells slots Q (F0 m 364 ls []) := by
  have hx := C.1.1
  have hb := C.1.2.1
  obtain ⟨hR1, hR2, hn21, hn221, hn26⟩ := hRel σ μ hr
  obtain ⟨b, N, hb1, hb2, hb3, hw⟩ := hO σ μ hr (xs (i + 1)) (xs (i + 2)) (v 0)
  refine lv_aload_n hx hb dL_law_364 rfl (ml_at hl 2 rfl) ?_
  refine lv_aload_n hx hb dL_law_365 rfl (ml_at hl 1 rfl) ?_
  refine lv_iload hx hb dL_law_366 (ml_at hl 0 rfl) ?_
  refine lv_iconst (v := 1) hx hb dL_law_368 (by decide) ?_
  refine lv_iadd hx hb dL_law_369 ?_
  refine l_sld C hX hbl hB.1 (j := i + 1) (nI_add i 1) (by omega) (by omega) dL_law_370 ?_
  refine lv_aload_n hx hb dL_law_371 rfl (ml_at hl 1 rfl) ?_
  refine lv_iload hx hb dL_law_372 (ml_at hl 0 rfl) ?_
  refine lv_iconst (v := 2) hx hb dL_law_374 (by decide) ?_
  refine lv_iadd hx hb dL_law_375 ?_
  refine l_sld C hX hbl hB.1 (j := i + 2) (nI_add i 2) (by omega) (by omega) dL_law_376 ?_
  refine lv_aload_n hx hb dL_law_377 rfl (ml_at hl 4 rfl) ?_
  refine lw_callL (Is := [.int (xs (i + 1)), .int (xs (i + 2))]) (n := 4) (b := b) C Z hB hR1 (by omega) hl.1.1 cl_L_90 (fun ad => c_L_call l hfl G cL ad o (xs (i + 1)) (xs (i + 2)) σ v b (lQ_call Rel N μ (xs (i + 1)) (xs (i + 2))) hw) ⟨by decide, by decide, by decide +kernel⟩ rfl rfl ⟨Nat.le_of_ble_eq_true rfl, Nat.le_of_ble_eq_true rfl⟩ m_c0 (Nat.le_of_ble_eq_true rfl) dL_law_378 ⟨rmC (show cells + b ≤ 300000 by omega), rmS (show slots + 18 * b ≤ 5500000 by omega)⟩ (fun k x σ' v' H1 a1' hq hv' ha1 hB1 hmo => ?_) (fun k x σ' hq => Nat.le_trans hb2 hq.1)
  obtain ⟨hN, hq⟩ := hq
  refine mr_istore (lv' := [(5, .int k), (4, .int (nI i)), (0, .ref b0), (1, .ref (a1 0)), (2, .ref (a2 0)), (3, .ref o)]) C hl dL_law_381 (by decide) rfl (fun ls hl1 => ?_)
  refine lv_aload_n hx hb dL_law_383 rfl (ml_at hl1 4 rfl) ?_
  refine lv_aload_n hx hb dL_law_384 rfl (ml_at hl1 2 rfl) ?_
  refine lv_iload hx hb dL_law_385 (ml_at hl1 1 rfl) ?_
  refine lv_iconst (v := 1) hx hb dL_law_387 (by decide) ?_
  refine lv_iadd hx hb dL_law_388 ?_
  refine l_sld C hX hbl hB1.1 (j := i + 1) (nI_add i 1) (by omega) (by omega) dL_law_389 ?_
  refine lv_aload_n hx hb dL_law_390 rfl (ml_at hl1 2 rfl) ?_
  refine lv_iload hx hb dL_law_391 (ml_at hl1 1 rfl) ?_
  refine lv_iconst (v := 2) hx hb dL_law_393 (by decide) ?_
  refine lv_iadd hx hb dL_law_394 ?_
  refine l_sld C hX hbl hB1.1 (j := i + 2) (nI_add i 2) (by omega) (by omega) dL_law_395 ?_
  refine lw_callM (Is := [.int (xs (i + 1)), .int (xs (i + 2))]) (n := 2) C hB1 hR2 (by omega) hl1.1.1 cw_La_92 (fun ad => c_X3_call l G ad (xs (i + 1)) (xs (i + 2)) μ _ hq) ⟨rfl, by decide, by decide, by decide +kernel⟩ rfl rfl ⟨Nat.le_of_ble_eq_true rfl, Nat.le_of_ble_eq_true rfl⟩ m_c0 (Nat.le_of_ble_eq_true rfl) dL_law_396 ⟨rmC (show cells + b ≤ 300000 by omega), rmS (show slots + 18 * b ≤ 5500000 by omega)⟩ (fun r μ' h => ?_) (fun r2 μ' H2 a2' hq ha2 hB2 => ?_)
  · exact (hRel _ _ h.2.2).2.2.2.2.trans hn26.symm
  obtain ⟨hk, hx9, hr2⟩ := hq
  obtain ⟨hR1', hR2', hn21', hn221', hn26'⟩ := hRel σ' μ' hr2
  refine mr_istore (lv' := [(6, .int r2), (5, .int k), (4, .int (nI i)), (0, .ref b0), (1, .ref (a1 0)), (2, .ref (a2 0)), (3, .ref o)]) C hl1 dL_law_399 (by decide) rfl (fun ls hl2 => ?_)
  refine lv_aload_n hx hb dL_law_401 rfl (ml_at hl2 5 rfl) ?_
  rw [← ha2]
  refine lw_callM (Is := []) (n := 0) (Qi := fun r μ2 => r = mI μ' 0 0 ∧ μ2 = μ') C hB2 hR2' (by omega) hl2.1.1 cw_La_78 (fun ad => c_X3_thrown l G ad μ' _ ⟨rfl, rfl⟩) ⟨rfl, by decide, by decide, by decide +kernel⟩ rfl rfl ⟨Nat.le_of_ble_eq_true rfl, Nat.le_of_ble_eq_true rfl⟩ m_c0 (Nat.le_of_ble_eq_true rfl) dL_law_402 ⟨rmC (show cells + b ≤ 300000 by omega), rmS (show slots + 18 * b ≤ 5500000 by omega)⟩ (fun r μ2 h => by rw [h.2]) (fun r3 μ2 H3 a3 hq3 ha3 hB3 => ?_)
  obtain ⟨rfl, rfl⟩ := hq3
  refine lv_iload hx hb dL_law_405 (ml_at hl2 1 rfl) ?_
  refine lv_icmp_eq (tgt := 412) hx hb dL_law_407 (by decide) (fun _ => ?_) (fun hc => absurd hk hc)
  refine lv_iload hx hb dL_law_412 (ml_at hl2 1 rfl) ?_
  refine lv_if_ne (tgt := 429) hx hb dL_law_414 (by decide) (fun hc => ?_) (fun hc => ?_)
  · refine lv_goto (tgt := 1161) hx hb dL_law_429 (by decide) ?_
    exact kk σ' _ v' _ a1' a3 ls (cells + b) (slots + 18 * b) hr2 hB3 ha1 (ha3.trans ha2) (ml_sub hl2 [2, 3, 4, 5, 6] rfl) hmo (by omega) (by omega)
  · refine lv_aload_n hx hb dL_law_417 rfl (ml_at hl2 6 rfl) ?_
    refine lv_iconst (v := 0) hx hb dL_law_418 (by decide) ?_
    refine l_lald C Z hB3.2.2.2.1 dL_law_419 ?_
    refine lv_iload hx hb dL_law_420 (ml_at hl2 0 rfl) ?_
    refine lv_i2l (v := r2.toInt64) hx hb dL_law_422 rfl ?_
    refine W.lcmp hx hb dL_law_423 ?_
    refine lv_if_eq (tgt := 429) hx hb dL_law_424 (by decide) (fun _ => ?_) (fun h => absurd (l_cmp (hv'.trans (hx9 hc))) h)
    refine lv_goto (tgt := 1161) hx hb dL_law_429 (by decide) ?_
    exact kk σ' _ v' _ a1' a3 ls (cells + b) (slots + 18 * b) hr2 hB3 ha1 (ha3.trans ha2) (ml_sub hl2 [2, 3, 4, 5, 6] rfl) hmo (by omega) (by omega)
set_option maxRecDepth 100000 in
set_option maxHeartbeats 4000000 in
theorem lc_cancel {p : Program} {l : Launch} {e : Env} {s : State} {m : MethodId} {args : Array Value} {below : List Frame} {meth : Method} {c : Code} {H : Heap} {cells slots : Nat} {Q : State → Prop} {ls : Array Slot} {G : mG} {cL : ClassId} {a1 a2 : Nat → Nat} {σ μ : mS} {v : Nat → Int64} {b0 o i L : Nat} {xs : Nat → Int32} (Rel : mS → mS → Prop) (hRel : lRel Rel) (C : mX p s m c cL_law 7 args RL G) (hfl : l.stackTraces = false) (Z : lZ cL s) (hX : va_X b0 L xs s s.heap) (hbl : b0 < s.heap.size) (hL : L ≤ 2560) (hi : i + 5 ≤ L) (hB : lB G cL a1 a2 o s.heap σ μ v H) (hr : Rel σ μ) (hcs : cells ≤ 100000 ∧ slots ≤ 5000000) (hl : ml_has ls 7 [(4, .int (nI i)), (0, .ref b0), (1, .ref (a1 0)), (2, .ref (a2 0)), (3, .ref o)]) (hO : lO_cancel Rel) (kk : ∀ (σ' μ' : mS) (v' : Nat → Int64) (H' : Heap) (a1' a2' : Nat → Nat) (ls' : Array Slot) (cells' slots' : Nat), Rel σ' μ' → lB G cL a1' a2' o s.heap σ' μ' v' H' → a1' 0 = a1 0 → a2' 0 = a2 0 → ml_has ls' 7 [(4, .int (nI i)), (0, .ref b0), (1, .ref (a1 0)), (2, .ref (a2 0)), (3, .ref o)] → mN σ ≤ mN σ' → cells' ≤ cells + 10 + (mN σ' - mN σ) → slots' ≤ slots + 18 * (10 + (mN σ' - mN σ)) → W p l e room_1 s m args below meth c H' [] cells' slots' Q (F0 m 1161 ls' [])) : W p l e room_1 s m args below meth c H [] cells slots Q (F0 m 432 ls []) := by
  have hx := C.1.1
  have hb := C.1.2.1
  obtain ⟨hR1, hR2, hn21, hn221, hn26⟩ := hRel σ μ hr
  obtain ⟨b, N, hb1, hb2, hb3, hw⟩ := hO σ μ hr (xs (i + 1)) (v 0)
  refine lv_aload_n hx hb dL_law_432 rfl (ml_at hl 2 rfl) ?_
  refine lv_aload_n hx hb dL_law_433 rfl (ml_at hl 1 rfl) ?_
  refine lv_iload hx hb dL_law_434 (ml_at hl 0 rfl) ?_
  refine lv_iconst (v := 1) hx hb dL_law_436 (by decide) ?_
  refine lv_iadd hx hb dL_law_437 ?_
  refine l_sld C hX hbl hB.1 (j := i + 1) (nI_add i 1) (by omega) (by omega) dL_law_438 ?_
  refine lv_aload_n hx hb dL_law_439 rfl (ml_at hl 4 rfl) ?_
  refine lw_callL (Is := [.int (xs (i + 1))]) (n := 3) (b := b) C Z hB hR1 (by omega) hl.1.1 cl_L_93 (fun ad => c_L_cancel l hfl G cL ad o (xs (i + 1)) σ v b (lQ_cancel Rel N μ (xs (i + 1))) hw) ⟨by decide, by decide, by decide +kernel⟩ rfl rfl ⟨Nat.le_of_ble_eq_true rfl, Nat.le_of_ble_eq_true rfl⟩ m_c0 (Nat.le_of_ble_eq_true rfl) dL_law_440 ⟨rmC (show cells + b ≤ 300000 by omega), rmS (show slots + 18 * b ≤ 5500000 by omega)⟩ (fun k x σ' v' H1 a1' hq hv' ha1 hB1 hmo => ?_) (fun k x σ' hq => Nat.le_trans hb2 hq.1)
  obtain ⟨hN, hq⟩ := hq
  refine mr_istore (lv' := [(5, .int k), (4, .int (nI i)), (0, .ref b0), (1, .ref (a1 0)), (2, .ref (a2 0)), (3, .ref o)]) C hl dL_law_443 (by decide) rfl (fun ls hl1 => ?_)
  refine lv_aload_n hx hb dL_law_445 rfl (ml_at hl1 4 rfl) ?_
  refine lv_aload_n hx hb dL_law_446 rfl (ml_at hl1 2 rfl) ?_
  refine lv_iload hx hb dL_law_447 (ml_at hl1 1 rfl) ?_
  refine lv_iconst (v := 1) hx hb dL_law_449 (by decide) ?_
  refine lv_iadd hx hb dL_law_450 ?_
  refine l_sld C hX hbl hB1.1 (j := i + 1) (nI_add i 1) (by omega) (by omega) dL_law_451 ?_
  refine lw_callM (Is := [.int (xs (i + 1))]) (n := 1) C hB1 hR2 (by omega) hl1.1.1 cw_La_96 (fun ad => c_X3_cancel l G ad (xs (i + 1)) μ _ hq) ⟨rfl, by decide, by decide, by decide +kernel⟩ rfl rfl ⟨Nat.le_of_ble_eq_true rfl, Nat.le_of_ble_eq_true rfl⟩ m_c0 (Nat.le_of_ble_eq_true rfl) dL_law_452 ⟨rmC (show cells + b ≤ 300000 by omega), rmS (show slots + 18 * b ≤ 5500000 by omega)⟩ (fun r μ' h => ?_) (fun r2 μ' H2 a2' hq ha2 hB2 => ?_)
  · exact (hRel _ _ h.2.2).2.2.2.2.trans hn26.symm
  obtain ⟨hk, hx9, hr2⟩ := hq
  obtain ⟨hR1', hR2', hn21', hn221', hn26'⟩ := hRel σ' μ' hr2
  refine mr_istore (lv' := [(6, .int r2), (5, .int k), (4, .int (nI i)), (0, .ref b0), (1, .ref (a1 0)), (2, .ref (a2 0)), (3, .ref o)]) C hl1 dL_law_455 (by decide) rfl (fun ls hl2 => ?_)
  refine lv_aload_n hx hb dL_law_457 rfl (ml_at hl2 5 rfl) ?_
  rw [← ha2]
  refine lw_callM (Is := []) (n := 0) (Qi := fun r μ2 => r = mI μ' 0 0 ∧ μ2 = μ') C hB2 hR2' (by omega) hl2.1.1 cw_La_78 (fun ad => c_X3_thrown l G ad μ' _ ⟨rfl, rfl⟩) ⟨rfl, by decide, by decide, by decide +kernel⟩ rfl rfl ⟨Nat.le_of_ble_eq_true rfl, Nat.le_of_ble_eq_true rfl⟩ m_c0 (Nat.le_of_ble_eq_true rfl) dL_law_458 ⟨rmC (show cells + b ≤ 300000 by omega), rmS (show slots + 18 * b ≤ 5500000 by omega)⟩ (fun r μ2 h => by rw [h.2]) (fun r3 μ2 H3 a3 hq3 ha3 hB3 => ?_)
  obtain ⟨rfl, rfl⟩ := hq3
  refine lv_iload hx hb dL_law_461 (ml_at hl2 1 rfl) ?_
  refine lv_icmp_eq (tgt := 468) hx hb dL_law_463 (by decide) (fun _ => ?_) (fun hc => absurd hk hc)
  refine lv_iload hx hb dL_law_468 (ml_at hl2 1 rfl) ?_
  refine lv_if_ne (tgt := 485) hx hb dL_law_470 (by decide) (fun hc => ?_) (fun hc => ?_)
  · refine lv_goto (tgt := 1161) hx hb dL_law_485 (by decide) ?_
    exact kk σ' _ v' _ a1' a3 ls (cells + b) (slots + 18 * b) hr2 hB3 ha1 (ha3.trans ha2) (ml_sub hl2 [2, 3, 4, 5, 6] rfl) hmo (by omega) (by omega)
  · refine lv_aload_n hx hb dL_law_473 rfl (ml_at hl2 6 rfl) ?_
    refine lv_iconst (v := 0) hx hb dL_law_474 (by decide) ?_
    refine l_lald C Z hB3.2.2.2.1 dL_law_475 ?_
    refine lv_iload hx hb dL_law_476 (ml_at hl2 0 rfl) ?_
    refine lv_i2l (v := r2.toInt64) hx hb dL_law_478 rfl ?_
    refine W.lcmp hx hb dL_law_479 ?_
    refine lv_if_eq (tgt := 485) hx hb dL_law_480 (by decide) (fun _ => ?_) (fun h => absurd (l_cmp (hv'.trans (hx9 hc))) h)
    refine lv_goto (tgt := 1161) hx hb dL_law_485 (by decide) ?_
    exact kk σ' _ v' _ a1' a3 ls (cells + b) (slots + 18 * b) hr2 hB3 ha1 (ha3.trans ha2) (ml_sub hl2 [2, 3, 4, 5, 6] rfl) hmo (by omega) (by omega)
set_option maxRecDepth 100000 in
set_option maxHeartbeats 4000000 in
theorem lc_pass {p : Program} {l : Launch} {e : Env} {s : State} {m : MethodId} {args : Array Value} {below : List Frame} {meth : Method} {c : Code} {H : Heap} {cells slots : Nat} {Q : State → Prop} {ls : Array Slot} {G : mG} {cL : ClassId} {a1 a2 : Nat → Nat} {σ μ : mS} {v : Nat → Int64} {b0 o i L : Nat} {xs : Nat → Int32} (Rel : mS → mS → Prop) (hRel : lRel Rel) (C : mX p s m c cL_law 7 args RL G) (hfl : l.stackTraces = false) (Z : lZ cL s) (hX : va_X b0 L xs s s.heap) (hbl : b0 < s.heap.size) (hL : L ≤ 2560) (hi : i + 5 ≤ L) (hB : lB G cL a1 a2 o s.heap σ μ v H) (hr : Rel σ μ) (hcs : cells ≤ 100000 ∧ slots ≤ 5000000) (hl : ml_has ls 7 [(4, .int (nI i)), (0, .ref b0), (1, .ref (a1 0)), (2, .ref (a2 0)), (3, .ref o)]) (hO : lO_pass Rel) (kk : ∀ (σ' μ' : mS) (v' : Nat → Int64) (H' : Heap) (a1' a2' : Nat → Nat) (ls' : Array Slot) (cells' slots' : Nat), Rel σ' μ' → lB G cL a1' a2' o s.heap σ' μ' v' H' → a1' 0 = a1 0 → a2' 0 = a2 0 → ml_has ls' 7 [(4, .int (nI i)), (0, .ref b0), (1, .ref (a1 0)), (2, .ref (a2 0)), (3, .ref o)] → mN σ ≤ mN σ' → cells' ≤ cells + 10 + (mN σ' - mN σ) → slots' ≤ slots + 18 * (10 + (mN σ' - mN σ)) → W p l e room_1 s m args below meth c H' [] cells' slots' Q (F0 m 1161 ls' [])) : W p l e room_1 s m args below meth c H [] cells slots Q (F0 m 488 ls []) := by
  have hx := C.1.1
  have hb := C.1.2.1
  obtain ⟨hR1, hR2, hn21, hn221, hn26⟩ := hRel σ μ hr
  obtain ⟨b, N, hb1, hb2, hb3, hw⟩ := hO σ μ hr (xs (i + 1)) (v 0)
  refine lv_aload_n hx hb dL_law_488 rfl (ml_at hl 2 rfl) ?_
  refine lv_aload_n hx hb dL_law_489 rfl (ml_at hl 1 rfl) ?_
  refine lv_iload hx hb dL_law_490 (ml_at hl 0 rfl) ?_
  refine lv_iconst (v := 1) hx hb dL_law_492 (by decide) ?_
  refine lv_iadd hx hb dL_law_493 ?_
  refine l_sld C hX hbl hB.1 (j := i + 1) (nI_add i 1) (by omega) (by omega) dL_law_494 ?_
  refine lv_aload_n hx hb dL_law_495 rfl (ml_at hl 4 rfl) ?_
  refine lw_callL (Is := [.int (xs (i + 1))]) (n := 3) (b := b) C Z hB hR1 (by omega) hl.1.1 cl_L_97 (fun ad => c_L_pass l hfl G cL ad o (xs (i + 1)) σ v b (lQ_pass Rel N μ (xs (i + 1))) hw) ⟨by decide, by decide, by decide +kernel⟩ rfl rfl ⟨Nat.le_of_ble_eq_true rfl, Nat.le_of_ble_eq_true rfl⟩ m_c0 (Nat.le_of_ble_eq_true rfl) dL_law_496 ⟨rmC (show cells + b ≤ 300000 by omega), rmS (show slots + 18 * b ≤ 5500000 by omega)⟩ (fun k x σ' v' H1 a1' hq hv' ha1 hB1 hmo => ?_) (fun k x σ' hq => Nat.le_trans hb2 hq.1)
  obtain ⟨hN, hq⟩ := hq
  refine mr_istore (lv' := [(5, .int k), (4, .int (nI i)), (0, .ref b0), (1, .ref (a1 0)), (2, .ref (a2 0)), (3, .ref o)]) C hl dL_law_499 (by decide) rfl (fun ls hl1 => ?_)
  refine lv_aload_n hx hb dL_law_501 rfl (ml_at hl1 4 rfl) ?_
  refine lv_aload_n hx hb dL_law_502 rfl (ml_at hl1 2 rfl) ?_
  refine lv_iload hx hb dL_law_503 (ml_at hl1 1 rfl) ?_
  refine lv_iconst (v := 1) hx hb dL_law_505 (by decide) ?_
  refine lv_iadd hx hb dL_law_506 ?_
  refine l_sld C hX hbl hB1.1 (j := i + 1) (nI_add i 1) (by omega) (by omega) dL_law_507 ?_
  refine lw_callM (Is := [.int (xs (i + 1))]) (n := 1) C hB1 hR2 (by omega) hl1.1.1 cw_La_99 (fun ad => c_X3_pass l G ad (xs (i + 1)) μ _ hq) ⟨rfl, by decide, by decide, by decide +kernel⟩ rfl rfl ⟨Nat.le_of_ble_eq_true rfl, Nat.le_of_ble_eq_true rfl⟩ m_c0 (Nat.le_of_ble_eq_true rfl) dL_law_508 ⟨rmC (show cells + b ≤ 300000 by omega), rmS (show slots + 18 * b ≤ 5500000 by omega)⟩ (fun r μ' h => ?_) (fun r2 μ' H2 a2' hq ha2 hB2 => ?_)
  · exact (hRel _ _ h.2.2).2.2.2.2.trans hn26.symm
  obtain ⟨hk, hx9, hr2⟩ := hq
  obtain ⟨hR1', hR2', hn21', hn221', hn26'⟩ := hRel σ' μ' hr2
  refine mr_istore (lv' := [(6, .int r2), (5, .int k), (4, .int (nI i)), (0, .ref b0), (1, .ref (a1 0)), (2, .ref (a2 0)), (3, .ref o)]) C hl1 dL_law_511 (by decide) rfl (fun ls hl2 => ?_)
  refine lv_aload_n hx hb dL_law_513 rfl (ml_at hl2 5 rfl) ?_
  rw [← ha2]
  refine lw_callM (Is := []) (n := 0) (Qi := fun r μ2 => r = mI μ' 0 0 ∧ μ2 = μ') C hB2 hR2' (by omega) hl2.1.1 cw_La_78 (fun ad => c_X3_thrown l G ad μ' _ ⟨rfl, rfl⟩) ⟨rfl, by decide, by decide, by decide +kernel⟩ rfl rfl ⟨Nat.le_of_ble_eq_true rfl, Nat.le_of_ble_eq_true rfl⟩ m_c0 (Nat.le_of_ble_eq_true rfl) dL_law_514 ⟨rmC (show cells + b ≤ 300000 by omega), rmS (show slots + 18 * b ≤ 5500000 by omega)⟩ (fun r μ2 h => by rw [h.2]) (fun r3 μ2 H3 a3 hq3 ha3 hB3 => ?_)
  obtain ⟨rfl, rfl⟩ := hq3
  refine lv_iload hx hb dL_law_517 (ml_at hl2 1 rfl) ?_
  refine lv_icmp_eq (tgt := 524) hx hb dL_law_519 (by decide) (fun _ => ?_) (fun hc => absurd hk hc)
  refine lv_iload hx hb dL_law_524 (ml_at hl2 1 rfl) ?_
  refine lv_if_ne (tgt := 541) hx hb dL_law_526 (by decide) (fun hc => ?_) (fun hc => ?_)
  · refine lv_goto (tgt := 1161) hx hb dL_law_541 (by decide) ?_
    exact kk σ' _ v' _ a1' a3 ls (cells + b) (slots + 18 * b) hr2 hB3 ha1 (ha3.trans ha2) (ml_sub hl2 [2, 3, 4, 5, 6] rfl) hmo (by omega) (by omega)
  · refine lv_aload_n hx hb dL_law_529 rfl (ml_at hl2 6 rfl) ?_
    refine lv_iconst (v := 0) hx hb dL_law_530 (by decide) ?_
    refine l_lald C Z hB3.2.2.2.1 dL_law_531 ?_
    refine lv_iload hx hb dL_law_532 (ml_at hl2 0 rfl) ?_
    refine lv_i2l (v := r2.toInt64) hx hb dL_law_534 rfl ?_
    refine W.lcmp hx hb dL_law_535 ?_
    refine lv_if_eq (tgt := 541) hx hb dL_law_536 (by decide) (fun _ => ?_) (fun h => absurd (l_cmp (hv'.trans (hx9 hc))) h)
    refine lv_goto (tgt := 1161) hx hb dL_law_541 (by decide) ?_
    exact kk σ' _ v' _ a1' a3 ls (cells + b) (slots + 18 * b) hr2 hB3 ha1 (ha3.trans ha2) (ml_sub hl2 [2, 3, 4, 5, 6] rfl) hmo (by omega) (by omega)
set_option maxRecDepth 100000 in
set_option maxHeartbeats 4000000 in
theorem lc_state {p : Program} {l : Launch} {e : Env} {s : State} {m : MethodId} {args : Array Value} {below : List Frame} {meth : Method} {c : Code} {H : Heap} {cells slots : Nat} {Q : State → Prop} {ls : Array Slot} {G : mG} {cL : ClassId} {a1 a2 : Nat → Nat} {σ μ : mS} {v : Nat → Int64} {b0 o i L : Nat} {xs : Nat → Int32} (Rel : mS → mS → Prop) (hRel : lRel Rel) (C : mX p s m c cL_law 7 args RL G) (hfl : l.stackTraces = false) (Z : lZ cL s) (hX : va_X b0 L xs s s.heap) (hbl : b0 < s.heap.size) (hL : L ≤ 2560) (hi : i + 5 ≤ L) (hB : lB G cL a1 a2 o s.heap σ μ v H) (hr : Rel σ μ) (hcs : cells ≤ 100000 ∧ slots ≤ 5000000) (hl : ml_has ls 7 [(4, .int (nI i)), (0, .ref b0), (1, .ref (a1 0)), (2, .ref (a2 0)), (3, .ref o)]) (hO : lO_state Rel) (kk : ∀ (σ' μ' : mS) (v' : Nat → Int64) (H' : Heap) (a1' a2' : Nat → Nat) (ls' : Array Slot) (cells' slots' : Nat), Rel σ' μ' → lB G cL a1' a2' o s.heap σ' μ' v' H' → a1' 0 = a1 0 → a2' 0 = a2 0 → ml_has ls' 7 [(4, .int (nI i)), (0, .ref b0), (1, .ref (a1 0)), (2, .ref (a2 0)), (3, .ref o)] → mN σ ≤ mN σ' → cells' ≤ cells + 10 + (mN σ' - mN σ) → slots' ≤ slots + 18 * (10 + (mN σ' - mN σ)) → W p l e room_1 s m args below meth c H' [] cells' slots' Q (F0 m 1161 ls' [])) : W p l e room_1 s m args below meth c H [] cells slots Q (F0 m 570 ls []) := by
  have hx := C.1.1
  have hb := C.1.2.1
  obtain ⟨hR1, hR2, hn21, hn221, hn26⟩ := hRel σ μ hr
  obtain ⟨b, N, hb1, hb2, hb3, hw⟩ := hO σ μ hr (xs (i + 1)) (v 0)
  refine lv_aload_n hx hb dL_law_570 rfl (ml_at hl 2 rfl) ?_
  refine lv_aload_n hx hb dL_law_571 rfl (ml_at hl 1 rfl) ?_
  refine lv_iload hx hb dL_law_572 (ml_at hl 0 rfl) ?_
  refine lv_iconst (v := 1) hx hb dL_law_574 (by decide) ?_
  refine lv_iadd hx hb dL_law_575 ?_
  refine l_sld C hX hbl hB.1 (j := i + 1) (nI_add i 1) (by omega) (by omega) dL_law_576 ?_
  refine lv_aload_n hx hb dL_law_577 rfl (ml_at hl 4 rfl) ?_
  refine lw_callL (Is := [.int (xs (i + 1))]) (n := 3) (b := b) C Z hB hR1 (by omega) hl.1.1 cl_L_108 (fun ad => c_L_state l hfl G cL ad o (xs (i + 1)) σ v b (lQ_state Rel N μ (xs (i + 1))) hw) ⟨by decide, by decide, by decide +kernel⟩ rfl rfl ⟨Nat.le_of_ble_eq_true rfl, Nat.le_of_ble_eq_true rfl⟩ m_c0 (Nat.le_of_ble_eq_true rfl) dL_law_578 ⟨rmC (show cells + b ≤ 300000 by omega), rmS (show slots + 18 * b ≤ 5500000 by omega)⟩ (fun k x σ' v' H1 a1' hq hv' ha1 hB1 hmo => ?_) (fun k x σ' hq => Nat.le_trans hb2 hq.1)
  obtain ⟨hN, hq⟩ := hq
  refine mr_istore (lv' := [(5, .int k), (4, .int (nI i)), (0, .ref b0), (1, .ref (a1 0)), (2, .ref (a2 0)), (3, .ref o)]) C hl dL_law_581 (by decide) rfl (fun ls hl1 => ?_)
  refine lv_aload_n hx hb dL_law_583 rfl (ml_at hl1 4 rfl) ?_
  refine lv_aload_n hx hb dL_law_584 rfl (ml_at hl1 2 rfl) ?_
  refine lv_iload hx hb dL_law_585 (ml_at hl1 1 rfl) ?_
  refine lv_iconst (v := 1) hx hb dL_law_587 (by decide) ?_
  refine lv_iadd hx hb dL_law_588 ?_
  refine l_sld C hX hbl hB1.1 (j := i + 1) (nI_add i 1) (by omega) (by omega) dL_law_589 ?_
  refine lw_callM (Is := [.int (xs (i + 1))]) (n := 1) C hB1 hR2 (by omega) hl1.1.1 cw_La_110 (fun ad => c_X3_state l G ad (xs (i + 1)) μ _ hq) ⟨rfl, by decide, by decide, by decide +kernel⟩ rfl rfl ⟨Nat.le_of_ble_eq_true rfl, Nat.le_of_ble_eq_true rfl⟩ m_c0 (Nat.le_of_ble_eq_true rfl) dL_law_590 ⟨rmC (show cells + b ≤ 300000 by omega), rmS (show slots + 18 * b ≤ 5500000 by omega)⟩ (fun r μ' h => ?_) (fun r2 μ' H2 a2' hq ha2 hB2 => ?_)
  · exact (hRel _ _ h.2.2).2.2.2.2.trans hn26.symm
  obtain ⟨hk, hx9, hr2⟩ := hq
  obtain ⟨hR1', hR2', hn21', hn221', hn26'⟩ := hRel σ' μ' hr2
  refine mr_istore (lv' := [(6, .int r2), (5, .int k), (4, .int (nI i)), (0, .ref b0), (1, .ref (a1 0)), (2, .ref (a2 0)), (3, .ref o)]) C hl1 dL_law_593 (by decide) rfl (fun ls hl2 => ?_)
  refine lv_aload_n hx hb dL_law_595 rfl (ml_at hl2 5 rfl) ?_
  rw [← ha2]
  refine lw_callM (Is := []) (n := 0) (Qi := fun r μ2 => r = mI μ' 0 0 ∧ μ2 = μ') C hB2 hR2' (by omega) hl2.1.1 cw_La_78 (fun ad => c_X3_thrown l G ad μ' _ ⟨rfl, rfl⟩) ⟨rfl, by decide, by decide, by decide +kernel⟩ rfl rfl ⟨Nat.le_of_ble_eq_true rfl, Nat.le_of_ble_eq_true rfl⟩ m_c0 (Nat.le_of_ble_eq_true rfl) dL_law_596 ⟨rmC (show cells + b ≤ 300000 by omega), rmS (show slots + 18 * b ≤ 5500000 by omega)⟩ (fun r μ2 h => by rw [h.2]) (fun r3 μ2 H3 a3 hq3 ha3 hB3 => ?_)
  obtain ⟨rfl, rfl⟩ := hq3
  refine lv_iload hx hb dL_law_599 (ml_at hl2 1 rfl) ?_
  refine lv_icmp_eq (tgt := 606) hx hb dL_law_601 (by decide) (fun _ => ?_) (fun hc => absurd hk hc)
  refine lv_iload hx hb dL_law_606 (ml_at hl2 1 rfl) ?_
  refine lv_if_ne (tgt := 623) hx hb dL_law_608 (by decide) (fun hc => ?_) (fun hc => ?_)
  · refine lv_goto (tgt := 1161) hx hb dL_law_623 (by decide) ?_
    exact kk σ' _ v' _ a1' a3 ls (cells + b) (slots + 18 * b) hr2 hB3 ha1 (ha3.trans ha2) (ml_sub hl2 [2, 3, 4, 5, 6] rfl) hmo (by omega) (by omega)
  · refine lv_aload_n hx hb dL_law_611 rfl (ml_at hl2 6 rfl) ?_
    refine lv_iconst (v := 0) hx hb dL_law_612 (by decide) ?_
    refine l_lald C Z hB3.2.2.2.1 dL_law_613 ?_
    refine lv_iload hx hb dL_law_614 (ml_at hl2 0 rfl) ?_
    refine lv_i2l (v := r2.toInt64) hx hb dL_law_616 rfl ?_
    refine W.lcmp hx hb dL_law_617 ?_
    refine lv_if_eq (tgt := 623) hx hb dL_law_618 (by decide) (fun _ => ?_) (fun h => absurd (l_cmp (hv'.trans (hx9 hc))) h)
    refine lv_goto (tgt := 1161) hx hb dL_law_623 (by decide) ?_
    exact kk σ' _ v' _ a1' a3 ls (cells + b) (slots + 18 * b) hr2 hB3 ha1 (ha3.trans ha2) (ml_sub hl2 [2, 3, 4, 5, 6] rfl) hmo (by omega) (by omega)
set_option maxRecDepth 100000 in
set_option maxHeartbeats 4000000 in
theorem lc_origin {p : Program} {l : Launch} {e : Env} {s : State} {m : MethodId} {args : Array Value} {below : List Frame} {meth : Method} {c : Code} {H : Heap} {cells slots : Nat} {Q : State → Prop} {ls : Array Slot} {G : mG} {cL : ClassId} {a1 a2 : Nat → Nat} {σ μ : mS} {v : Nat → Int64} {b0 o i L : Nat} {xs : Nat → Int32} (Rel : mS → mS → Prop) (hRel : lRel Rel) (C : mX p s m c cL_law 7 args RL G) (hfl : l.stackTraces = false) (Z : lZ cL s) (hX : va_X b0 L xs s s.heap) (hbl : b0 < s.heap.size) (hL : L ≤ 2560) (hi : i + 5 ≤ L) (hB : lB G cL a1 a2 o s.heap σ μ v H) (hr : Rel σ μ) (hcs : cells ≤ 100000 ∧ slots ≤ 5000000) (hl : ml_has ls 7 [(4, .int (nI i)), (0, .ref b0), (1, .ref (a1 0)), (2, .ref (a2 0)), (3, .ref o)]) (hO : lO_origin Rel) (kk : ∀ (σ' μ' : mS) (v' : Nat → Int64) (H' : Heap) (a1' a2' : Nat → Nat) (ls' : Array Slot) (cells' slots' : Nat), Rel σ' μ' → lB G cL a1' a2' o s.heap σ' μ' v' H' → a1' 0 = a1 0 → a2' 0 = a2 0 → ml_has ls' 7 [(4, .int (nI i)), (0, .ref b0), (1, .ref (a1 0)), (2, .ref (a2 0)), (3, .ref o)] → mN σ ≤ mN σ' → cells' ≤ cells + 10 + (mN σ' - mN σ) → slots' ≤ slots + 18 * (10 + (mN σ' - mN σ)) → W p l e room_1 s m args below meth c H' [] cells' slots' Q (F0 m 1161 ls' [])) : W p l e room_1 s m args below meth c H [] cells slots Q (F0 m 626 ls []) := by
  have hx := C.1.1
  have hb := C.1.2.1
  obtain ⟨hR1, hR2, hn21, hn221, hn26⟩ := hRel σ μ hr
  obtain ⟨b, N, hb1, hb2, hb3, hw⟩ := hO σ μ hr (xs (i + 1)) (v 0)
  refine lv_aload_n hx hb dL_law_626 rfl (ml_at hl 2 rfl) ?_
  refine lv_aload_n hx hb dL_law_627 rfl (ml_at hl 1 rfl) ?_
  refine lv_iload hx hb dL_law_628 (ml_at hl 0 rfl) ?_
  refine lv_iconst (v := 1) hx hb dL_law_630 (by decide) ?_
  refine lv_iadd hx hb dL_law_631 ?_
  refine l_sld C hX hbl hB.1 (j := i + 1) (nI_add i 1) (by omega) (by omega) dL_law_632 ?_
  refine lv_aload_n hx hb dL_law_633 rfl (ml_at hl 4 rfl) ?_
  refine lw_callL (Is := [.int (xs (i + 1))]) (n := 3) (b := b) C Z hB hR1 (by omega) hl.1.1 cl_L_111 (fun ad => c_L_origin l hfl G cL ad o (xs (i + 1)) σ v b (lQ_origin Rel N μ (xs (i + 1))) hw) ⟨by decide, by decide, by decide +kernel⟩ rfl rfl ⟨Nat.le_of_ble_eq_true rfl, Nat.le_of_ble_eq_true rfl⟩ m_c0 (Nat.le_of_ble_eq_true rfl) dL_law_634 ⟨rmC (show cells + b ≤ 300000 by omega), rmS (show slots + 18 * b ≤ 5500000 by omega)⟩ (fun k x σ' v' H1 a1' hq hv' ha1 hB1 hmo => ?_) (fun k x σ' hq => Nat.le_trans hb2 hq.1)
  obtain ⟨hN, hq⟩ := hq
  refine mr_istore (lv' := [(5, .int k), (4, .int (nI i)), (0, .ref b0), (1, .ref (a1 0)), (2, .ref (a2 0)), (3, .ref o)]) C hl dL_law_637 (by decide) rfl (fun ls hl1 => ?_)
  refine lv_aload_n hx hb dL_law_639 rfl (ml_at hl1 4 rfl) ?_
  refine lv_aload_n hx hb dL_law_640 rfl (ml_at hl1 2 rfl) ?_
  refine lv_iload hx hb dL_law_641 (ml_at hl1 1 rfl) ?_
  refine lv_iconst (v := 1) hx hb dL_law_643 (by decide) ?_
  refine lv_iadd hx hb dL_law_644 ?_
  refine l_sld C hX hbl hB1.1 (j := i + 1) (nI_add i 1) (by omega) (by omega) dL_law_645 ?_
  refine lw_callM (Is := [.int (xs (i + 1))]) (n := 1) C hB1 hR2 (by omega) hl1.1.1 cw_La_113 (fun ad => c_X3_origin l G ad (xs (i + 1)) μ _ hq) ⟨rfl, by decide, by decide, by decide +kernel⟩ rfl rfl ⟨Nat.le_of_ble_eq_true rfl, Nat.le_of_ble_eq_true rfl⟩ m_c0 (Nat.le_of_ble_eq_true rfl) dL_law_646 ⟨rmC (show cells + b ≤ 300000 by omega), rmS (show slots + 18 * b ≤ 5500000 by omega)⟩ (fun r μ' h => ?_) (fun r2 μ' H2 a2' hq ha2 hB2 => ?_)
  · exact (hRel _ _ h.2.2).2.2.2.2.trans hn26.symm
  obtain ⟨hk, hx9, hr2⟩ := hq
  obtain ⟨hR1', hR2', hn21', hn221', hn26'⟩ := hRel σ' μ' hr2
  refine mr_istore (lv' := [(6, .int r2), (5, .int k), (4, .int (nI i)), (0, .ref b0), (1, .ref (a1 0)), (2, .ref (a2 0)), (3, .ref o)]) C hl1 dL_law_649 (by decide) rfl (fun ls hl2 => ?_)
  refine lv_aload_n hx hb dL_law_651 rfl (ml_at hl2 5 rfl) ?_
  rw [← ha2]
  refine lw_callM (Is := []) (n := 0) (Qi := fun r μ2 => r = mI μ' 0 0 ∧ μ2 = μ') C hB2 hR2' (by omega) hl2.1.1 cw_La_78 (fun ad => c_X3_thrown l G ad μ' _ ⟨rfl, rfl⟩) ⟨rfl, by decide, by decide, by decide +kernel⟩ rfl rfl ⟨Nat.le_of_ble_eq_true rfl, Nat.le_of_ble_eq_true rfl⟩ m_c0 (Nat.le_of_ble_eq_true rfl) dL_law_652 ⟨rmC (show cells + b ≤ 300000 by omega), rmS (show slots + 18 * b ≤ 5500000 by omega)⟩ (fun r μ2 h => by rw [h.2]) (fun r3 μ2 H3 a3 hq3 ha3 hB3 => ?_)
  obtain ⟨rfl, rfl⟩ := hq3
  refine lv_iload hx hb dL_law_655 (ml_at hl2 1 rfl) ?_
  refine lv_icmp_eq (tgt := 662) hx hb dL_law_657 (by decide) (fun _ => ?_) (fun hc => absurd hk hc)
  refine lv_iload hx hb dL_law_662 (ml_at hl2 1 rfl) ?_
  refine lv_if_ne (tgt := 679) hx hb dL_law_664 (by decide) (fun hc => ?_) (fun hc => ?_)
  · refine lv_goto (tgt := 1161) hx hb dL_law_679 (by decide) ?_
    exact kk σ' _ v' _ a1' a3 ls (cells + b) (slots + 18 * b) hr2 hB3 ha1 (ha3.trans ha2) (ml_sub hl2 [2, 3, 4, 5, 6] rfl) hmo (by omega) (by omega)
  · refine lv_aload_n hx hb dL_law_667 rfl (ml_at hl2 6 rfl) ?_
    refine lv_iconst (v := 0) hx hb dL_law_668 (by decide) ?_
    refine l_lald C Z hB3.2.2.2.1 dL_law_669 ?_
    refine lv_iload hx hb dL_law_670 (ml_at hl2 0 rfl) ?_
    refine lv_i2l (v := r2.toInt64) hx hb dL_law_672 rfl ?_
    refine W.lcmp hx hb dL_law_673 ?_
    refine lv_if_eq (tgt := 679) hx hb dL_law_674 (by decide) (fun _ => ?_) (fun h => absurd (l_cmp (hv'.trans (hx9 hc))) h)
    refine lv_goto (tgt := 1161) hx hb dL_law_679 (by decide) ?_
    exact kk σ' _ v' _ a1' a3 ls (cells + b) (slots + 18 * b) hr2 hB3 ha1 (ha3.trans ha2) (ml_sub hl2 [2, 3, 4, 5, 6] rfl) hmo (by omega) (by omega)
set_option maxRecDepth 100000 in
set_option maxHeartbeats 4000000 in
theorem lc_deadline {p : Program} {l : Launch} {e : Env} {s : State} {m : MethodId} {args : Array Value} {below : List Frame} {meth : Method} {c : Code} {H : Heap} {cells slots : Nat} {Q : State → Prop} {ls : Array Slot} {G : mG} {cL : ClassId} {a1 a2 : Nat → Nat} {σ μ : mS} {v : Nat → Int64} {b0 o i L : Nat} {xs : Nat → Int32} (Rel : mS → mS → Prop) (hRel : lRel Rel) (C : mX p s m c cL_law 7 args RL G) (hfl : l.stackTraces = false) (Z : lZ cL s) (hX : va_X b0 L xs s s.heap) (hbl : b0 < s.heap.size) (hL : L ≤ 2560) (hi : i + 5 ≤ L) (hB : lB G cL a1 a2 o s.heap σ μ v H) (hr : Rel σ μ) (hcs : cells ≤ 100000 ∧ slots ≤ 5000000) (hl : ml_has ls 7 [(4, .int (nI i)), (0, .ref b0), (1, .ref (a1 0)), (2, .ref (a2 0)), (3, .ref o)]) (hO : lO_deadline Rel) (kk : ∀ (σ' μ' : mS) (v' : Nat → Int64) (H' : Heap) (a1' a2' : Nat → Nat) (ls' : Array Slot) (cells' slots' : Nat), Rel σ' μ' → lB G cL a1' a2' o s.heap σ' μ' v' H' → a1' 0 = a1 0 → a2' 0 = a2 0 → ml_has ls' 7 [(4, .int (nI i)), (0, .ref b0), (1, .ref (a1 0)), (2, .ref (a2 0)), (3, .ref o)] → mN σ ≤ mN σ' → cells' ≤ cells + 10 + (mN σ' - mN σ) → slots' ≤ slots + 18 * (10 + (mN σ' - mN σ)) → W p l e room_1 s m args below meth c H' [] cells' slots' Q (F0 m 1161 ls' [])) : W p l e room_1 s m args below meth c H [] cells slots Q (F0 m 682 ls []) := by
  have hx := C.1.1
  have hb := C.1.2.1
  obtain ⟨hR1, hR2, hn21, hn221, hn26⟩ := hRel σ μ hr
  obtain ⟨b, N, hb1, hb2, hb3, hw⟩ := hO σ μ hr (xs (i + 1)) (v 0)
  refine lv_aload_n hx hb dL_law_682 rfl (ml_at hl 2 rfl) ?_
  refine lv_aload_n hx hb dL_law_683 rfl (ml_at hl 1 rfl) ?_
  refine lv_iload hx hb dL_law_684 (ml_at hl 0 rfl) ?_
  refine lv_iconst (v := 1) hx hb dL_law_686 (by decide) ?_
  refine lv_iadd hx hb dL_law_687 ?_
  refine l_sld C hX hbl hB.1 (j := i + 1) (nI_add i 1) (by omega) (by omega) dL_law_688 ?_
  refine lv_aload_n hx hb dL_law_689 rfl (ml_at hl 4 rfl) ?_
  refine lw_callL (Is := [.int (xs (i + 1))]) (n := 3) (b := b) C Z hB hR1 (by omega) hl.1.1 cl_L_114 (fun ad => c_L_deadline l hfl G cL ad o (xs (i + 1)) σ v b (lQ_deadline Rel N μ (xs (i + 1))) hw) ⟨by decide, by decide, by decide +kernel⟩ rfl rfl ⟨Nat.le_of_ble_eq_true rfl, Nat.le_of_ble_eq_true rfl⟩ m_c0 (Nat.le_of_ble_eq_true rfl) dL_law_690 ⟨rmC (show cells + b ≤ 300000 by omega), rmS (show slots + 18 * b ≤ 5500000 by omega)⟩ (fun k x σ' v' H1 a1' hq hv' ha1 hB1 hmo => ?_) (fun k x σ' hq => Nat.le_trans hb2 hq.1)
  obtain ⟨hN, hq⟩ := hq
  refine mr_istore (lv' := [(5, .int k), (4, .int (nI i)), (0, .ref b0), (1, .ref (a1 0)), (2, .ref (a2 0)), (3, .ref o)]) C hl dL_law_693 (by decide) rfl (fun ls hl1 => ?_)
  refine lv_aload_n hx hb dL_law_695 rfl (ml_at hl1 4 rfl) ?_
  refine lv_aload_n hx hb dL_law_696 rfl (ml_at hl1 2 rfl) ?_
  refine lv_iload hx hb dL_law_697 (ml_at hl1 1 rfl) ?_
  refine lv_iconst (v := 1) hx hb dL_law_699 (by decide) ?_
  refine lv_iadd hx hb dL_law_700 ?_
  refine l_sld C hX hbl hB1.1 (j := i + 1) (nI_add i 1) (by omega) (by omega) dL_law_701 ?_
  refine lw_callM (Is := [.int (xs (i + 1))]) (n := 1) C hB1 hR2 (by omega) hl1.1.1 cw_La_116 (fun ad => c_X3_deadline l G ad (xs (i + 1)) μ _ hq) ⟨rfl, by decide, by decide, by decide +kernel⟩ rfl rfl ⟨Nat.le_of_ble_eq_true rfl, Nat.le_of_ble_eq_true rfl⟩ m_c0 (Nat.le_of_ble_eq_true rfl) dL_law_702 ⟨rmC (show cells + b ≤ 300000 by omega), rmS (show slots + 18 * b ≤ 5500000 by omega)⟩ (fun r μ' h => ?_) (fun r2 μ' H2 a2' hq ha2 hB2 => ?_)
  · exact (hRel _ _ h.2.2).2.2.2.2.trans hn26.symm
  obtain ⟨hk, hx9, hr2⟩ := hq
  obtain ⟨hR1', hR2', hn21', hn221', hn26'⟩ := hRel σ' μ' hr2
  refine mr_istore (lv' := [(6, .int r2), (5, .int k), (4, .int (nI i)), (0, .ref b0), (1, .ref (a1 0)), (2, .ref (a2 0)), (3, .ref o)]) C hl1 dL_law_705 (by decide) rfl (fun ls hl2 => ?_)
  refine lv_aload_n hx hb dL_law_707 rfl (ml_at hl2 5 rfl) ?_
  rw [← ha2]
  refine lw_callM (Is := []) (n := 0) (Qi := fun r μ2 => r = mI μ' 0 0 ∧ μ2 = μ') C hB2 hR2' (by omega) hl2.1.1 cw_La_78 (fun ad => c_X3_thrown l G ad μ' _ ⟨rfl, rfl⟩) ⟨rfl, by decide, by decide, by decide +kernel⟩ rfl rfl ⟨Nat.le_of_ble_eq_true rfl, Nat.le_of_ble_eq_true rfl⟩ m_c0 (Nat.le_of_ble_eq_true rfl) dL_law_708 ⟨rmC (show cells + b ≤ 300000 by omega), rmS (show slots + 18 * b ≤ 5500000 by omega)⟩ (fun r μ2 h => by rw [h.2]) (fun r3 μ2 H3 a3 hq3 ha3 hB3 => ?_)
  obtain ⟨rfl, rfl⟩ := hq3
  refine lv_iload hx hb dL_law_711 (ml_at hl2 1 rfl) ?_
  refine lv_icmp_eq (tgt := 718) hx hb dL_law_713 (by decide) (fun _ => ?_) (fun hc => absurd hk hc)
  refine lv_iload hx hb dL_law_718 (ml_at hl2 1 rfl) ?_
  refine lv_if_ne (tgt := 735) hx hb dL_law_720 (by decide) (fun hc => ?_) (fun hc => ?_)
  · refine lv_goto (tgt := 1161) hx hb dL_law_735 (by decide) ?_
    exact kk σ' _ v' _ a1' a3 ls (cells + b) (slots + 18 * b) hr2 hB3 ha1 (ha3.trans ha2) (ml_sub hl2 [2, 3, 4, 5, 6] rfl) hmo (by omega) (by omega)
  · refine lv_aload_n hx hb dL_law_723 rfl (ml_at hl2 6 rfl) ?_
    refine lv_iconst (v := 0) hx hb dL_law_724 (by decide) ?_
    refine l_lald C Z hB3.2.2.2.1 dL_law_725 ?_
    refine lv_iload hx hb dL_law_726 (ml_at hl2 0 rfl) ?_
    refine lv_i2l (v := r2.toInt64) hx hb dL_law_728 rfl ?_
    refine W.lcmp hx hb dL_law_729 ?_
    refine lv_if_eq (tgt := 735) hx hb dL_law_730 (by decide) (fun _ => ?_) (fun h => absurd (l_cmp (hv'.trans (hx9 hc))) h)
    refine lv_goto (tgt := 1161) hx hb dL_law_735 (by decide) ?_
    exact kk σ' _ v' _ a1' a3 ls (cells + b) (slots + 18 * b) hr2 hB3 ha1 (ha3.trans ha2) (ml_sub hl2 [2, 3, 4, 5, 6] rfl) hmo (by omega) (by omega)
set_option maxRecDepth 100000 in
set_option maxHeartbeats 4000000 in
theorem lc_overAt {p : Program} {l : Launch} {e : Env} {s : State} {m : MethodId} {args : Array Value} {below : List Frame} {meth : Method} {c : Code} {H : Heap} {cells slots : Nat} {Q : State → Prop} {ls : Array Slot} {G : mG} {cL : ClassId} {a1 a2 : Nat → Nat} {σ μ : mS} {v : Nat → Int64} {b0 o i L : Nat} {xs : Nat → Int32} (Rel : mS → mS → Prop) (hRel : lRel Rel) (C : mX p s m c cL_law 7 args RL G) (hfl : l.stackTraces = false) (Z : lZ cL s) (hX : va_X b0 L xs s s.heap) (hbl : b0 < s.heap.size) (hL : L ≤ 2560) (hi : i + 5 ≤ L) (hB : lB G cL a1 a2 o s.heap σ μ v H) (hr : Rel σ μ) (hcs : cells ≤ 100000 ∧ slots ≤ 5000000) (hl : ml_has ls 7 [(4, .int (nI i)), (0, .ref b0), (1, .ref (a1 0)), (2, .ref (a2 0)), (3, .ref o)]) (hO : lO_overAt Rel) (kk : ∀ (σ' μ' : mS) (v' : Nat → Int64) (H' : Heap) (a1' a2' : Nat → Nat) (ls' : Array Slot) (cells' slots' : Nat), Rel σ' μ' → lB G cL a1' a2' o s.heap σ' μ' v' H' → a1' 0 = a1 0 → a2' 0 = a2 0 → ml_has ls' 7 [(4, .int (nI i)), (0, .ref b0), (1, .ref (a1 0)), (2, .ref (a2 0)), (3, .ref o)] → mN σ ≤ mN σ' → cells' ≤ cells + 10 + (mN σ' - mN σ) → slots' ≤ slots + 18 * (10 + (mN σ' - mN σ)) → W p l e room_1 s m args below meth c H' [] cells' slots' Q (F0 m 1161 ls' [])) : W p l e room_1 s m args below meth c H [] cells slots Q (F0 m 738 ls []) := by
  have hx := C.1.1
  have hb := C.1.2.1
  obtain ⟨hR1, hR2, hn21, hn221, hn26⟩ := hRel σ μ hr
  obtain ⟨b, N, hb1, hb2, hb3, hw⟩ := hO σ μ hr (xs (i + 1)) (v 0)
  refine lv_aload_n hx hb dL_law_738 rfl (ml_at hl 2 rfl) ?_
  refine lv_aload_n hx hb dL_law_739 rfl (ml_at hl 1 rfl) ?_
  refine lv_iload hx hb dL_law_740 (ml_at hl 0 rfl) ?_
  refine lv_iconst (v := 1) hx hb dL_law_742 (by decide) ?_
  refine lv_iadd hx hb dL_law_743 ?_
  refine l_sld C hX hbl hB.1 (j := i + 1) (nI_add i 1) (by omega) (by omega) dL_law_744 ?_
  refine lv_aload_n hx hb dL_law_745 rfl (ml_at hl 4 rfl) ?_
  refine lw_callL (Is := [.int (xs (i + 1))]) (n := 3) (b := b) C Z hB hR1 (by omega) hl.1.1 cl_L_117 (fun ad => c_L_overAt l hfl G cL ad o (xs (i + 1)) σ v b (lQ_overAt Rel N μ (xs (i + 1))) hw) ⟨by decide, by decide, by decide +kernel⟩ rfl rfl ⟨Nat.le_of_ble_eq_true rfl, Nat.le_of_ble_eq_true rfl⟩ m_c0 (Nat.le_of_ble_eq_true rfl) dL_law_746 ⟨rmC (show cells + b ≤ 300000 by omega), rmS (show slots + 18 * b ≤ 5500000 by omega)⟩ (fun k x σ' v' H1 a1' hq hv' ha1 hB1 hmo => ?_) (fun k x σ' hq => Nat.le_trans hb2 hq.1)
  obtain ⟨hN, hq⟩ := hq
  refine mr_istore (lv' := [(5, .int k), (4, .int (nI i)), (0, .ref b0), (1, .ref (a1 0)), (2, .ref (a2 0)), (3, .ref o)]) C hl dL_law_749 (by decide) rfl (fun ls hl1 => ?_)
  refine lv_aload_n hx hb dL_law_751 rfl (ml_at hl1 4 rfl) ?_
  refine lv_aload_n hx hb dL_law_752 rfl (ml_at hl1 2 rfl) ?_
  refine lv_iload hx hb dL_law_753 (ml_at hl1 1 rfl) ?_
  refine lv_iconst (v := 1) hx hb dL_law_755 (by decide) ?_
  refine lv_iadd hx hb dL_law_756 ?_
  refine l_sld C hX hbl hB1.1 (j := i + 1) (nI_add i 1) (by omega) (by omega) dL_law_757 ?_
  refine lw_callM (Is := [.int (xs (i + 1))]) (n := 1) C hB1 hR2 (by omega) hl1.1.1 cw_La_119 (fun ad => c_X3_overAt l G ad (xs (i + 1)) μ _ hq) ⟨rfl, by decide, by decide, by decide +kernel⟩ rfl rfl ⟨Nat.le_of_ble_eq_true rfl, Nat.le_of_ble_eq_true rfl⟩ m_c0 (Nat.le_of_ble_eq_true rfl) dL_law_758 ⟨rmC (show cells + b ≤ 300000 by omega), rmS (show slots + 18 * b ≤ 5500000 by omega)⟩ (fun r μ' h => ?_) (fun r2 μ' H2 a2' hq ha2 hB2 => ?_)
  · exact (hRel _ _ h.2.2).2.2.2.2.trans hn26.symm
  obtain ⟨hk, hx9, hr2⟩ := hq
  obtain ⟨hR1', hR2', hn21', hn221', hn26'⟩ := hRel σ' μ' hr2
  refine mr_istore (lv' := [(6, .int r2), (5, .int k), (4, .int (nI i)), (0, .ref b0), (1, .ref (a1 0)), (2, .ref (a2 0)), (3, .ref o)]) C hl1 dL_law_761 (by decide) rfl (fun ls hl2 => ?_)
  refine lv_aload_n hx hb dL_law_763 rfl (ml_at hl2 5 rfl) ?_
  rw [← ha2]
  refine lw_callM (Is := []) (n := 0) (Qi := fun r μ2 => r = mI μ' 0 0 ∧ μ2 = μ') C hB2 hR2' (by omega) hl2.1.1 cw_La_78 (fun ad => c_X3_thrown l G ad μ' _ ⟨rfl, rfl⟩) ⟨rfl, by decide, by decide, by decide +kernel⟩ rfl rfl ⟨Nat.le_of_ble_eq_true rfl, Nat.le_of_ble_eq_true rfl⟩ m_c0 (Nat.le_of_ble_eq_true rfl) dL_law_764 ⟨rmC (show cells + b ≤ 300000 by omega), rmS (show slots + 18 * b ≤ 5500000 by omega)⟩ (fun r μ2 h => by rw [h.2]) (fun r3 μ2 H3 a3 hq3 ha3 hB3 => ?_)
  obtain ⟨rfl, rfl⟩ := hq3
  refine lv_iload hx hb dL_law_767 (ml_at hl2 1 rfl) ?_
  refine lv_icmp_eq (tgt := 774) hx hb dL_law_769 (by decide) (fun _ => ?_) (fun hc => absurd hk hc)
  refine lv_iload hx hb dL_law_774 (ml_at hl2 1 rfl) ?_
  refine lv_if_ne (tgt := 791) hx hb dL_law_776 (by decide) (fun hc => ?_) (fun hc => ?_)
  · refine lv_goto (tgt := 1161) hx hb dL_law_791 (by decide) ?_
    exact kk σ' _ v' _ a1' a3 ls (cells + b) (slots + 18 * b) hr2 hB3 ha1 (ha3.trans ha2) (ml_sub hl2 [2, 3, 4, 5, 6] rfl) hmo (by omega) (by omega)
  · refine lv_aload_n hx hb dL_law_779 rfl (ml_at hl2 6 rfl) ?_
    refine lv_iconst (v := 0) hx hb dL_law_780 (by decide) ?_
    refine l_lald C Z hB3.2.2.2.1 dL_law_781 ?_
    refine lv_iload hx hb dL_law_782 (ml_at hl2 0 rfl) ?_
    refine lv_i2l (v := r2.toInt64) hx hb dL_law_784 rfl ?_
    refine W.lcmp hx hb dL_law_785 ?_
    refine lv_if_eq (tgt := 791) hx hb dL_law_786 (by decide) (fun _ => ?_) (fun h => absurd (l_cmp (hv'.trans (hx9 hc))) h)
    refine lv_goto (tgt := 1161) hx hb dL_law_791 (by decide) ?_
    exact kk σ' _ v' _ a1' a3 ls (cells + b) (slots + 18 * b) hr2 hB3 ha1 (ha3.trans ha2) (ml_sub hl2 [2, 3, 4, 5, 6] rfl) hmo (by omega) (by omega)
set_option maxRecDepth 100000 in
set_option maxHeartbeats 4000000 in
theorem lc_place {p : Program} {l : Launch} {e : Env} {s : State} {m : MethodId} {args : Array Value} {below : List Frame} {meth : Method} {c : Code} {H : Heap} {cells slots : Nat} {Q : State → Prop} {ls : Array Slot} {G : mG} {cL : ClassId} {a1 a2 : Nat → Nat} {σ μ : mS} {v : Nat → Int64} {b0 o i L : Nat} {xs : Nat → Int32} (Rel : mS → mS → Prop) (hRel : lRel Rel) (C : mX p s m c cL_law 7 args RL G) (hfl : l.stackTraces = false) (Z : lZ cL s) (hX : va_X b0 L xs s s.heap) (hbl : b0 < s.heap.size) (hL : L ≤ 2560) (hi : i + 5 ≤ L) (hB : lB G cL a1 a2 o s.heap σ μ v H) (hr : Rel σ μ) (hcs : cells ≤ 100000 ∧ slots ≤ 5000000) (hl : ml_has ls 7 [(4, .int (nI i)), (0, .ref b0), (1, .ref (a1 0)), (2, .ref (a2 0)), (3, .ref o)]) (hO : lO_place Rel) (kk : ∀ (σ' μ' : mS) (v' : Nat → Int64) (H' : Heap) (a1' a2' : Nat → Nat) (ls' : Array Slot) (cells' slots' : Nat), Rel σ' μ' → lB G cL a1' a2' o s.heap σ' μ' v' H' → a1' 0 = a1 0 → a2' 0 = a2 0 → ml_has ls' 7 [(4, .int (nI i)), (0, .ref b0), (1, .ref (a1 0)), (2, .ref (a2 0)), (3, .ref o)] → mN σ ≤ mN σ' → cells' ≤ cells + 10 + (mN σ' - mN σ) → slots' ≤ slots + 18 * (10 + (mN σ' - mN σ)) → W p l e room_1 s m args below meth c H' [] cells' slots' Q (F0 m 1161 ls' [])) : W p l e room_1 s m args below meth c H [] cells slots Q (F0 m 794 ls []) := by
  have hx := C.1.1
  have hb := C.1.2.1
  obtain ⟨hR1, hR2, hn21, hn221, hn26⟩ := hRel σ μ hr
  obtain ⟨b, N, hb1, hb2, hb3, hw⟩ := hO σ μ hr (xs (i + 1)) (v 0)
  refine lv_aload_n hx hb dL_law_794 rfl (ml_at hl 2 rfl) ?_
  refine lv_aload_n hx hb dL_law_795 rfl (ml_at hl 1 rfl) ?_
  refine lv_iload hx hb dL_law_796 (ml_at hl 0 rfl) ?_
  refine lv_iconst (v := 1) hx hb dL_law_798 (by decide) ?_
  refine lv_iadd hx hb dL_law_799 ?_
  refine l_sld C hX hbl hB.1 (j := i + 1) (nI_add i 1) (by omega) (by omega) dL_law_800 ?_
  refine lv_aload_n hx hb dL_law_801 rfl (ml_at hl 4 rfl) ?_
  refine lw_callL (Is := [.int (xs (i + 1))]) (n := 3) (b := b) C Z hB hR1 (by omega) hl.1.1 cl_L_120 (fun ad => c_L_place l hfl G cL ad o (xs (i + 1)) σ v b (lQ_place Rel N μ (xs (i + 1))) hw) ⟨by decide, by decide, by decide +kernel⟩ rfl rfl ⟨Nat.le_of_ble_eq_true rfl, Nat.le_of_ble_eq_true rfl⟩ m_c0 (Nat.le_of_ble_eq_true rfl) dL_law_802 ⟨rmC (show cells + b ≤ 300000 by omega), rmS (show slots + 18 * b ≤ 5500000 by omega)⟩ (fun k x σ' v' H1 a1' hq hv' ha1 hB1 hmo => ?_) (fun k x σ' hq => Nat.le_trans hb2 hq.1)
  obtain ⟨hN, hq⟩ := hq
  refine mr_istore (lv' := [(5, .int k), (4, .int (nI i)), (0, .ref b0), (1, .ref (a1 0)), (2, .ref (a2 0)), (3, .ref o)]) C hl dL_law_805 (by decide) rfl (fun ls hl1 => ?_)
  refine lv_aload_n hx hb dL_law_807 rfl (ml_at hl1 4 rfl) ?_
  refine lv_aload_n hx hb dL_law_808 rfl (ml_at hl1 2 rfl) ?_
  refine lv_iload hx hb dL_law_809 (ml_at hl1 1 rfl) ?_
  refine lv_iconst (v := 1) hx hb dL_law_811 (by decide) ?_
  refine lv_iadd hx hb dL_law_812 ?_
  refine l_sld C hX hbl hB1.1 (j := i + 1) (nI_add i 1) (by omega) (by omega) dL_law_813 ?_
  refine lw_callM (Is := [.int (xs (i + 1))]) (n := 1) C hB1 hR2 (by omega) hl1.1.1 cw_La_122 (fun ad => c_X3_place l G ad (xs (i + 1)) μ _ hq) ⟨rfl, by decide, by decide, by decide +kernel⟩ rfl rfl ⟨Nat.le_of_ble_eq_true rfl, Nat.le_of_ble_eq_true rfl⟩ m_c0 (Nat.le_of_ble_eq_true rfl) dL_law_814 ⟨rmC (show cells + b ≤ 300000 by omega), rmS (show slots + 18 * b ≤ 5500000 by omega)⟩ (fun r μ' h => ?_) (fun r2 μ' H2 a2' hq ha2 hB2 => ?_)
  · exact (hRel _ _ h.2.2).2.2.2.2.trans hn26.symm
  obtain ⟨hk, hx9, hr2⟩ := hq
  obtain ⟨hR1', hR2', hn21', hn221', hn26'⟩ := hRel σ' μ' hr2
  refine mr_istore (lv' := [(6, .int r2), (5, .int k), (4, .int (nI i)), (0, .ref b0), (1, .ref (a1 0)), (2, .ref (a2 0)), (3, .ref o)]) C hl1 dL_law_817 (by decide) rfl (fun ls hl2 => ?_)
  refine lv_aload_n hx hb dL_law_819 rfl (ml_at hl2 5 rfl) ?_
  rw [← ha2]
  refine lw_callM (Is := []) (n := 0) (Qi := fun r μ2 => r = mI μ' 0 0 ∧ μ2 = μ') C hB2 hR2' (by omega) hl2.1.1 cw_La_78 (fun ad => c_X3_thrown l G ad μ' _ ⟨rfl, rfl⟩) ⟨rfl, by decide, by decide, by decide +kernel⟩ rfl rfl ⟨Nat.le_of_ble_eq_true rfl, Nat.le_of_ble_eq_true rfl⟩ m_c0 (Nat.le_of_ble_eq_true rfl) dL_law_820 ⟨rmC (show cells + b ≤ 300000 by omega), rmS (show slots + 18 * b ≤ 5500000 by omega)⟩ (fun r μ2 h => by rw [h.2]) (fun r3 μ2 H3 a3 hq3 ha3 hB3 => ?_)
  obtain ⟨rfl, rfl⟩ := hq3
  refine lv_iload hx hb dL_law_823 (ml_at hl2 1 rfl) ?_
  refine lv_icmp_eq (tgt := 830) hx hb dL_law_825 (by decide) (fun _ => ?_) (fun hc => absurd hk hc)
  refine lv_iload hx hb dL_law_830 (ml_at hl2 1 rfl) ?_
  refine lv_if_ne (tgt := 847) hx hb dL_law_832 (by decide) (fun hc => ?_) (fun hc => ?_)
  · refine lv_goto (tgt := 1161) hx hb dL_law_847 (by decide) ?_
    exact kk σ' _ v' _ a1' a3 ls (cells + b) (slots + 18 * b) hr2 hB3 ha1 (ha3.trans ha2) (ml_sub hl2 [2, 3, 4, 5, 6] rfl) hmo (by omega) (by omega)
  · refine lv_aload_n hx hb dL_law_835 rfl (ml_at hl2 6 rfl) ?_
    refine lv_iconst (v := 0) hx hb dL_law_836 (by decide) ?_
    refine l_lald C Z hB3.2.2.2.1 dL_law_837 ?_
    refine lv_iload hx hb dL_law_838 (ml_at hl2 0 rfl) ?_
    refine lv_i2l (v := r2.toInt64) hx hb dL_law_840 rfl ?_
    refine W.lcmp hx hb dL_law_841 ?_
    refine lv_if_eq (tgt := 847) hx hb dL_law_842 (by decide) (fun _ => ?_) (fun h => absurd (l_cmp (hv'.trans (hx9 hc))) h)
    refine lv_goto (tgt := 1161) hx hb dL_law_847 (by decide) ?_
    exact kk σ' _ v' _ a1' a3 ls (cells + b) (slots + 18 * b) hr2 hB3 ha1 (ha3.trans ha2) (ml_sub hl2 [2, 3, 4, 5, 6] rfl) hmo (by omega) (by omega)
set_option maxRecDepth 100000 in
set_option maxHeartbeats 4000000 in
theorem lc_below {p : Program} {l : Launch} {e : Env} {s : State} {m : MethodId} {args : Array Value} {below : List Frame} {meth : Method} {c : Code} {H : Heap} {cells slots : Nat} {Q : State → Prop} {ls : Array Slot} {G : mG} {cL : ClassId} {a1 a2 : Nat → Nat} {σ μ : mS} {v : Nat → Int64} {b0 o i L : Nat} {xs : Nat → Int32} (Rel : mS → mS → Prop) (hRel : lRel Rel) (C : mX p s m c cL_law 7 args RL G) (hfl : l.stackTraces = false) (Z : lZ cL s) (hX : va_X b0 L xs s s.heap) (hbl : b0 < s.heap.size) (hL : L ≤ 2560) (hi : i + 5 ≤ L) (hB : lB G cL a1 a2 o s.heap σ μ v H) (hr : Rel σ μ) (hcs : cells ≤ 100000 ∧ slots ≤ 5000000) (hl : ml_has ls 7 [(4, .int (nI i)), (0, .ref b0), (1, .ref (a1 0)), (2, .ref (a2 0)), (3, .ref o)]) (hO : lO_below Rel) (kk : ∀ (σ' μ' : mS) (v' : Nat → Int64) (H' : Heap) (a1' a2' : Nat → Nat) (ls' : Array Slot) (cells' slots' : Nat), Rel σ' μ' → lB G cL a1' a2' o s.heap σ' μ' v' H' → a1' 0 = a1 0 → a2' 0 = a2 0 → ml_has ls' 7 [(4, .int (nI i)), (0, .ref b0), (1, .ref (a1 0)), (2, .ref (a2 0)), (3, .ref o)] → mN σ ≤ mN σ' → cells' ≤ cells + 10 + (mN σ' - mN σ) → slots' ≤ slots + 18 * (10 + (mN σ' - mN σ)) → W p l e room_1 s m args below meth c H' [] cells' slots' Q (F0 m 1161 ls' [])) : W p l e room_1 s m args below meth c H [] cells slots Q (F0 m 850 ls []) := by
  have hx := C.1.1
  have hb := C.1.2.1
  obtain ⟨hR1, hR2, hn21, hn221, hn26⟩ := hRel σ μ hr
  obtain ⟨b, N, hb1, hb2, hb3, hw⟩ := hO σ μ hr (xs (i + 1)) (v 0)
  refine lv_aload_n hx hb dL_law_850 rfl (ml_at hl 2 rfl) ?_
  refine lv_aload_n hx hb dL_law_851 rfl (ml_at hl 1 rfl) ?_
  refine lv_iload hx hb dL_law_852 (ml_at hl 0 rfl) ?_
  refine lv_iconst (v := 1) hx hb dL_law_854 (by decide) ?_
  refine lv_iadd hx hb dL_law_855 ?_
  refine l_sld C hX hbl hB.1 (j := i + 1) (nI_add i 1) (by omega) (by omega) dL_law_856 ?_
  refine lv_aload_n hx hb dL_law_857 rfl (ml_at hl 4 rfl) ?_
  refine lw_callL (Is := [.int (xs (i + 1))]) (n := 3) (b := b) C Z hB hR1 (by omega) hl.1.1 cl_L_123 (fun ad => c_L_below l hfl G cL ad o (xs (i + 1)) σ v b (lQ_below Rel N μ (xs (i + 1))) hw) ⟨by decide, by decide, by decide +kernel⟩ rfl rfl ⟨Nat.le_of_ble_eq_true rfl, Nat.le_of_ble_eq_true rfl⟩ m_c0 (Nat.le_of_ble_eq_true rfl) dL_law_858 ⟨rmC (show cells + b ≤ 300000 by omega), rmS (show slots + 18 * b ≤ 5500000 by omega)⟩ (fun k x σ' v' H1 a1' hq hv' ha1 hB1 hmo => ?_) (fun k x σ' hq => Nat.le_trans hb2 hq.1)
  obtain ⟨hN, hq⟩ := hq
  refine mr_istore (lv' := [(5, .int k), (4, .int (nI i)), (0, .ref b0), (1, .ref (a1 0)), (2, .ref (a2 0)), (3, .ref o)]) C hl dL_law_861 (by decide) rfl (fun ls hl1 => ?_)
  refine lv_aload_n hx hb dL_law_863 rfl (ml_at hl1 4 rfl) ?_
  refine lv_aload_n hx hb dL_law_864 rfl (ml_at hl1 2 rfl) ?_
  refine lv_iload hx hb dL_law_865 (ml_at hl1 1 rfl) ?_
  refine lv_iconst (v := 1) hx hb dL_law_867 (by decide) ?_
  refine lv_iadd hx hb dL_law_868 ?_
  refine l_sld C hX hbl hB1.1 (j := i + 1) (nI_add i 1) (by omega) (by omega) dL_law_869 ?_
  refine lw_callM (Is := [.int (xs (i + 1))]) (n := 1) C hB1 hR2 (by omega) hl1.1.1 cw_La_125 (fun ad => c_X3_below l G ad (xs (i + 1)) μ _ hq) ⟨rfl, by decide, by decide, by decide +kernel⟩ rfl rfl ⟨Nat.le_of_ble_eq_true rfl, Nat.le_of_ble_eq_true rfl⟩ m_c0 (Nat.le_of_ble_eq_true rfl) dL_law_870 ⟨rmC (show cells + b ≤ 300000 by omega), rmS (show slots + 18 * b ≤ 5500000 by omega)⟩ (fun r μ' h => ?_) (fun r2 μ' H2 a2' hq ha2 hB2 => ?_)
  · exact (hRel _ _ h.2.2).2.2.2.2.trans hn26.symm
  obtain ⟨hk, hx9, hr2⟩ := hq
  obtain ⟨hR1', hR2', hn21', hn221', hn26'⟩ := hRel σ' μ' hr2
  refine mr_istore (lv' := [(6, .int r2), (5, .int k), (4, .int (nI i)), (0, .ref b0), (1, .ref (a1 0)), (2, .ref (a2 0)), (3, .ref o)]) C hl1 dL_law_873 (by decide) rfl (fun ls hl2 => ?_)
  refine lv_aload_n hx hb dL_law_875 rfl (ml_at hl2 5 rfl) ?_
  rw [← ha2]
  refine lw_callM (Is := []) (n := 0) (Qi := fun r μ2 => r = mI μ' 0 0 ∧ μ2 = μ') C hB2 hR2' (by omega) hl2.1.1 cw_La_78 (fun ad => c_X3_thrown l G ad μ' _ ⟨rfl, rfl⟩) ⟨rfl, by decide, by decide, by decide +kernel⟩ rfl rfl ⟨Nat.le_of_ble_eq_true rfl, Nat.le_of_ble_eq_true rfl⟩ m_c0 (Nat.le_of_ble_eq_true rfl) dL_law_876 ⟨rmC (show cells + b ≤ 300000 by omega), rmS (show slots + 18 * b ≤ 5500000 by omega)⟩ (fun r μ2 h => by rw [h.2]) (fun r3 μ2 H3 a3 hq3 ha3 hB3 => ?_)
  obtain ⟨rfl, rfl⟩ := hq3
  refine lv_iload hx hb dL_law_879 (ml_at hl2 1 rfl) ?_
  refine lv_icmp_eq (tgt := 886) hx hb dL_law_881 (by decide) (fun _ => ?_) (fun hc => absurd hk hc)
  refine lv_iload hx hb dL_law_886 (ml_at hl2 1 rfl) ?_
  refine lv_if_ne (tgt := 903) hx hb dL_law_888 (by decide) (fun hc => ?_) (fun hc => ?_)
  · refine lv_goto (tgt := 1161) hx hb dL_law_903 (by decide) ?_
    exact kk σ' _ v' _ a1' a3 ls (cells + b) (slots + 18 * b) hr2 hB3 ha1 (ha3.trans ha2) (ml_sub hl2 [2, 3, 4, 5, 6] rfl) hmo (by omega) (by omega)
  · refine lv_aload_n hx hb dL_law_891 rfl (ml_at hl2 6 rfl) ?_
    refine lv_iconst (v := 0) hx hb dL_law_892 (by decide) ?_
    refine l_lald C Z hB3.2.2.2.1 dL_law_893 ?_
    refine lv_iload hx hb dL_law_894 (ml_at hl2 0 rfl) ?_
    refine lv_i2l (v := r2.toInt64) hx hb dL_law_896 rfl ?_
    refine W.lcmp hx hb dL_law_897 ?_
    refine lv_if_eq (tgt := 903) hx hb dL_law_898 (by decide) (fun _ => ?_) (fun h => absurd (l_cmp (hv'.trans (hx9 hc))) h)
    refine lv_goto (tgt := 1161) hx hb dL_law_903 (by decide) ?_
    exact kk σ' _ v' _ a1' a3 ls (cells + b) (slots + 18 * b) hr2 hB3 ha1 (ha3.trans ha2) (ml_sub hl2 [2, 3, 4, 5, 6] rfl) hmo (by omega) (by omega)
set_option maxRecDepth 100000 in
set_option maxHeartbeats 4000000 in
theorem lc_queuedAt {p : Program} {l : Launch} {e : Env} {s : State} {m : MethodId} {args : Array Value} {below : List Frame} {meth : Method} {c : Code} {H : Heap} {cells slots : Nat} {Q : State → Prop} {ls : Array Slot} {G : mG} {cL : ClassId} {a1 a2 : Nat → Nat} {σ μ : mS} {v : Nat → Int64} {b0 o i L : Nat} {xs : Nat → Int32} (Rel : mS → mS → Prop) (hRel : lRel Rel) (C : mX p s m c cL_law 7 args RL G) (hfl : l.stackTraces = false) (Z : lZ cL s) (hX : va_X b0 L xs s s.heap) (hbl : b0 < s.heap.size) (hL : L ≤ 2560) (hi : i + 5 ≤ L) (hB : lB G cL a1 a2 o s.heap σ μ v H) (hr : Rel σ μ) (hcs : cells ≤ 100000 ∧ slots ≤ 5000000) (hl : ml_has ls 7 [(4, .int (nI i)), (0, .ref b0), (1, .ref (a1 0)), (2, .ref (a2 0)), (3, .ref o)]) (hO : lO_queuedAt Rel) (kk : ∀ (σ' μ' : mS) (v' : Nat → Int64) (H' : Heap) (a1' a2' : Nat → Nat) (ls' : Array Slot) (cells' slots' : Nat), Rel σ' μ' → lB G cL a1' a2' o s.heap σ' μ' v' H' → a1' 0 = a1 0 → a2' 0 = a2 0 → ml_has ls' 7 [(4, .int (nI i)), (0, .ref b0), (1, .ref (a1 0)), (2, .ref (a2 0)), (3, .ref o)] → mN σ ≤ mN σ' → cells' ≤ cells + 10 + (mN σ' - mN σ) → slots' ≤ slots + 18 * (10 + (mN σ' - mN σ)) → W p l e room_1 s m args below meth c H' [] cells' slots' Q (F0 m 1161 ls' [])) : W p l e room_1 s m args below meth c H [] cells slots Q (F0 m 906 ls []) := by
  have hx := C.1.1
  have hb := C.1.2.1
  obtain ⟨hR1, hR2, hn21, hn221, hn26⟩ := hRel σ μ hr
  obtain ⟨b, N, hb1, hb2, hb3, hw⟩ := hO σ μ hr (xs (i + 1)) (xs (i + 2)) (v 0)
  refine lv_aload_n hx hb dL_law_906 rfl (ml_at hl 2 rfl) ?_
  refine lv_aload_n hx hb dL_law_907 rfl (ml_at hl 1 rfl) ?_
  refine lv_iload hx hb dL_law_908 (ml_at hl 0 rfl) ?_
  refine lv_iconst (v := 1) hx hb dL_law_910 (by decide) ?_
  refine lv_iadd hx hb dL_law_911 ?_
  refine l_sld C hX hbl hB.1 (j := i + 1) (nI_add i 1) (by omega) (by omega) dL_law_912 ?_
  refine lv_aload_n hx hb dL_law_913 rfl (ml_at hl 1 rfl) ?_
  refine lv_iload hx hb dL_law_914 (ml_at hl 0 rfl) ?_
  refine lv_iconst (v := 2) hx hb dL_law_916 (by decide) ?_
  refine lv_iadd hx hb dL_law_917 ?_
  refine l_sld C hX hbl hB.1 (j := i + 2) (nI_add i 2) (by omega) (by omega) dL_law_918 ?_
  refine lv_aload_n hx hb dL_law_919 rfl (ml_at hl 4 rfl) ?_
  refine lw_callL (Is := [.int (xs (i + 1)), .int (xs (i + 2))]) (n := 4) (b := b) C Z hB hR1 (by omega) hl.1.1 cl_L_126 (fun ad => c_L_queuedAt l hfl G cL ad o (xs (i + 1)) (xs (i + 2)) σ v b (lQ_queuedAt Rel N μ (xs (i + 1)) (xs (i + 2))) hw) ⟨by decide, by decide, by decide +kernel⟩ rfl rfl ⟨Nat.le_of_ble_eq_true rfl, Nat.le_of_ble_eq_true rfl⟩ m_c0 (Nat.le_of_ble_eq_true rfl) dL_law_920 ⟨rmC (show cells + b ≤ 300000 by omega), rmS (show slots + 18 * b ≤ 5500000 by omega)⟩ (fun k x σ' v' H1 a1' hq hv' ha1 hB1 hmo => ?_) (fun k x σ' hq => Nat.le_trans hb2 hq.1)
  obtain ⟨hN, hq⟩ := hq
  refine mr_istore (lv' := [(5, .int k), (4, .int (nI i)), (0, .ref b0), (1, .ref (a1 0)), (2, .ref (a2 0)), (3, .ref o)]) C hl dL_law_923 (by decide) rfl (fun ls hl1 => ?_)
  refine lv_aload_n hx hb dL_law_925 rfl (ml_at hl1 4 rfl) ?_
  refine lv_aload_n hx hb dL_law_926 rfl (ml_at hl1 2 rfl) ?_
  refine lv_iload hx hb dL_law_927 (ml_at hl1 1 rfl) ?_
  refine lv_iconst (v := 1) hx hb dL_law_929 (by decide) ?_
  refine lv_iadd hx hb dL_law_930 ?_
  refine l_sld C hX hbl hB1.1 (j := i + 1) (nI_add i 1) (by omega) (by omega) dL_law_931 ?_
  refine lv_aload_n hx hb dL_law_932 rfl (ml_at hl1 2 rfl) ?_
  refine lv_iload hx hb dL_law_933 (ml_at hl1 1 rfl) ?_
  refine lv_iconst (v := 2) hx hb dL_law_935 (by decide) ?_
  refine lv_iadd hx hb dL_law_936 ?_
  refine l_sld C hX hbl hB1.1 (j := i + 2) (nI_add i 2) (by omega) (by omega) dL_law_937 ?_
  refine lw_callM (Is := [.int (xs (i + 1)), .int (xs (i + 2))]) (n := 2) C hB1 hR2 (by omega) hl1.1.1 cw_La_128 (fun ad => c_X3_queuedAt l G ad (xs (i + 1)) (xs (i + 2)) μ _ hq) ⟨rfl, by decide, by decide, by decide +kernel⟩ rfl rfl ⟨Nat.le_of_ble_eq_true rfl, Nat.le_of_ble_eq_true rfl⟩ m_c0 (Nat.le_of_ble_eq_true rfl) dL_law_938 ⟨rmC (show cells + b ≤ 300000 by omega), rmS (show slots + 18 * b ≤ 5500000 by omega)⟩ (fun r μ' h => ?_) (fun r2 μ' H2 a2' hq ha2 hB2 => ?_)
  · exact (hRel _ _ h.2.2).2.2.2.2.trans hn26.symm
  obtain ⟨hk, hx9, hr2⟩ := hq
  obtain ⟨hR1', hR2', hn21', hn221', hn26'⟩ := hRel σ' μ' hr2
  refine mr_istore (lv' := [(6, .int r2), (5, .int k), (4, .int (nI i)), (0, .ref b0), (1, .ref (a1 0)), (2, .ref (a2 0)), (3, .ref o)]) C hl1 dL_law_941 (by decide) rfl (fun ls hl2 => ?_)
  refine lv_aload_n hx hb dL_law_943 rfl (ml_at hl2 5 rfl) ?_
  rw [← ha2]
  refine lw_callM (Is := []) (n := 0) (Qi := fun r μ2 => r = mI μ' 0 0 ∧ μ2 = μ') C hB2 hR2' (by omega) hl2.1.1 cw_La_78 (fun ad => c_X3_thrown l G ad μ' _ ⟨rfl, rfl⟩) ⟨rfl, by decide, by decide, by decide +kernel⟩ rfl rfl ⟨Nat.le_of_ble_eq_true rfl, Nat.le_of_ble_eq_true rfl⟩ m_c0 (Nat.le_of_ble_eq_true rfl) dL_law_944 ⟨rmC (show cells + b ≤ 300000 by omega), rmS (show slots + 18 * b ≤ 5500000 by omega)⟩ (fun r μ2 h => by rw [h.2]) (fun r3 μ2 H3 a3 hq3 ha3 hB3 => ?_)
  obtain ⟨rfl, rfl⟩ := hq3
  refine lv_iload hx hb dL_law_947 (ml_at hl2 1 rfl) ?_
  refine lv_icmp_eq (tgt := 954) hx hb dL_law_949 (by decide) (fun _ => ?_) (fun hc => absurd hk hc)
  refine lv_iload hx hb dL_law_954 (ml_at hl2 1 rfl) ?_
  refine lv_if_ne (tgt := 971) hx hb dL_law_956 (by decide) (fun hc => ?_) (fun hc => ?_)
  · refine lv_goto (tgt := 1161) hx hb dL_law_971 (by decide) ?_
    exact kk σ' _ v' _ a1' a3 ls (cells + b) (slots + 18 * b) hr2 hB3 ha1 (ha3.trans ha2) (ml_sub hl2 [2, 3, 4, 5, 6] rfl) hmo (by omega) (by omega)
  · refine lv_aload_n hx hb dL_law_959 rfl (ml_at hl2 6 rfl) ?_
    refine lv_iconst (v := 0) hx hb dL_law_960 (by decide) ?_
    refine l_lald C Z hB3.2.2.2.1 dL_law_961 ?_
    refine lv_iload hx hb dL_law_962 (ml_at hl2 0 rfl) ?_
    refine lv_i2l (v := r2.toInt64) hx hb dL_law_964 rfl ?_
    refine W.lcmp hx hb dL_law_965 ?_
    refine lv_if_eq (tgt := 971) hx hb dL_law_966 (by decide) (fun _ => ?_) (fun h => absurd (l_cmp (hv'.trans (hx9 hc))) h)
    refine lv_goto (tgt := 1161) hx hb dL_law_971 (by decide) ?_
    exact kk σ' _ v' _ a1' a3 ls (cells + b) (slots + 18 * b) hr2 hB3 ha1 (ha3.trans ha2) (ml_sub hl2 [2, 3, 4, 5, 6] rfl) hmo (by omega) (by omega)
set_option maxRecDepth 100000 in
set_option maxHeartbeats 4000000 in
theorem lc_count {p : Program} {l : Launch} {e : Env} {s : State} {m : MethodId} {args : Array Value} {below : List Frame} {meth : Method} {c : Code} {H : Heap} {cells slots : Nat} {Q : State → Prop} {ls : Array Slot} {G : mG} {cL : ClassId} {a1 a2 : Nat → Nat} {σ μ : mS} {v : Nat → Int64} {b0 o i L : Nat} {xs : Nat → Int32} (Rel : mS → mS → Prop) (hRel : lRel Rel) (C : mX p s m c cL_law 7 args RL G) (hfl : l.stackTraces = false) (Z : lZ cL s) (hX : va_X b0 L xs s s.heap) (hbl : b0 < s.heap.size) (hL : L ≤ 2560) (hi : i + 5 ≤ L) (hB : lB G cL a1 a2 o s.heap σ μ v H) (hr : Rel σ μ) (hcs : cells ≤ 100000 ∧ slots ≤ 5000000) (hl : ml_has ls 7 [(4, .int (nI i)), (0, .ref b0), (1, .ref (a1 0)), (2, .ref (a2 0)), (3, .ref o)]) (hO : lO_count Rel) (kk : ∀ (σ' μ' : mS) (v' : Nat → Int64) (H' : Heap) (a1' a2' : Nat → Nat) (ls' : Array Slot) (cells' slots' : Nat), Rel σ' μ' → lB G cL a1' a2' o s.heap σ' μ' v' H' → a1' 0 = a1 0 → a2' 0 = a2 0 → ml_has ls' 7 [(4, .int (nI i)), (0, .ref b0), (1, .ref (a1 0)), (2, .ref (a2 0)), (3, .ref o)] → mN σ ≤ mN σ' → cells' ≤ cells + 10 + (mN σ' - mN σ) → slots' ≤ slots + 18 * (10 + (mN σ' - mN σ)) → W p l e room_1 s m args below meth c H' [] cells' slots' Q (F0 m 1161 ls' [])) : W p l e room_1 s m args below meth c H [] cells slots Q (F0 m 974 ls []) := by
  have hx := C.1.1
  have hb := C.1.2.1
  obtain ⟨hR1, hR2, hn21, hn221, hn26⟩ := hRel σ μ hr
  obtain ⟨b, N, hb1, hb2, hb3, hw⟩ := hO σ μ hr (xs (i + 1)) (xs (i + 2)) (v 0)
  refine lv_aload_n hx hb dL_law_974 rfl (ml_at hl 2 rfl) ?_
  refine lv_aload_n hx hb dL_law_975 rfl (ml_at hl 1 rfl) ?_
  refine lv_iload hx hb dL_law_976 (ml_at hl 0 rfl) ?_
  refine lv_iconst (v := 1) hx hb dL_law_978 (by decide) ?_
  refine lv_iadd hx hb dL_law_979 ?_
  refine l_sld C hX hbl hB.1 (j := i + 1) (nI_add i 1) (by omega) (by omega) dL_law_980 ?_
  refine lv_aload_n hx hb dL_law_981 rfl (ml_at hl 1 rfl) ?_
  refine lv_iload hx hb dL_law_982 (ml_at hl 0 rfl) ?_
  refine lv_iconst (v := 2) hx hb dL_law_984 (by decide) ?_
  refine lv_iadd hx hb dL_law_985 ?_
  refine l_sld C hX hbl hB.1 (j := i + 2) (nI_add i 2) (by omega) (by omega) dL_law_986 ?_
  refine lv_aload_n hx hb dL_law_987 rfl (ml_at hl 4 rfl) ?_
  refine lw_callL (Is := [.int (xs (i + 1)), .int (xs (i + 2))]) (n := 4) (b := b) C Z hB hR1 (by omega) hl.1.1 cl_L_129 (fun ad => c_L_count l hfl G cL ad o (xs (i + 1)) (xs (i + 2)) σ v b (lQ_count Rel N μ (xs (i + 1)) (xs (i + 2))) hw) ⟨by decide, by decide, by decide +kernel⟩ rfl rfl ⟨Nat.le_of_ble_eq_true rfl, Nat.le_of_ble_eq_true rfl⟩ m_c0 (Nat.le_of_ble_eq_true rfl) dL_law_988 ⟨rmC (show cells + b ≤ 300000 by omega), rmS (show slots + 18 * b ≤ 5500000 by omega)⟩ (fun k x σ' v' H1 a1' hq hv' ha1 hB1 hmo => ?_) (fun k x σ' hq => Nat.le_trans hb2 hq.1)
  obtain ⟨hN, hq⟩ := hq
  refine mr_istore (lv' := [(5, .int k), (4, .int (nI i)), (0, .ref b0), (1, .ref (a1 0)), (2, .ref (a2 0)), (3, .ref o)]) C hl dL_law_991 (by decide) rfl (fun ls hl1 => ?_)
  refine lv_aload_n hx hb dL_law_993 rfl (ml_at hl1 4 rfl) ?_
  refine lv_aload_n hx hb dL_law_994 rfl (ml_at hl1 2 rfl) ?_
  refine lv_iload hx hb dL_law_995 (ml_at hl1 1 rfl) ?_
  refine lv_iconst (v := 1) hx hb dL_law_997 (by decide) ?_
  refine lv_iadd hx hb dL_law_998 ?_
  refine l_sld C hX hbl hB1.1 (j := i + 1) (nI_add i 1) (by omega) (by omega) dL_law_999 ?_
  refine lv_aload_n hx hb dL_law_1000 rfl (ml_at hl1 2 rfl) ?_
  refine lv_iload hx hb dL_law_1001 (ml_at hl1 1 rfl) ?_
  refine lv_iconst (v := 2) hx hb dL_law_1003 (by decide) ?_
  refine lv_iadd hx hb dL_law_1004 ?_
  refine l_sld C hX hbl hB1.1 (j := i + 2) (nI_add i 2) (by omega) (by omega) dL_law_1005 ?_
  refine lw_callM (Is := [.int (xs (i + 1)), .int (xs (i + 2))]) (n := 2) C hB1 hR2 (by omega) hl1.1.1 cw_La_131 (fun ad => c_X3_count l G ad (xs (i + 1)) (xs (i + 2)) μ _ hq) ⟨rfl, by decide, by decide, by decide +kernel⟩ rfl rfl ⟨Nat.le_of_ble_eq_true rfl, Nat.le_of_ble_eq_true rfl⟩ m_c0 (Nat.le_of_ble_eq_true rfl) dL_law_1006 ⟨rmC (show cells + b ≤ 300000 by omega), rmS (show slots + 18 * b ≤ 5500000 by omega)⟩ (fun r μ' h => ?_) (fun r2 μ' H2 a2' hq ha2 hB2 => ?_)
  · exact (hRel _ _ h.2.2).2.2.2.2.trans hn26.symm
  obtain ⟨hk, hx9, hr2⟩ := hq
  obtain ⟨hR1', hR2', hn21', hn221', hn26'⟩ := hRel σ' μ' hr2
  refine mr_istore (lv' := [(6, .int r2), (5, .int k), (4, .int (nI i)), (0, .ref b0), (1, .ref (a1 0)), (2, .ref (a2 0)), (3, .ref o)]) C hl1 dL_law_1009 (by decide) rfl (fun ls hl2 => ?_)
  refine lv_aload_n hx hb dL_law_1011 rfl (ml_at hl2 5 rfl) ?_
  rw [← ha2]
  refine lw_callM (Is := []) (n := 0) (Qi := fun r μ2 => r = mI μ' 0 0 ∧ μ2 = μ') C hB2 hR2' (by omega) hl2.1.1 cw_La_78 (fun ad => c_X3_thrown l G ad μ' _ ⟨rfl, rfl⟩) ⟨rfl, by decide, by decide, by decide +kernel⟩ rfl rfl ⟨Nat.le_of_ble_eq_true rfl, Nat.le_of_ble_eq_true rfl⟩ m_c0 (Nat.le_of_ble_eq_true rfl) dL_law_1012 ⟨rmC (show cells + b ≤ 300000 by omega), rmS (show slots + 18 * b ≤ 5500000 by omega)⟩ (fun r μ2 h => by rw [h.2]) (fun r3 μ2 H3 a3 hq3 ha3 hB3 => ?_)
  obtain ⟨rfl, rfl⟩ := hq3
  refine lv_iload hx hb dL_law_1015 (ml_at hl2 1 rfl) ?_
  refine lv_icmp_eq (tgt := 1022) hx hb dL_law_1017 (by decide) (fun _ => ?_) (fun hc => absurd hk hc)
  refine lv_iload hx hb dL_law_1022 (ml_at hl2 1 rfl) ?_
  refine lv_if_ne (tgt := 1039) hx hb dL_law_1024 (by decide) (fun hc => ?_) (fun hc => ?_)
  · refine lv_goto (tgt := 1161) hx hb dL_law_1039 (by decide) ?_
    exact kk σ' _ v' _ a1' a3 ls (cells + b) (slots + 18 * b) hr2 hB3 ha1 (ha3.trans ha2) (ml_sub hl2 [2, 3, 4, 5, 6] rfl) hmo (by omega) (by omega)
  · refine lv_aload_n hx hb dL_law_1027 rfl (ml_at hl2 6 rfl) ?_
    refine lv_iconst (v := 0) hx hb dL_law_1028 (by decide) ?_
    refine l_lald C Z hB3.2.2.2.1 dL_law_1029 ?_
    refine lv_iload hx hb dL_law_1030 (ml_at hl2 0 rfl) ?_
    refine lv_i2l (v := r2.toInt64) hx hb dL_law_1032 rfl ?_
    refine W.lcmp hx hb dL_law_1033 ?_
    refine lv_if_eq (tgt := 1039) hx hb dL_law_1034 (by decide) (fun _ => ?_) (fun h => absurd (l_cmp (hv'.trans (hx9 hc))) h)
    refine lv_goto (tgt := 1161) hx hb dL_law_1039 (by decide) ?_
    exact kk σ' _ v' _ a1' a3 ls (cells + b) (slots + 18 * b) hr2 hB3 ha1 (ha3.trans ha2) (ml_sub hl2 [2, 3, 4, 5, 6] rfl) hmo (by omega) (by omega)
set_option maxRecDepth 100000 in
set_option maxHeartbeats 4000000 in
theorem lc_tokens {p : Program} {l : Launch} {e : Env} {s : State} {m : MethodId} {args : Array Value} {below : List Frame} {meth : Method} {c : Code} {H : Heap} {cells slots : Nat} {Q : State → Prop} {ls : Array Slot} {G : mG} {cL : ClassId} {a1 a2 : Nat → Nat} {σ μ : mS} {v : Nat → Int64} {b0 o i L : Nat} {xs : Nat → Int32} (Rel : mS → mS → Prop) (hRel : lRel Rel) (C : mX p s m c cL_law 7 args RL G) (hfl : l.stackTraces = false) (Z : lZ cL s) (hX : va_X b0 L xs s s.heap) (hbl : b0 < s.heap.size) (hL : L ≤ 2560) (hi : i + 5 ≤ L) (hB : lB G cL a1 a2 o s.heap σ μ v H) (hr : Rel σ μ) (hcs : cells ≤ 100000 ∧ slots ≤ 5000000) (hl : ml_has ls 7 [(4, .int (nI i)), (0, .ref b0), (1, .ref (a1 0)), (2, .ref (a2 0)), (3, .ref o)]) (hO : lO_tokens Rel) (kk : ∀ (σ' μ' : mS) (v' : Nat → Int64) (H' : Heap) (a1' a2' : Nat → Nat) (ls' : Array Slot) (cells' slots' : Nat), Rel σ' μ' → lB G cL a1' a2' o s.heap σ' μ' v' H' → a1' 0 = a1 0 → a2' 0 = a2 0 → ml_has ls' 7 [(4, .int (nI i)), (0, .ref b0), (1, .ref (a1 0)), (2, .ref (a2 0)), (3, .ref o)] → mN σ ≤ mN σ' → cells' ≤ cells + 10 + (mN σ' - mN σ) → slots' ≤ slots + 18 * (10 + (mN σ' - mN σ)) → W p l e room_1 s m args below meth c H' [] cells' slots' Q (F0 m 1161 ls' [])) : W p l e room_1 s m args below meth c H [] cells slots Q (F0 m 1042 ls []) := by
  have hx := C.1.1
  have hb := C.1.2.1
  obtain ⟨hR1, hR2, hn21, hn221, hn26⟩ := hRel σ μ hr
  obtain ⟨b, N, hb1, hb2, hb3, hw⟩ := hO σ μ hr (xs (i + 1)) (v 0)
  refine lv_aload_n hx hb dL_law_1042 rfl (ml_at hl 2 rfl) ?_
  refine lv_aload_n hx hb dL_law_1043 rfl (ml_at hl 1 rfl) ?_
  refine lv_iload hx hb dL_law_1044 (ml_at hl 0 rfl) ?_
  refine lv_iconst (v := 1) hx hb dL_law_1046 (by decide) ?_
  refine lv_iadd hx hb dL_law_1047 ?_
  refine l_sld C hX hbl hB.1 (j := i + 1) (nI_add i 1) (by omega) (by omega) dL_law_1048 ?_
  refine lv_aload_n hx hb dL_law_1049 rfl (ml_at hl 4 rfl) ?_
  refine lw_callL (Is := [.int (xs (i + 1))]) (n := 3) (b := b) C Z hB hR1 (by omega) hl.1.1 cl_L_132 (fun ad => c_L_tokens l hfl G cL ad o (xs (i + 1)) σ v b (lQ_tokens Rel N μ (xs (i + 1))) hw) ⟨by decide, by decide, by decide +kernel⟩ rfl rfl ⟨Nat.le_of_ble_eq_true rfl, Nat.le_of_ble_eq_true rfl⟩ m_c0 (Nat.le_of_ble_eq_true rfl) dL_law_1050 ⟨rmC (show cells + b ≤ 300000 by omega), rmS (show slots + 18 * b ≤ 5500000 by omega)⟩ (fun k x σ' v' H1 a1' hq hv' ha1 hB1 hmo => ?_) (fun k x σ' hq => Nat.le_trans hb2 hq.1)
  obtain ⟨hN, hq⟩ := hq
  refine mr_istore (lv' := [(5, .int k), (4, .int (nI i)), (0, .ref b0), (1, .ref (a1 0)), (2, .ref (a2 0)), (3, .ref o)]) C hl dL_law_1053 (by decide) rfl (fun ls hl1 => ?_)
  refine lv_aload_n hx hb dL_law_1055 rfl (ml_at hl1 4 rfl) ?_
  refine lv_aload_n hx hb dL_law_1056 rfl (ml_at hl1 2 rfl) ?_
  refine lv_iload hx hb dL_law_1057 (ml_at hl1 1 rfl) ?_
  refine lv_iconst (v := 1) hx hb dL_law_1059 (by decide) ?_
  refine lv_iadd hx hb dL_law_1060 ?_
  refine l_sld C hX hbl hB1.1 (j := i + 1) (nI_add i 1) (by omega) (by omega) dL_law_1061 ?_
  refine lw_callM (Is := [.int (xs (i + 1))]) (n := 1) C hB1 hR2 (by omega) hl1.1.1 cw_La_134 (fun ad => c_X3_tokens l G ad (xs (i + 1)) μ _ hq) ⟨rfl, by decide, by decide, by decide +kernel⟩ rfl rfl ⟨Nat.le_of_ble_eq_true rfl, Nat.le_of_ble_eq_true rfl⟩ m_c0 (Nat.le_of_ble_eq_true rfl) dL_law_1062 ⟨rmC (show cells + b ≤ 300000 by omega), rmS (show slots + 18 * b ≤ 5500000 by omega)⟩ (fun r μ' h => ?_) (fun r2 μ' H2 a2' hq ha2 hB2 => ?_)
  · exact (hRel _ _ h.2.2).2.2.2.2.trans hn26.symm
  obtain ⟨hk, hx9, hr2⟩ := hq
  obtain ⟨hR1', hR2', hn21', hn221', hn26'⟩ := hRel σ' μ' hr2
  refine mr_istore (lv' := [(6, .int r2), (5, .int k), (4, .int (nI i)), (0, .ref b0), (1, .ref (a1 0)), (2, .ref (a2 0)), (3, .ref o)]) C hl1 dL_law_1065 (by decide) rfl (fun ls hl2 => ?_)
  refine lv_aload_n hx hb dL_law_1067 rfl (ml_at hl2 5 rfl) ?_
  rw [← ha2]
  refine lw_callM (Is := []) (n := 0) (Qi := fun r μ2 => r = mI μ' 0 0 ∧ μ2 = μ') C hB2 hR2' (by omega) hl2.1.1 cw_La_78 (fun ad => c_X3_thrown l G ad μ' _ ⟨rfl, rfl⟩) ⟨rfl, by decide, by decide, by decide +kernel⟩ rfl rfl ⟨Nat.le_of_ble_eq_true rfl, Nat.le_of_ble_eq_true rfl⟩ m_c0 (Nat.le_of_ble_eq_true rfl) dL_law_1068 ⟨rmC (show cells + b ≤ 300000 by omega), rmS (show slots + 18 * b ≤ 5500000 by omega)⟩ (fun r μ2 h => by rw [h.2]) (fun r3 μ2 H3 a3 hq3 ha3 hB3 => ?_)
  obtain ⟨rfl, rfl⟩ := hq3
  refine lv_iload hx hb dL_law_1071 (ml_at hl2 1 rfl) ?_
  refine lv_icmp_eq (tgt := 1078) hx hb dL_law_1073 (by decide) (fun _ => ?_) (fun hc => absurd hk hc)
  refine lv_iload hx hb dL_law_1078 (ml_at hl2 1 rfl) ?_
  refine lv_if_ne (tgt := 1095) hx hb dL_law_1080 (by decide) (fun hc => ?_) (fun hc => ?_)
  · refine lv_goto (tgt := 1161) hx hb dL_law_1095 (by decide) ?_
    exact kk σ' _ v' _ a1' a3 ls (cells + b) (slots + 18 * b) hr2 hB3 ha1 (ha3.trans ha2) (ml_sub hl2 [2, 3, 4, 5, 6] rfl) hmo (by omega) (by omega)
  · refine lv_aload_n hx hb dL_law_1083 rfl (ml_at hl2 6 rfl) ?_
    refine lv_iconst (v := 0) hx hb dL_law_1084 (by decide) ?_
    refine l_lald C Z hB3.2.2.2.1 dL_law_1085 ?_
    refine lv_iload hx hb dL_law_1086 (ml_at hl2 0 rfl) ?_
    refine lv_i2l (v := r2.toInt64) hx hb dL_law_1088 rfl ?_
    refine W.lcmp hx hb dL_law_1089 ?_
    refine lv_if_eq (tgt := 1095) hx hb dL_law_1090 (by decide) (fun _ => ?_) (fun h => absurd (l_cmp (hv'.trans (hx9 hc))) h)
    refine lv_goto (tgt := 1161) hx hb dL_law_1095 (by decide) ?_
    exact kk σ' _ v' _ a1' a3 ls (cells + b) (slots + 18 * b) hr2 hB3 ha1 (ha3.trans ha2) (ml_sub hl2 [2, 3, 4, 5, 6] rfl) hmo (by omega) (by omega)
set_option maxRecDepth 100000 in
set_option maxHeartbeats 4000000 in
theorem lc_isOpen {p : Program} {l : Launch} {e : Env} {s : State} {m : MethodId} {args : Array Value} {below : List Frame} {meth : Method} {c : Code} {H : Heap} {cells slots : Nat} {Q : State → Prop} {ls : Array Slot} {G : mG} {cL : ClassId} {a1 a2 : Nat → Nat} {σ μ : mS} {v : Nat → Int64} {b0 o i L : Nat} {xs : Nat → Int32} (Rel : mS → mS → Prop) (hRel : lRel Rel) (C : mX p s m c cL_law 7 args RL G) (hfl : l.stackTraces = false) (Z : lZ cL s) (hX : va_X b0 L xs s s.heap) (hbl : b0 < s.heap.size) (hL : L ≤ 2560) (hi : i + 5 ≤ L) (hB : lB G cL a1 a2 o s.heap σ μ v H) (hr : Rel σ μ) (hcs : cells ≤ 100000 ∧ slots ≤ 5000000) (hl : ml_has ls 7 [(4, .int (nI i)), (0, .ref b0), (1, .ref (a1 0)), (2, .ref (a2 0)), (3, .ref o)]) (hO : lO_isOpen Rel) (kk : ∀ (σ' μ' : mS) (v' : Nat → Int64) (H' : Heap) (a1' a2' : Nat → Nat) (ls' : Array Slot) (cells' slots' : Nat), Rel σ' μ' → lB G cL a1' a2' o s.heap σ' μ' v' H' → a1' 0 = a1 0 → a2' 0 = a2 0 → ml_has ls' 7 [(4, .int (nI i)), (0, .ref b0), (1, .ref (a1 0)), (2, .ref (a2 0)), (3, .ref o)] → mN σ ≤ mN σ' → cells' ≤ cells + 10 + (mN σ' - mN σ) → slots' ≤ slots + 18 * (10 + (mN σ' - mN σ)) → W p l e room_1 s m args below meth c H' [] cells' slots' Q (F0 m 1161 ls' [])) : W p l e room_1 s m args below meth c H [] cells slots Q (F0 m 1098 ls []) := by
  have hx := C.1.1
  have hb := C.1.2.1
  obtain ⟨hR1, hR2, hn21, hn221, hn26⟩ := hRel σ μ hr
  obtain ⟨b, N, hb1, hb2, hb3, hw⟩ := hO σ μ hr (xs (i + 1)) (v 0)
  refine lv_aload_n hx hb dL_law_1098 rfl (ml_at hl 2 rfl) ?_
  refine lv_aload_n hx hb dL_law_1099 rfl (ml_at hl 1 rfl) ?_
  refine lv_iload hx hb dL_law_1100 (ml_at hl 0 rfl) ?_
  refine lv_iconst (v := 1) hx hb dL_law_1102 (by decide) ?_
  refine lv_iadd hx hb dL_law_1103 ?_
  refine l_sld C hX hbl hB.1 (j := i + 1) (nI_add i 1) (by omega) (by omega) dL_law_1104 ?_
  refine lv_aload_n hx hb dL_law_1105 rfl (ml_at hl 4 rfl) ?_
  refine lw_callL (Is := [.int (xs (i + 1))]) (n := 3) (b := b) C Z hB hR1 (by omega) hl.1.1 cl_L_135 (fun ad => c_L_isOpen l hfl G cL ad o (xs (i + 1)) σ v b (lQ_isOpen Rel N μ (xs (i + 1))) hw) ⟨by decide, by decide, by decide +kernel⟩ rfl rfl ⟨Nat.le_of_ble_eq_true rfl, Nat.le_of_ble_eq_true rfl⟩ m_c0 (Nat.le_of_ble_eq_true rfl) dL_law_1106 ⟨rmC (show cells + b ≤ 300000 by omega), rmS (show slots + 18 * b ≤ 5500000 by omega)⟩ (fun k x σ' v' H1 a1' hq hv' ha1 hB1 hmo => ?_) (fun k x σ' hq => Nat.le_trans hb2 hq.1)
  obtain ⟨hN, hq⟩ := hq
  refine mr_istore (lv' := [(5, .int k), (4, .int (nI i)), (0, .ref b0), (1, .ref (a1 0)), (2, .ref (a2 0)), (3, .ref o)]) C hl dL_law_1109 (by decide) rfl (fun ls hl1 => ?_)
  refine lv_aload_n hx hb dL_law_1111 rfl (ml_at hl1 4 rfl) ?_
  refine lv_aload_n hx hb dL_law_1112 rfl (ml_at hl1 2 rfl) ?_
  refine lv_iload hx hb dL_law_1113 (ml_at hl1 1 rfl) ?_
  refine lv_iconst (v := 1) hx hb dL_law_1115 (by decide) ?_
  refine lv_iadd hx hb dL_law_1116 ?_
  refine l_sld C hX hbl hB1.1 (j := i + 1) (nI_add i 1) (by omega) (by omega) dL_law_1117 ?_
  refine lw_callM (Is := [.int (xs (i + 1))]) (n := 1) C hB1 hR2 (by omega) hl1.1.1 cw_La_137 (fun ad => c_X3_isOpen l G ad (xs (i + 1)) μ _ hq) ⟨rfl, by decide, by decide, by decide +kernel⟩ rfl rfl ⟨Nat.le_of_ble_eq_true rfl, Nat.le_of_ble_eq_true rfl⟩ m_c0 (Nat.le_of_ble_eq_true rfl) dL_law_1118 ⟨rmC (show cells + b ≤ 300000 by omega), rmS (show slots + 18 * b ≤ 5500000 by omega)⟩ (fun r μ' h => ?_) (fun r2 μ' H2 a2' hq ha2 hB2 => ?_)
  · exact (hRel _ _ h.1.2.2).2.2.2.2.trans hn26.symm
  obtain ⟨hq, hz⟩ := hq
  obtain ⟨hk, hx9, hr2⟩ := hq
  obtain ⟨hR1', hR2', hn21', hn221', hn26'⟩ := hRel σ' μ' hr2
  refine mr_istore (lv' := [(6, .int r2), (5, .int k), (4, .int (nI i)), (0, .ref b0), (1, .ref (a1 0)), (2, .ref (a2 0)), (3, .ref o)]) C hl1 dL_law_1121 (by decide) rfl (fun ls hl2 => ?_)
  refine lv_aload_n hx hb dL_law_1123 rfl (ml_at hl2 5 rfl) ?_
  rw [← ha2]
  refine lw_callM (Is := []) (n := 0) (Qi := fun r μ2 => r = mI μ' 0 0 ∧ μ2 = μ') C hB2 hR2' (by omega) hl2.1.1 cw_La_78 (fun ad => c_X3_thrown l G ad μ' _ ⟨rfl, rfl⟩) ⟨rfl, by decide, by decide, by decide +kernel⟩ rfl rfl ⟨Nat.le_of_ble_eq_true rfl, Nat.le_of_ble_eq_true rfl⟩ m_c0 (Nat.le_of_ble_eq_true rfl) dL_law_1124 ⟨rmC (show cells + b ≤ 300000 by omega), rmS (show slots + 18 * b ≤ 5500000 by omega)⟩ (fun r μ2 h => by rw [h.2]) (fun r3 μ2 H3 a3 hq3 ha3 hB3 => ?_)
  obtain ⟨rfl, rfl⟩ := hq3
  refine lv_iload hx hb dL_law_1127 (ml_at hl2 1 rfl) ?_
  refine lv_icmp_eq (tgt := 1134) hx hb dL_law_1129 (by decide) (fun _ => ?_) (fun hc => absurd hk hc)
  refine lv_iload hx hb dL_law_1134 (ml_at hl2 1 rfl) ?_
  refine lv_if_ne (tgt := 1158) hx hb dL_law_1136 (by decide) (fun hc => ?_) (fun hc => ?_)
  · refine lv_goto (tgt := 1161) hx hb dL_law_1158 (by decide) ?_
    exact kk σ' _ v' _ a1' a3 ls (cells + b) (slots + 18 * b) hr2 hB3 ha1 (ha3.trans ha2) (ml_sub hl2 [2, 3, 4, 5, 6] rfl) hmo (by omega) (by omega)
  · refine lv_aload_n hx hb dL_law_1139 rfl (ml_at hl2 6 rfl) ?_
    refine lv_iconst (v := 0) hx hb dL_law_1140 (by decide) ?_
    refine l_lald C Z hB3.2.2.2.1 dL_law_1141 ?_
    refine lv_iload hx hb dL_law_1142 (ml_at hl2 0 rfl) ?_
    replace hx9 := hv'.trans (hx9 hc)
    refine lv_if_eq (tgt := 1151) hx hb dL_law_1144 (by decide) (fun hz0 => ?_) (fun hz0 => ?_)
    · rw [if_pos hz0] at hx9
      refine lv_lconst (v := 0) hx hb dL_law_1151 rfl ?_
      refine W.lcmp hx hb dL_law_1152 ?_
      refine lv_if_eq (tgt := 1158) hx hb dL_law_1153 (by decide) (fun _ => ?_) (fun h => absurd (l_cmp hx9) h)
      refine lv_goto (tgt := 1161) hx hb dL_law_1158 (by decide) ?_
      exact kk σ' _ v' _ a1' a3 ls (cells + b) (slots + 18 * b) hr2 hB3 ha1 (ha3.trans ha2) (ml_sub hl2 [2, 3, 4, 5, 6] rfl) hmo (by omega) (by omega)
    · rw [if_neg hz0] at hx9
      refine lv_lconst (v := 1) hx hb dL_law_1147 rfl ?_
      refine lv_goto (tgt := 1152) hx hb dL_law_1148 (by decide) ?_
      refine W.lcmp hx hb dL_law_1152 ?_
      refine lv_if_eq (tgt := 1158) hx hb dL_law_1153 (by decide) (fun _ => ?_) (fun h => absurd (l_cmp hx9) h)
      refine lv_goto (tgt := 1161) hx hb dL_law_1158 (by decide) ?_
      exact kk σ' _ v' _ a1' a3 ls (cells + b) (slots + 18 * b) hr2 hB3 ha1 (ha3.trans ha2) (ml_sub hl2 [2, 3, 4, 5, 6] rfl) hmo (by omega) (by omega)
set_option maxRecDepth 100000 in
set_option maxHeartbeats 4000000 in
theorem lc_time {p : Program} {l : Launch} {e : Env} {s : State} {m : MethodId} {args : Array Value} {below : List Frame} {meth : Method} {c : Code} {H : Heap} {cells slots : Nat} {Q : State → Prop} {ls : Array Slot} {G : mG} {cL : ClassId} {a1 a2 : Nat → Nat} {σ μ : mS} {v : Nat → Int64} {b0 o i L : Nat} {xs : Nat → Int32} (Rel : mS → mS → Prop) (hRel : lRel Rel) (C : mX p s m c cL_law 7 args RL G) (hfl : l.stackTraces = false) (Z : lZ cL s) (hX : va_X b0 L xs s s.heap) (hbl : b0 < s.heap.size) (hL : L ≤ 2560) (hi : i + 5 ≤ L) (hB : lB G cL a1 a2 o s.heap σ μ v H) (hr : Rel σ μ) (hcs : cells ≤ 100000 ∧ slots ≤ 5000000) (hl : ml_has ls 7 [(4, .int (nI i)), (0, .ref b0), (1, .ref (a1 0)), (2, .ref (a2 0)), (3, .ref o)]) (hO : lO_time Rel) (kk : ∀ (σ' μ' : mS) (v' : Nat → Int64) (H' : Heap) (a1' a2' : Nat → Nat) (ls' : Array Slot) (cells' slots' : Nat), Rel σ' μ' → lB G cL a1' a2' o s.heap σ' μ' v' H' → a1' 0 = a1 0 → a2' 0 = a2 0 → ml_has ls' 7 [(4, .int (nI i)), (0, .ref b0), (1, .ref (a1 0)), (2, .ref (a2 0)), (3, .ref o)] → mN σ ≤ mN σ' → cells' ≤ cells + 10 + (mN σ' - mN σ) → slots' ≤ slots + 18 * (10 + (mN σ' - mN σ)) → W p l e room_1 s m args below meth c H' [] cells' slots' Q (F0 m 1161 ls' [])) : W p l e room_1 s m args below meth c H [] cells slots Q (F0 m 544 ls []) := by
  have hx := C.1.1
  have hb := C.1.2.1
  obtain ⟨hR1, hR2, hn21, hn221, hn26⟩ := hRel σ μ hr
  refine lv_aload_n hx hb dL_law_544 rfl (ml_at hl 2 rfl) ?_
  refine lw_callC (Is := []) (n := 0) C hB hR1 (by omega) hl.1.1 cw_La_100 (fun ad => c_X2_time l G ad σ _ (hO σ μ hr)) ⟨rfl, by decide, by decide, by decide +kernel⟩ rfl rfl ⟨Nat.le_of_ble_eq_true rfl, Nat.le_of_ble_eq_true rfl⟩ m_c0 (Nat.le_of_ble_eq_true rfl) dL_law_545 ⟨rmC (show cells ≤ 300000 by omega), rmS (show slots ≤ 5500000 by omega)⟩ (fun r σ' H1 a1' hq ha1 hB1 => ?_)
  obtain ⟨rfl, hq⟩ := hq
  refine lv_aload_n hx hb dL_law_548 rfl (ml_at hl 3 rfl) ?_
  refine lw_callM (Is := []) (n := 0) (rest := [.int r]) C hB1 hR2 (by omega) hl.1.1 cw_La_103 (fun ad => c_X3_time l G ad μ _ hq) ⟨rfl, by decide, by decide, by decide +kernel⟩ rfl rfl ⟨Nat.le_of_ble_eq_true rfl, Nat.le_of_ble_eq_true rfl⟩ (m_cI m_c0) (Nat.le_of_ble_eq_true rfl) dL_law_549 ⟨rmC (show cells ≤ 300000 by omega), rmS (show slots ≤ 5500000 by omega)⟩ (fun r μ' h => (hRel _ _ h.2).2.2.2.2.trans hn26.symm) (fun r2 μ' H2 a2' hq ha2 hB2 => ?_)
  obtain ⟨hk, hr2⟩ := hq
  refine lv_icmp_eq (tgt := 1161) hx hb dL_law_552 (by decide) (fun _ => ?_) (fun hc => absurd hk hc)
  exact kk _ _ v _ a1' a2' ls cells slots hr2 hB2 ha1 ha2 hl (Nat.le_refl _) (by omega) (by omega)
set_option maxRecDepth 100000 in
set_option maxHeartbeats 4000000 in
theorem lc_calls {p : Program} {l : Launch} {e : Env} {s : State} {m : MethodId} {args : Array Value} {below : List Frame} {meth : Method} {c : Code} {H : Heap} {cells slots : Nat} {Q : State → Prop} {ls : Array Slot} {G : mG} {cL : ClassId} {a1 a2 : Nat → Nat} {σ μ : mS} {v : Nat → Int64} {b0 o i L : Nat} {xs : Nat → Int32} (Rel : mS → mS → Prop) (hRel : lRel Rel) (C : mX p s m c cL_law 7 args RL G) (hfl : l.stackTraces = false) (Z : lZ cL s) (hX : va_X b0 L xs s s.heap) (hbl : b0 < s.heap.size) (hL : L ≤ 2560) (hi : i + 5 ≤ L) (hB : lB G cL a1 a2 o s.heap σ μ v H) (hr : Rel σ μ) (hcs : cells ≤ 100000 ∧ slots ≤ 5000000) (hl : ml_has ls 7 [(4, .int (nI i)), (0, .ref b0), (1, .ref (a1 0)), (2, .ref (a2 0)), (3, .ref o)]) (hO : lO_calls Rel) (kk : ∀ (σ' μ' : mS) (v' : Nat → Int64) (H' : Heap) (a1' a2' : Nat → Nat) (ls' : Array Slot) (cells' slots' : Nat), Rel σ' μ' → lB G cL a1' a2' o s.heap σ' μ' v' H' → a1' 0 = a1 0 → a2' 0 = a2 0 → ml_has ls' 7 [(4, .int (nI i)), (0, .ref b0), (1, .ref (a1 0)), (2, .ref (a2 0)), (3, .ref o)] → mN σ ≤ mN σ' → cells' ≤ cells + 10 + (mN σ' - mN σ) → slots' ≤ slots + 18 * (10 + (mN σ' - mN σ)) → W p l e room_1 s m args below meth c H' [] cells' slots' Q (F0 m 1161 ls' [])) : W p l e room_1 s m args below meth c H [] cells slots Q (F0 m 557 ls []) := by
  have hx := C.1.1
  have hb := C.1.2.1
  obtain ⟨hR1, hR2, hn21, hn221, hn26⟩ := hRel σ μ hr
  refine lv_aload_n hx hb dL_law_557 rfl (ml_at hl 2 rfl) ?_
  refine lw_callC (Is := []) (n := 0) C hB hR1 (by omega) hl.1.1 cw_La_104 (fun ad => c_X2_calls l G ad σ _ (hO σ μ hr)) ⟨rfl, by decide, by decide, by decide +kernel⟩ rfl rfl ⟨Nat.le_of_ble_eq_true rfl, Nat.le_of_ble_eq_true rfl⟩ m_c0 (Nat.le_of_ble_eq_true rfl) dL_law_558 ⟨rmC (show cells ≤ 300000 by omega), rmS (show slots ≤ 5500000 by omega)⟩ (fun r σ' H1 a1' hq ha1 hB1 => ?_)
  obtain ⟨rfl, hq⟩ := hq
  refine lv_aload_n hx hb dL_law_561 rfl (ml_at hl 3 rfl) ?_
  refine lw_callM (Is := []) (n := 0) (rest := [.int r]) C hB1 hR2 (by omega) hl.1.1 cw_La_107 (fun ad => c_X3_calls l G ad μ _ hq) ⟨rfl, by decide, by decide, by decide +kernel⟩ rfl rfl ⟨Nat.le_of_ble_eq_true rfl, Nat.le_of_ble_eq_true rfl⟩ (m_cI m_c0) (Nat.le_of_ble_eq_true rfl) dL_law_562 ⟨rmC (show cells ≤ 300000 by omega), rmS (show slots ≤ 5500000 by omega)⟩ (fun r μ' h => (hRel _ _ h.2).2.2.2.2.trans hn26.symm) (fun r2 μ' H2 a2' hq ha2 hB2 => ?_)
  obtain ⟨hk, hr2⟩ := hq
  refine lv_icmp_eq (tgt := 1161) hx hb dL_law_565 (by decide) (fun _ => ?_) (fun hc => absurd hk hc)
  exact kk _ _ v _ a1' a2' ls cells slots hr2 hB2 ha1 ha2 hl (Nat.le_refl _) (by omega) (by omega)
