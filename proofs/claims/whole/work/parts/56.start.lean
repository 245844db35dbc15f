/-! the law's beginning: two worlds made, a row of one long, and the loop -/
section LS
variable {p : Program} {l : Launch} {e : Env} {R : Room} {s : State} {m : MethodId} {args : Array Value} {below : List Frame} {meth : Method} {c : Code} {H : Heap} {cells slots mc ms : Nat} {Q : State → Prop}
variable {cc bytes : ByteArray} {pc nL maxL : Nat} {ls : Array Slot} {rest : List Value} {own : String} {G : mG} {kd1 kd2 : Nat → Nat × Nat} {σ1 : mS} {rm : Room} {y : MethodName}
theorem lw_mk (C : mX p s m c cc nL args own G) (hO0 : va_AO RX0 s) (hO1 : va_AO RX1 s) (hls : ls.size = nL) (hB0 : s.heap.size ≤ H.size ∧ ∀ q : Nat, q < s.heap.size → H[q]? = s.heap[q]?)
    {ci : Nat} {C0 : String} {T : u_T} {N : Nat} (hc : vwCl[ci]? = some (C0, T, N)) (hin : ∀ w ∈ u_ws C0 T N, w ∈ wsL_law) (ty0 : Nat → FieldType) (hty : ∀ k, k < N → parseFieldDescriptor (T k).2.2.1 = some (ty0 k)) (hNf : N = mNf ci) {index ix2 : Nat} (hcl : Cond.classLink own index C0 ∈ wsL_law) (hins : Cond.instantiable C0 N ∈ wsL_law) (hini : Cond.initialized C0 ∈ wsL_law)
    (hkn : kd1 0 = (0, ci)) (h5 : ¬ (kd1 0).2 ≤ 3) (hdef : ∀ k, k < N → ((mFk ci k).1 = 0 ∧ defaultValue (ty0 k) = .int 0) ∨ ((mFk ci k).1 = 1 ∧ defaultValue (ty0 k) = .null)) (hcells : cells + 1 + mc ≤ R.cells) (hslots : slots + N + ms ≤ R.slots)
    (hrc : rm.cells = mc) (hrs : rm.slots = ms) (hm : ∀ ad : Nat → Nat, Met l y (mWs y bytes maxL none) rm (va_Pc [mV ad (some 0)] (mPreC G kd1 ad mS1)) (va_Qv (fun u => u = σ1) (mPost G kd2 ad) (mA ad)) mc ms (mA ad)) (h1 : Cond.methodLink own ix2 y ∈ wsL_law) (h2 : Cond.instanceMethod y ∈ wsL_law) (h3 : Cond.initialized y.cls ∈ wsL_law) (h4 : Cond.code y bytes maxL none ∈ wsL_law) (hy1 : y.name = "<init>")
    (hd : y.cls ≠ "java/lang/invoke/MethodHandle" ∧ y.cls ≠ "java/lang/invoke/VarHandle" ∧ (parseMethodDescriptor y.desc).map (fun d => d.parameters.length) = some 0) (hRm : rm.frames + 1 ≤ R.frames ∧ 8 + (maxL + 11) + rm.locals ≤ R.locals) (hw : ∀ v ∈ rest, v.category = 1) (hw8 : rest.length ≤ 7)
    (d0 : decode cc pc = .ok (.new index, 3)) (d3 : decode cc (pc + 3) = .ok (.dup, 1)) (d4 : decode cc (pc + 4) = .ok (.invokespecial ix2, 3))
    (kk : ∀ (H1 : Heap) (a : Nat → Nat), s.heap.size ≤ H1.size ∧ (∀ q : Nat, q < s.heap.size → H1[q]? = s.heap[q]?) → mP G kd2 a σ1 H1 → (∀ i, H.size ≤ a i) → (∀ q, q < H.size → H1[q]? = H[q]?) → H.size ≤ H1.size → W p l e R s m args below meth c H1 [] (cells + 1 + mc) (slots + N + ms) Q (F0 m (pc + 7) ls (.ref (a 0) :: rest))) :
    W p l e R s m args below meth c H [] cells slots Q (F0 m pc ls rest) := by
  obtain ⟨ad, had⟩ : ∃ ad : Nat → Nat, ad = fun j => H.size + j := ⟨_, rfl⟩
  have ha : ∀ j, ad j = H.size + j := fun j => by rw [had]
  have hadg : ∀ q, mA ad q → H.size ≤ q := fun q ⟨i, hi⟩ => by rw [← hi, ha]; omega
  have hM : mM G kd1 ad s mS0 H [] := ⟨⟨fun i hi => absurd hi (Nat.not_lt_zero i), fun i j hij => by rw [ha, ha] at hij; omega, fun j => by rw [ha]; show H.size + (0 + j) = _; omega, fun i _ _ h => absurd h h5⟩, ⟨hB0.1, fun q h1 _ => hB0.2 q h1, fun _ h => by cases h⟩⟩
  have hKn := C.2.1 ci _ hc
  have hts := C.1.2.2.2.2
  refine W.newcK C.1.1 C.1.2.1 C.1.2.2.2.1 (hts _ hcl) (hts _ hins) (hts _ hini) rfl d0 (Nat.le_trans (Nat.le_add_right _ _) hcells) (Nat.le_trans (Nat.le_add_right _ _) hslots) hKn.2.1 rfl fun H1 kC hkC e1 z1 o1 => ?_
  have hsz : ad 0 = H.size := ha 0
  rw [← hsz] at e1 ⊢
  have hM1 : mM G kd1 ad s mS1 H1 [] := mM_add hM (fun i hi => absurd hi (Nat.not_lt_zero i)) (fun i _ _ h => absurd h h5) (by
    show va_at G.1 vwCl (ad 0, mE G kd1 ad mS1 0) H1
    rw [mE_0 hkn]
    refine ⟨_, hc, (u_born ty0 hts hin hKn hkC e1 hty).to (fun j hj => ?_)⟩
    rw [mL_V (show j < mNf ci by rw [← hNf]; exact hj)]
    rcases hdef j hj with ⟨h1, h2⟩ | ⟨h1, h2⟩
    · rw [h2]
      unfold mF
      rw [h1]
      rfl
    · rw [h2]
      unfold mF
      rw [h1]
      rfl) z1 o1
  refine W.eq (g2 := F0 m (pc + 3) ls (mV ad (some 0) :: rest)) rfl ?_
  refine lv_dup C.1.1 C.1.2.1 d3 (mV_cat _ _) ?_
  refine va_callv (A0 := fun q => H.size ≤ q) (H0 := H) (A1 := mA ad) (mr_runIc (As := []) (i := 0) C hM1 hO0 hO1 hls hrc hrs (hm ad) h1 h2 h3 h4 hy1 (n := 0) hd rfl rfl hRm (m_cR hw) (by simp only [List.length_cons]; omega) d4 ⟨hcells, hslots⟩) ⟨by omega, fun q h1 _ => o1 q h1, fun _ h => by cases h⟩ (fun q _ h => hadg q h) hadg (fun u t H2 locs ht hvm hu hB hz hk hS => ?_)
  subst hu
  refine va_forget (fun q hq => Nat.le_trans hB0.1 (hS.2.2 q hq)) ?_
  refine kk H2 ad ⟨Nat.le_trans hB0.1 hS.1, fun q hq => (hS.2.1 q (Nat.lt_of_lt_of_le hq hB0.1) (Nat.not_le.mpr (Nat.lt_of_lt_of_le hq hB0.1))).trans (hB0.2 q hq)⟩ (by rw [← ht]; exact hB) (fun i => by rw [ha]; omega) (fun q hq => hS.2.1 q hq (Nat.not_le.mpr hq)) hS.1
set_option maxRecDepth 100000 in
set_option maxHeartbeats 4000000 in
theorem law_start {b0 L : Nat} {xs : Nat → Int32} (Rel : mS → mS → Prop) (hRel : lRel Rel) (hO : lOall Rel) (hI : Rel k2_21 k3_73) (C : mX p s m c cL_law 7 args RL G) (hG : mGok G) (hO0 : va_AO RX0 s) (hO1 : va_AO RX1 s) (hfl : l.stackTraces = false) (Z : ∀ cL, ArrOfT s cL .long → lZ cL s) (hX : va_X b0 L xs s s.heap) (hbl : b0 < s.heap.size) (hL : L ≤ 2560) (hl : ml_has ls 7 [(0, .ref b0)])
    (kk : ∀ (H : Heap) (ls : Array Slot) (cells slots : Nat), cells ≤ 100000 → slots ≤ 5000000 → W p l e room_1 s m args below meth c H [] cells slots Q (F0 m 1168 ls [.int 1])) : W p l e room_1 s m args below meth c s.heap [] 0 0 Q (F0 m 0 ls []) := by
  have hx := C.1.1
  have hb := C.1.2.1
  have hts := C.1.2.2.2.2
  refine lw_mk (ci := 5) (kd1 := kdB 3) (kd2 := kdC) (σ1 := k2_21) (C0 := RX2) (T := TX2) (N := 7) (mc := 20) (ms := 350) C hO0 hO1 hl.1.1 ⟨Nat.le_refl _, fun _ _ => rfl⟩ rfl inlX2 tyX2 tyX2_ok rfl (index := 8) (ix2 := 68) (mw_1 _ (List.mem_of_getElem? (i := 0) rfl)) (mw_1 _ (List.mem_of_getElem? (i := 1) rfl)) (mw_1 _ (List.mem_of_getElem? (i := 2) rfl)) rfl (by decide) (by decide +kernel) (Nat.le_of_ble_eq_true rfl) (Nat.le_of_ble_eq_true rfl) rfl rfl (fun ad => c_X2_init l G ad hG) (mw_1 _ (List.mem_of_getElem? (i := 7) rfl)) (mw_1 _ (List.mem_of_getElem? (i := 8) rfl)) (mw_1 _ (List.mem_of_getElem? (i := 2) rfl)) (mw_1 _ (List.mem_of_getElem? (i := 9) rfl)) rfl ⟨by decide, by decide, by decide +kernel⟩ ⟨Nat.le_of_ble_eq_true rfl, Nat.le_of_ble_eq_true rfl⟩ m_c0 (Nat.le_of_ble_eq_true rfl) dL_law_0 dL_law_3 dL_law_4 (fun H1 a1 hB1 hP1 hg1 hk1 hz1 => ?_)
  refine lv_astore_n (lv' := [(1, .ref (a1 0)), (0, .ref b0)]) hx hb dL_law_7 rfl hl.1 (by decide) rfl (fun ls hl => ?_)
  refine lw_mk (ci := 6) (kd1 := kdN) (kd2 := kdM) (σ1 := k3_73) (C0 := RX3) (T := TX3) (N := 28) (mc := 25) (ms := 3278) C hO0 hO1 hl.1 hB1 rfl inlX3 tyX3 tyX3_ok rfl (index := 69) (ix2 := 71) (mw_1 _ (List.mem_of_getElem? (i := 3) rfl)) (mw_1 _ (List.mem_of_getElem? (i := 4) rfl)) (mw_1 _ (List.mem_of_getElem? (i := 5) rfl)) rfl (by decide) (by decide +kernel) (Nat.le_of_ble_eq_true rfl) (Nat.le_of_ble_eq_true rfl) rfl rfl (fun ad => c_X3_init l G ad hG) (mw_2 _ (List.mem_of_getElem? (i := 8) rfl)) (mw_2 _ (List.mem_of_getElem? (i := 9) rfl)) (mw_1 _ (List.mem_of_getElem? (i := 5) rfl)) (mw_2 _ (List.mem_of_getElem? (i := 10) rfl)) rfl ⟨by decide, by decide, by decide +kernel⟩ ⟨Nat.le_of_ble_eq_true rfl, Nat.le_of_ble_eq_true rfl⟩ m_c0 (Nat.le_of_ble_eq_true rfl) dL_law_8 dL_law_11 dL_law_12 (fun H2 a2 hB2 hP2 hg2 hk2 hz2 => ?_)
  refine lv_astore_n (lv' := [(2, .ref (a2 0)), (1, .ref (a1 0)), (0, .ref b0)]) hx hb dL_law_15 rfl hl (by decide) rfl (fun ls hl => ?_)
  refine lv_iconst (v := 1) hx hb dL_law_16 (by decide) ?_
  refine va_newaK (atype := .long) (n := 1) (N := 1) hx hb (hts _ (mw_1 _ (List.mem_of_getElem? (i := 6) rfl))) rfl dL_law_17 rfl (by decide) rfl (Nat.le_of_ble_eq_true rfl) (Nat.le_of_ble_eq_true rfl) (Nat.le_of_ble_eq_true rfl) rfl (fun H3 cL e3 z3 o3 hAr hNm => ?_)
  refine W.eq (g2 := F0 m 19 ls [.ref H2.size]) rfl ?_
  refine lv_astore_n (lv' := [(3, .ref H2.size), (2, .ref (a2 0)), (1, .ref (a1 0)), (0, .ref b0)]) hx hb dL_law_19 rfl hl (by decide) rfl (fun ls hl => ?_)
  refine lv_iconst (v := 0) hx hb dL_law_20 (by decide) ?_
  refine lv_istore (lv' := [(4, .int 0), (3, .ref H2.size), (2, .ref (a2 0)), (1, .ref (a1 0)), (0, .ref b0)]) hx hb dL_law_21 hl (by decide) rfl (fun ls hl => ?_)
  have hW1 : wW G kdC a1 k2_21 H1 := wW_ofP hP1 (by decide)
  have hW2 : wW G kdM a2 k3_73 H2 := wW_ofP hP2 (by decide)
  have hW1b : wW G kdC a1 k2_21 H3 := wW_kept hW1 (fun i hi => by
    have h := wW_lt hW1 hi
    rw [o3 _ (by omega), hk2 _ h])
  have hW2b : wW G kdM a2 k3_73 H3 := wW_kept hW2 (fun i hi => o3 _ (wW_lt hW2 hi))
  have hl5 : ml_has ls 7 [(4, .int (nI 0)), (0, .ref b0), (1, .ref (a1 0)), (2, .ref (a2 0)), (3, .ref H2.size)] := ⟨lv_sub hl [0, 4, 3, 2, 1] rfl, by simp [Value.category]⟩
  refine law_loop Rel hRel hO C hfl (Z cL hAr) hX hbl hL kk (L + 6) 0 _ _ k2_21 k3_73 (fun _ => 0) H3 a1 a2 ls (by omega) (Nat.zero_le _) hI ⟨⟨by omega, fun q hq => by rw [o3 q (by omega)]; exact hB2.2 q hq⟩, hW1b, hW2b, ?_, fun i _ => hg1 i, fun i _ => Nat.le_trans hB1.1 (hg2 i), by omega, fun i j hi _ h => ?_, fun i hi h => ?_, fun j hj h => ?_⟩ hl5 (Nat.le_of_ble_eq_true rfl) (Nat.le_of_ble_eq_true rfl)
  · show H3[H2.size]? = some (vp_cell cL (1, .inr (.inl fun _ => 0)))
    rw [e3]
    rfl
  · have h3 := wW_lt hW1 hi
    have h4 := hg2 j
    omega
  · have h3 := wW_lt hW1 hi
    omega
  · have h3 := wW_lt hW2 hj
    omega
end LS
