theorem cw_L_155 : mCs RL 155 yL_runs cL_runs 21 (some .boolean) := ⟨(mw_2 _ (List.mem_of_getElem? (i := 4) rfl)), (mw_2 _ (List.mem_of_getElem? (i := 5) rfl)), (mw_2 _ (List.mem_of_getElem? (i := 6) rfl)), (mw_2 _ (List.mem_of_getElem? (i := 7) rfl))⟩
/-! the law's body -/
section LS
variable {p : Program} {l : Launch} {e : Env} {R : Room} {s : State} {m : MethodId} {args : Array Value} {below : List Frame} {meth : Method} {c : Code} {H : Heap} {cells slots mc ms : Nat} {Q : State → Prop}
variable {cc bytes : ByteArray} {pc nL maxL : Nat} {ls : Array Slot} {rest : List Value} {own : String} {G : mG} {kd1 kd2 : Nat → Nat × Nat} {σ1 : mS} {rm : Room} {y : MethodName}
theorem lw_mk (C : mX p s m c cc nL args own G) (hO0 : va_AO RX0 s) (hO1 : va_AO RX1 s) (hls : ls.size = nL) (hB0 : s.heap.size ≤ H.size ∧ ∀ q : Nat, q < s.heap.size → H[q]? = s.heap[q]?)
    {ci : Nat} {C0 : String} {T : u_T} {N : Nat} (hc : vwCl[ci]? = some (C0, T, N)) (hin : ∀ w ∈ u_ws C0 T N, w ∈ wsL_law) (ty0 : Nat → FieldType) (hty : ∀ k, k < N → parseFieldDescriptor (T k).2.2.1 = some (ty0 k)) (hNf : N = mNf ci) {index ix2 : Nat} (hcl : Cond.classLink own index C0 ∈ wsL_law) (hins : Cond.instantiable C0 N ∈ wsL_law) (hini : Cond.initialized C0 ∈ wsL_law)
    (hkn : kd1 0 = (0, ci)) (h5 : ¬ (kd1 0).2 ≤ 3) (hdef : ∀ k, k < N → ((mFk ci k).1 = 0 ∧ defaultValue (ty0 k) = .int 0) ∨ ((mFk ci k).1 = 1 ∧ defaultValue (ty0 k) = .null)) (hcells : cells + 1 + mc ≤ R.cells) (hslots : slots + N + ms ≤ R.slots)
    (hrc : rm.cells = mc) (hrs : rm.slots = ms) (hm : ∀ ad : Nat → Nat, Met l y (mWs y bytes maxL none) rm (va_Pc [mV ad (some 0)] (mPreC G kd1 ad mS1)) (va_Qv (fun u => u = σ1) (mPost G kd2 ad) (mA ad)) mc ms (mA ad)) (h1 : Cond.methodLink own ix2 y ∈ wsL_law) (h2 : Cond.instanceMethod y ∈ wsL_law) (h3 : Cond.initialized y.cls ∈ wsL_law) (h4 : Cond.code y bytes maxL none ∈ wsL_law) (hy1 : y.name = "<init>")
    (hd : y.cls ≠ "java/lang/invoke/MethodHandle" ∧ y.cls ≠ "java/lang/invoke/VarHandle" ∧ (parseMethodDescriptor y.desc).map (fun d => d.parameters.length) = some 0) (hRm : rm.frames + 1 ≤ R.frames ∧ 8 + (maxL + 11) + rm.locals ≤ R.locals) (hw : ∀ v ∈ rest, v.category = 1) (hw8 : rest.length ≤ 7)
    (d0 : decode cc pc = .ok (.new index, 3)) (d3 : decode cc (pc + 3) = .ok (.dup, 1)) (d4 : decode cc (pc + 4) = .ok (.invokespecial ix2, 3))
    (kk : ∀ (H1 : Heap) (a : Nat → Nat), s.heap.size ≤ H1.size ∧ (∀ q : Nat, q < s.heap.size → H1[q]? = s.heap[q]?) → mP G kd2 a σ1 H1 → (∀ i, H.size ≤ a i) → (∀ q, q < H.size → H1[q]? = H[q]?) → H.size ≤ H1.size → W p l e R s m args below meth c H1 [] (cells + 1 + mc) (slots + N + ms) Q (F0 m (pc + 7) ls (.ref (a 0) :: rest))) :
    W p l e R s m args below meth c H [] cells slots Q (F0 m pc ls rest) := by
  obtain ⟨ad, had⟩ : ∃ ad : Nat → Nat, ad = fun j => H.size + j := ⟨_, rfl⟩
  have ha : ∀ j, ad j = H.size + j := fun j => by rw [had]
  have hadg : ∀ q, mA ad q → H.size ≤ q := fun q ⟨i, hi⟩ => by rw [← hi, ha]; omega
  have hM : mM G kd1 ad s mS0 H [] := ⟨⟨fun i hi => absurd hi (Nat.not_lt_zero i), fun i j hij => by rw [ha, ha] at hij; omega, fun j => by rw [ha]; show H.size + (0 + j) = _; omega, fun i _ _ h => absurd h h5⟩, ⟨hB0.1, fun q h1 _ => hB0.2 q h1, fun _ h => by cases h⟩⟩
  have hKn := C.2.1 ci _ hc
  have hts := C.1.2.2.2.2
  refine W.newcK C.1.1 C.1.2.1 C.1.2.2.2.1 (hts _ hcl) (hts _ hins) (hts _ hini) rfl d0 (Nat.le_trans (Nat.le_add_right _ _) hcells) (Nat.le_trans (Nat.le_add_right _ _) hslots) hKn.2.1 rfl fun H1 kC hkC e1 z1 o1 => ?_
  have hsz : ad 0 = H.size := ha 0
  rw [← hsz] at e1 ⊢
  have hM1 : mM G kd1 ad s mS1 H1 [] := mM_add hM (fun i hi => absurd hi (Nat.not_lt_zero i)) (fun i _ _ h => absurd h h5) (by
    show va_at G.1 vwCl (ad 0, mE G kd1 ad mS1 0) H1
    rw [mE_0 hkn]
    refine ⟨_, hc, (u_born ty0 hts hin hKn hkC e1 hty).to (fun j hj => ?_)⟩
    rw [mL_V (show j < mNf ci by rw [← hNf]; exact hj)]
    rcases hdef j hj with ⟨h1, h2⟩ | ⟨h1, h2⟩
    · rw [h2]
      unfold mF
      rw [h1]
      rfl
    · rw [h2]
      unfold mF
      rw [h1]
      rfl) z1 o1
  refine W.eq (g2 := F0 m (pc + 3) ls (mV ad (some 0) :: rest)) rfl ?_
  refine lv_dup C.1.1 C.1.2.1 d3 (mV_cat _ _) ?_
  refine va_callv (A0 := fun q => H.size ≤ q) (H0 := H) (A1 := mA ad) (mr_runIc (As := []) (i := 0) C hM1 hO0 hO1 hls hrc hrs (hm ad) h1 h2 h3 h4 hy1 (n := 0) hd rfl rfl hRm (m_cR hw) (by simp only [List.length_cons]; omega) d4 ⟨hcells, hslots⟩) ⟨by omega, fun q h1 _ => o1 q h1, fun _ h => by cases h⟩ (fun q _ h => hadg q h) hadg (fun u t H2 locs ht hvm hu hB hz hk hS => ?_)
  subst hu
  refine va_forget (fun q hq => Nat.le_trans hB0.1 (hS.2.2 q hq)) ?_
  refine kk H2 ad ⟨Nat.le_trans hB0.1 hS.1, fun q hq => (hS.2.1 q (Nat.lt_of_lt_of_le hq hB0.1) (Nat.not_le.mpr (Nat.lt_of_lt_of_le hq hB0.1))).trans (hB0.2 q hq)⟩ (by rw [← ht]; exact hB) (fun i => by rw [ha]; omega) (fun q hq => hS.2.1 q hq (Nat.not_le.mpr hq)) hS.1

def aV (N0 : Nat) : Nat → Nat := fun j => N0 + (j - 1)
set_option maxRecDepth 100000 in
set_option maxHeartbeats 4000000 in
theorem law_loop {b0 L B : Nat} {xs : Nat → Int32} (hB : 1 ≤ B ∧ B ≤ 95000) (hQ : ∀ (k : Nat) (τ : mS), k < 3 → w_L_runs L xs (nI (50 * k)) k2_21 (tG τ) B (fun r _ _ => r = 1)) (C : mX p s m c cL_law 9 args RL G) (hG : mGok G) (hO0 : va_AO RX0 s) (hO1 : va_AO RX1 s) (hfl : l.stackTraces = false) (Z : pZ s.heap.size s) (hX : va_X b0 L xs s s.heap) (hbl : b0 < s.heap.size) (hL : L ≤ 260) (a2 : Nat → Nat) (ha2 : ∀ j, 1 ≤ j → s.heap.size ≤ a2 j)
    (kk : ∀ (H : Heap) (ls : Array Slot) (cells slots : Nat), cells ≤ 290000 → slots ≤ 5200000 → W p l e room_1 s m args below meth c H [] cells slots Q (F0 m 87 ls [.int 1])) :
    ∀ (n k cells slots : Nat) (H : Heap) (τ : mS) (ls : Array Slot), k + n = 3 → (s.heap.size ≤ H.size ∧ ∀ q : Nat, q < s.heap.size → H[q]? = s.heap[q]?) → pV G a2 τ H → cells ≤ 7 + k * (B + 30) → slots ≤ 420 + k * (18 * B + 400) → ml_has ls 9 [(8, .int (nI k)), (0, .ref b0), (1, .ref (a2 1)), (2, .ref (a2 2)), (3, .ref (a2 3)), (4, .ref (a2 4)), (5, .ref (a2 5)), (6, .ref (a2 6)), (7, .ref (a2 7))] → W p l e room_1 s m args below meth c H [] cells slots Q (F0 m 42 ls []) := by
  have hx := C.1.1
  have hb := C.1.2.1
  have hts := C.1.2.2.2.2
  intro n
  induction n with
  | zero =>
    intro k cells slots H τ ls hk hB0 hV hc hs hl
    have hk3 : k = 3 := by omega
    subst hk3
    refine lv_iload hx hb dL_law_42 (ml_at hl 0 rfl) ?_
    refine lv_iconst (v := 3) hx hb dL_law_44 (by decide) ?_
    refine lv_icmp_ge (tgt := 86) hx hb dL_law_45 (by decide) (fun _ => ?_) (fun q => absurd (show (3 : Int32) ≤ nI 3 by decide) q)
    refine lv_iconst (v := 1) hx hb dL_law_86 (by decide) ?_
    exact kk H ls cells slots (by omega) (by omega)
  | succ n ih =>
    intro k cells slots H τ ls hk hB0 hV hc hs hl
    have hk3 : k < 3 := by omega
    have hkB : k * (B + 30) ≤ 2 * (B + 30) := Nat.mul_le_mul_right _ (by omega)
    have hkS : k * (18 * B + 400) ≤ 2 * (18 * B + 400) := Nat.mul_le_mul_right _ (by omega)
    refine lv_iload hx hb dL_law_42 (ml_at hl 0 rfl) ?_
    refine lv_iconst (v := 3) hx hb dL_law_44 (by decide) ?_
    refine lv_icmp_ge (tgt := 86) hx hb dL_law_45 (by decide) (fun q => ?_) (fun _ => ?_)
    · have : 3 ≤ k := (nI_leI (a := 3) (by omega) (by omega)).mp q
      omega
    · refine lw_mk (ci := 5) (kd1 := kdB 3) (kd2 := kdC) (σ1 := k2_21) (C0 := RX2) (T := TX2) (N := 7) (mc := 20) (ms := 350) C hO0 hO1 hl.1.1 hB0 rfl inlX2 tyX2 tyX2_ok rfl (index := 9) (ix2 := 154) (mw_1 _ (List.mem_of_getElem? (i := 1) rfl)) (mw_1 _ (List.mem_of_getElem? (i := 2) rfl)) (mw_1 _ (List.mem_of_getElem? (i := 3) rfl)) rfl (by decide) (by decide +kernel) (rmC (by omega)) (rmS (by omega)) rfl rfl (fun ad => c_X2_init l G ad hG) (mw_1 _ (List.mem_of_getElem? (i := 4) rfl)) (mw_1 _ (List.mem_of_getElem? (i := 5) rfl)) (mw_1 _ (List.mem_of_getElem? (i := 3) rfl)) (mw_1 _ (List.mem_of_getElem? (i := 6) rfl)) rfl ⟨by decide, by decide, by decide +kernel⟩ ⟨Nat.le_of_ble_eq_true rfl, Nat.le_of_ble_eq_true rfl⟩ m_c0 (Nat.le_of_ble_eq_true rfl) dL_law_48 dL_law_51 dL_law_52 (fun H1 a1 hB1 hP1 hg1 hk1 hz1 => ?_)
      refine lv_aload_n hx hb dL_law_55 rfl (ml_at hl 1 rfl) ?_
      refine lv_bipush (v := nI 50) hx hb dL_law_56 (by decide) ?_
      refine lv_iload hx hb dL_law_58 (ml_at hl 0 rfl) ?_
      refine lv_imul hx hb dL_law_60 ?_
      refine lv_aload_n hx hb dL_law_61 rfl (ml_at hl 2 rfl) ?_
      refine lv_aload_n hx hb dL_law_62 rfl (ml_at hl 3 rfl) ?_
      refine lv_aload_n hx hb dL_law_63 rfl (ml_at hl 4 rfl) ?_
      refine lv_aload hx hb dL_law_64 (ml_at hl 5 rfl) ?_
      refine lv_aload hx hb dL_law_66 (ml_at hl 6 rfl) ?_
      refine lv_aload hx hb dL_law_68 (ml_at hl 7 rfl) ?_
      refine lv_aload hx hb dL_law_70 (ml_at hl 8 rfl) ?_
      rw [show nI 50 * nI k = nI (50 * k) from by
        match k, hk3 with
        | 0, _ => decide
        | 1, _ => decide
        | 2, _ => decide
        | k + 3, h => omega]
      have hW1 : wW G kdC a1 k2_21 H1 := wW_ofP hP1 (by decide)
      have hV1 : pV G a2 τ H1 := ⟨fun j h1 h2 => (hV.1 j h1 h2).kept (hk1 _ (hV.1 j h1 h2).lt), hV.2⟩
      have hpre : PreS s H1 (va_Pc [mV a1 (some 0), .ref b0, .int (nI (50 * k)), mV a2 (some 1), mV a2 (some 2), mV a2 (some 3), mV a2 (some 4), mV a2 (some 5), mV a2 (some 6), mV a2 (some 7)] (rPre G s.heap.size H1.size a1 a2 b0 L xs k2_21 τ)) [mV a1 (some 0), .ref b0, .int (nI (50 * k)), mV a2 (some 1), mV a2 (some 2), mV a2 (some 3), mV a2 (some 4), mV a2 (some 5), mV a2 (some 6), mV a2 (some 7)] :=
        ⟨rPre.blind _ _ _ _ _ _ _ _ _ _ _, fun U hU hW => ⟨rfl, by rw [hU], by rw [hU]; exact hW1, by rw [hU]; exact hV1, fun i j hi h1 h2 q => by have := hg1 i; have := (hV.1 j h1 h2).lt; omega, ⟨fun i _ => Nat.le_trans hB0.1 (hg1 i), fun j h1 _ => ha2 j h1, hB1.1⟩, va_K.moved hW.alike C.2, Z.at (fun q hq _ => hB1.2 q hq) hU hW, by rw [hU]; exact (hX.kept (hB1.2 b0 hbl)).moved hW.alike⟩⟩
      have hrun := va_runS (p := p) (l := l) (e := e) (R := room_1) (s := s) (args := args) (below := below) (meth := meth) (H := H1) (locs := []) (cells := cells + 1 + 20) (slots := slots + 7 + 350) (As := [mV a1 (some 0), .ref b0, .int (nI (50 * k)), mV a2 (some 1), mV a2 (some 2), mV a2 (some 3), mV a2 (some 4), mV a2 (some 5), mV a2 (some 6), mV a2 (some 7)]) (rest := []) C.1 (c_runs l hfl G s.heap.size H1.size a1 a2 b0 L xs (nI (50 * k)) k2_21 τ B hB.1 hbl hL _ (hQ k τ hk3)) (cwS 10 hts (mCs.good cw_L_155) rfl rfl rfl ⟨rfl, by decide, by decide, by decide +kernel⟩ ⟨Nat.le_of_ble_eq_true rfl, Nat.le_of_ble_eq_true rfl⟩) hpre rfl rfl hl.1.1 rfl (lv_room (pc := 72) (ls := ls) (m_wt (st := []) m_c0 (Nat.le_of_ble_eq_true rfl))) dL_law_72 ⟨rmC (show cells + 1 + 20 + B ≤ 300000 by omega), rmS (show slots + 7 + 350 + 18 * B ≤ 5500000 by omega)⟩
      refine va_calli hrun (A0 := fun q => s.heap.size ≤ q) (H0 := s.heap) ⟨hB1.1, fun q h1 _ => hB1.2 q h1, fun _ h => by cases h⟩ (fun q _ h => ?_) (fun q h => ?_) (fun r v t H2 locs1 ht hvm hw hBu hz2 hk2 hS2 => ?_)
      · rcases h with ⟨i, g1, g2⟩ | ⟨j, g1, g2⟩ | g
        · have := hg1 i; have := hB0.1; omega
        · by_cases hj : j = 0
          · rw [hj, show aG H1.size a2 0 = H1.size from if_pos rfl] at g2; have := hB1.1; omega
          · rw [show aG H1.size a2 j = a2 j from if_neg hj] at g2; have := ha2 j (by omega); omega
        · have := hB1.1; omega
      · rcases h with ⟨i, g1, g2⟩ | ⟨j, g1, g2⟩ | g
        · have := hg1 i; have := hB0.1; omega
        · by_cases hj : j = 0
          · rw [hj, show aG H1.size a2 0 = H1.size from if_pos rfl] at g2; have := hB1.1; omega
          · rw [show aG H1.size a2 j = a2 j from if_neg hj] at g2; have := ha2 j (by omega); omega
        · have := hB1.1; omega
      · refine va_forget hS2.2.2 ?_
        obtain ⟨a', b1, b2, b3, ⟨-, d2, d3, -⟩⟩ := hBu
        rw [ht] at d2
        have hr1 : r = 1 := hw.1
        subst hr1
        refine lv_if_ne (tgt := 80) hx hb dL_law_75 (by decide) (fun _ => ?_) (fun q => absurd q (by decide))
        refine mr_iinc (v := nI (k + 1)) (lv' := [(8, .int (nI (k + 1))), (0, .ref b0), (1, .ref (a2 1)), (2, .ref (a2 2)), (3, .ref (a2 3)), (4, .ref (a2 4)), (5, .ref (a2 5)), (6, .ref (a2 6)), (7, .ref (a2 7))]) C hl dL_law_80 (k := 0) rfl (nI_1 k) (by decide) rfl (fun ls hl => ?_)
        refine lv_goto (tgt := 42) hx hb dL_law_83 (by decide) ?_
        have e1 : (k + 1) * (B + 30) = k * (B + 30) + (B + 30) := Nat.succ_mul _ _
        have e2 : (k + 1) * (18 * B + 400) = k * (18 * B + 400) + (18 * B + 400) := Nat.succ_mul _ _
        refine ih (k + 1) _ _ H2 v.2 ls (by omega) ⟨hS2.1, fun q hq => hS2.2.1 q hq (Nat.not_le.mpr hq)⟩ ⟨fun j h1 h2 => ?_, hV.2⟩ (by omega) (by omega) hl
        have := d2.1 j (by omega)
        rw [mE_1 (n := 60) (by unfold kdL; rw [if_neg (by omega), if_pos h2]), show aG H1.size a2 j = a2 j from if_neg (by omega)] at this
        exact this
end LS
