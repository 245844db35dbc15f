def lOall (Rel : mS → mS → Prop) : Prop := lO_setWork Rel ∧ lO_ask Rel ∧ lO_setRoom Rel ∧ lO_call Rel ∧ lO_cancel Rel ∧ lO_pass Rel ∧ lO_time Rel ∧ lO_calls Rel ∧ lO_state Rel ∧ lO_origin Rel ∧ lO_deadline Rel ∧ lO_overAt Rel ∧ lO_place Rel ∧ lO_below Rel ∧ lO_queuedAt Rel ∧ lO_count Rel ∧ lO_tokens Rel ∧ lO_isOpen Rel
theorem l_and31 (x : Int32) : ∃ k, k < 32 ∧ x &&& 31 = nI k := by
  refine ⟨x.toBitVec.toNat % 32, Nat.mod_lt _ (by decide), ?_⟩
  apply Int32.toBitVec_inj.mp
  apply BitVec.eq_of_toNat_eq
  rw [Int32.toBitVec_and, BitVec.toNat_and]
  show _ &&& 31 = (BitVec.ofNat 32 (x.toBitVec.toNat % 32)).toNat
  rw [BitVec.toNat_ofNat, Nat.mod_eq_of_lt (by omega), show (31 : Nat) = 2 ^ 5 - 1 from rfl, Nat.and_two_pow_sub_one_eq_mod]
set_option maxRecDepth 100000 in
set_option maxHeartbeats 4000000 in
theorem law_loop {p : Program} {l : Launch} {e : Env} {s : State} {m : MethodId} {args : Array Value} {below : List Frame} {meth : Method} {c : Code} {Q : State → Prop} {G : mG} {cL : ClassId} {b0 o L : Nat} {xs : Nat → Int32} (Rel : mS → mS → Prop) (hRel : lRel Rel) (hO : lOall Rel) (C : mX p s m c cL_law 7 args RL G) (hfl : l.stackTraces = false) (Z : lZ cL s) (hX : va_X b0 L xs s s.heap) (hbl : b0 < s.heap.size) (hL : L ≤ 2560)
    (kk : ∀ (H : Heap) (ls : Array Slot) (cells slots : Nat), cells ≤ 100000 → slots ≤ 5000000 → W p l e room_1 s m args below meth c H [] cells slots Q (F0 m 1168 ls [.int 1])) :
    ∀ (n i cells slots : Nat) (σ μ : mS) (v : Nat → Int64) (H : Heap) (a1 a2 : Nat → Nat) (ls : Array Slot), L + 5 - i < n → i ≤ L → Rel σ μ → lB G cL a1 a2 o s.heap σ μ v H → ml_has ls 7 [(4, .int (nI i)), (0, .ref b0), (1, .ref (a1 0)), (2, .ref (a2 0)), (3, .ref o)] → cells ≤ 1000 + 2 * i + (mN σ - 21) → slots ≤ 20000 + 36 * i + 18 * (mN σ - 21) → W p l e room_1 s m args below meth c H [] cells slots Q (F0 m 23 ls []) := by
  intro n
  induction n with
  | zero => intro i cells slots σ μ v H a1 a2 ls h; omega
  | succ n ih =>
    intro i cells slots σ μ v H a1 a2 ls hn hiL hr hB hl hcc hss
    have hx := C.1.1
    have hb := C.1.2.1
    have hcs : cells ≤ 100000 ∧ slots ≤ 5000000 := by
      obtain ⟨-, -, h1, h2, -⟩ := hRel σ μ hr
      omega
    refine lv_iload hx hb dL_law_23 (ml_at hl 0 rfl) ?_
    refine lv_aload_n hx hb dL_law_25 rfl (ml_at hl 1 rfl) ?_
    refine va_slen (A := fun q => s.heap.size ≤ q) hx hb hX hbl (Nat.not_le.mpr hbl) ⟨hB.1.1, fun q h1 _ => hB.1.2 q h1, fun _ h => by cases h⟩ dL_law_26 ?_
    refine lv_iconst (v := 5) hx hb dL_law_27 (by decide) ?_
    refine lv_isub hx hb dL_law_28 ?_
    have hLt : (nI L).toInt = L := nI_toInt (by omega)
    have hit : (nI i).toInt = i := nI_toInt (by omega)
    have h5t : (nI L - 5).toInt = (L : Int) - 5 := by
      rw [Int32.toInt_sub, hLt, show (5 : Int32).toInt = 5 from rfl]
      exact Int.bmod_eq_of_le (by omega) (by omega)
    refine lv_icmp_gt (tgt := 1167) hx hb dL_law_29 (by decide) (fun hg => ?_) (fun hg => ?_)
    · refine lv_iconst (v := 1) hx hb dL_law_1167 (by decide) ?_
      exact kk H ls cells slots hcs.1 hcs.2
    · have hi : i + 5 ≤ L := by
        have hg : ¬ (nI L - 5 < nI i) := hg
        rw [Int32.lt_iff_toInt_lt, h5t, hit] at hg
        omega
      refine lv_aload_n hx hb dL_law_32 rfl (ml_at hl 1 rfl) ?_
      refine lv_iload hx hb dL_law_33 (ml_at hl 0 rfl) ?_
      refine l_sld C hX hbl hB.1 (j := i) rfl (by omega) (by omega) dL_law_35 ?_
      refine lv_bipush (v := 31) hx hb dL_law_36 (by decide) ?_
      refine lv_iand hx hb dL_law_38 ?_
      have K : ∀ (σ' μ' : mS) (v' : Nat → Int64) (H' : Heap) (a1' a2' : Nat → Nat) (ls' : Array Slot) (cells' slots' : Nat), Rel σ' μ' → lB G cL a1' a2' o s.heap σ' μ' v' H' → a1' 0 = a1 0 → a2' 0 = a2 0 → ml_has ls' 7 [(4, .int (nI i)), (0, .ref b0), (1, .ref (a1 0)), (2, .ref (a2 0)), (3, .ref o)] → mN σ ≤ mN σ' → cells' ≤ cells + 10 + (mN σ' - mN σ) → slots' ≤ slots + 18 * (10 + (mN σ' - mN σ)) → W p l e room_1 s m args below meth c H' [] cells' slots' Q (F0 m 1161 ls' []) := by
        intro σ' μ' v' H' a1' a2' ls' cells' slots' hr' hB' e1 e2 hl' hm h1 h2
        obtain ⟨-, -, h3, h4, -⟩ := hRel σ μ hr
        refine mr_iinc (v := nI (i + 5)) C hl' dL_law_1161 (k := 0) rfl (nI_add i 5) (by decide) rfl (fun ls2 hl2 => ?_)
        refine lv_goto (tgt := 23) hx hb dL_law_1164 (by decide) ?_
        rw [← e1, ← e2] at hl2
        exact ih (i + 5) cells' slots' σ' μ' v' H' a1' a2' ls2 (by omega) hi hr' hB' hl2 (by omega) (by omega)
      obtain ⟨k, hk, hxk⟩ := l_and31 (xs i)
      have hxk : xs i &&& 31 = nI k := hxk
      rw [show (31 : Int32) = 31 from rfl] at *
      rw [hxk]
      obtain ⟨o0, o1, o2, o3, o4, o5, o6, o7, o8, o9, o10, o11, o12, o13, o14, o15, o16, o17⟩ := hO
      by_cases hk18 : 18 ≤ k
      · refine lv_tableOut (tgt := 1161) hx hb dL_law_39 (Or.inr (by rw [nI_toInt (by omega)]; omega)) (by decide) ?_
        exact K σ μ v H a1 a2 ls cells slots hr hB rfl rfl hl (Nat.le_refl _) (by omega) (by omega)
      · match k, Nat.not_le.mp hk18 with
        | 0, _ => exact lv_tableIn (tgt := 124) hx hb dL_law_39 (by decide) (by decide) rfl (by decide) (lc_setWork Rel hRel C hfl Z hX hbl hL hi hB hr hcs hl o0 K)
        | 1, _ => exact lv_tableIn (tgt := 204) hx hb dL_law_39 (by decide) (by decide) rfl (by decide) (lc_ask Rel hRel C hfl Z hX hbl hL hi hB hr hcs hl o1 K)
        | 2, _ => exact lv_tableIn (tgt := 272) hx hb dL_law_39 (by decide) (by decide) rfl (by decide) (lc_setRoom Rel hRel C hfl Z hX hbl hL hi hB hr hcs hl o2 K)
        | 3, _ => exact lv_tableIn (tgt := 364) hx hb dL_law_39 (by decide) (by decide) rfl (by decide) (lc_call Rel hRel C hfl Z hX hbl hL hi hB hr hcs hl o3 K)
        | 4, _ => exact lv_tableIn (tgt := 432) hx hb dL_law_39 (by decide) (by decide) rfl (by decide) (lc_cancel Rel hRel C hfl Z hX hbl hL hi hB hr hcs hl o4 K)
        | 5, _ => exact lv_tableIn (tgt := 488) hx hb dL_law_39 (by decide) (by decide) rfl (by decide) (lc_pass Rel hRel C hfl Z hX hbl hL hi hB hr hcs hl o5 K)
        | 6, _ => exact lv_tableIn (tgt := 544) hx hb dL_law_39 (by decide) (by decide) rfl (by decide) (lc_time Rel hRel C hfl Z hX hbl hL hi hB hr hcs hl o6 K)
        | 7, _ => exact lv_tableIn (tgt := 557) hx hb dL_law_39 (by decide) (by decide) rfl (by decide) (lc_calls Rel hRel C hfl Z hX hbl hL hi hB hr hcs hl o7 K)
        | 8, _ => exact lv_tableIn (tgt := 570) hx hb dL_law_39 (by decide) (by decide) rfl (by decide) (lc_state Rel hRel C hfl Z hX hbl hL hi hB hr hcs hl o8 K)
        | 9, _ => exact lv_tableIn (tgt := 626) hx hb dL_law_39 (by decide) (by decide) rfl (by decide) (lc_origin Rel hRel C hfl Z hX hbl hL hi hB hr hcs hl o9 K)
        | 10, _ => exact lv_tableIn (tgt := 682) hx hb dL_law_39 (by decide) (by decide) rfl (by decide) (lc_deadline Rel hRel C hfl Z hX hbl hL hi hB hr hcs hl o10 K)
        | 11, _ => exact lv_tableIn (tgt := 738) hx hb dL_law_39 (by decide) (by decide) rfl (by decide) (lc_overAt Rel hRel C hfl Z hX hbl hL hi hB hr hcs hl o11 K)
        | 12, _ => exact lv_tableIn (tgt := 794) hx hb dL_law_39 (by decide) (by decide) rfl (by decide) (lc_place Rel hRel C hfl Z hX hbl hL hi hB hr hcs hl o12 K)
        | 13, _ => exact lv_tableIn (tgt := 850) hx hb dL_law_39 (by decide) (by decide) rfl (by decide) (lc_below Rel hRel C hfl Z hX hbl hL hi hB hr hcs hl o13 K)
        | 14, _ => exact lv_tableIn (tgt := 906) hx hb dL_law_39 (by decide) (by decide) rfl (by decide) (lc_queuedAt Rel hRel C hfl Z hX hbl hL hi hB hr hcs hl o14 K)
        | 15, _ => exact lv_tableIn (tgt := 974) hx hb dL_law_39 (by decide) (by decide) rfl (by decide) (lc_count Rel hRel C hfl Z hX hbl hL hi hB hr hcs hl o15 K)
        | 16, _ => exact lv_tableIn (tgt := 1042) hx hb dL_law_39 (by decide) (by decide) rfl (by decide) (lc_tokens Rel hRel C hfl Z hX hbl hL hi hB hr hcs hl o16 K)
        | 17, _ => exact lv_tableIn (tgt := 1098) hx hb dL_law_39 (by decide) (by decide) rfl (by decide) (lc_isOpen Rel hRel C hfl Z hX hbl hL hi hB hr hcs hl o17 K)
        | k + 18, h => omega
