/-! the law's own beginning: seven rows, then three layers; 'runs' makes its own row of three -/
def rmc (a : Nat) : Prop := a ≤ 300000
theorem rmC {a : Nat} (h : a ≤ 300000) : a ≤ room_1.cells := Nat.le_trans h (Nat.le_of_ble_eq_true rfl)
theorem rmS {a : Nat} (h : a ≤ 5500000) : a ≤ room_1.slots := Nat.le_trans h (Nat.le_of_ble_eq_true rfl)
def aG (N1 : Nat) (a2 : Nat → Nat) : Nat → Nat := fun j => if j = 0 then N1 else a2 j
def tG (τ : mS) : mS := (8, fun i k => if i = 0 then 0 else mI τ i k, fun _ _ => none)
/-- the seven rows -/
def pV (G : mG) (a2 : Nat → Nat) (τ : mS) (H : Heap) : Prop := (∀ j, 1 ≤ j → j < 8 → va_at G.1 vwCl (a2 j, .inl (G.2.1, 60, .inl (mI τ j))) H) ∧ ∀ i j, 1 ≤ i → i < 8 → 1 ≤ j → j < 8 → a2 i = a2 j → i = j
def rPre (G : mG) (N0 N1 : Nat) (a1 a2 : Nat → Nat) (bs L : Nat) (xs : Nat → Int32) (σ τ : mS) : State → Prop := fun U => U.heap.size = N1 ∧ wW G kdC a1 σ U.heap ∧ pV G a2 τ U.heap ∧ (∀ i j, i < mN σ → 1 ≤ j → j < 8 → a1 i ≠ a2 j) ∧ ((∀ i, i < mN σ → N0 ≤ a1 i) ∧ (∀ j, 1 ≤ j → j < 8 → N0 ≤ a2 j) ∧ N0 ≤ N1) ∧ va_K G.1 vwCl (mTys G) U ∧ pZ N0 U ∧ va_X bs L xs U U.heap
theorem rPre.blind (G : mG) (N0 N1 : Nat) (a1 a2 : Nat → Nat) (bs L : Nat) (xs : Nat → Int32) (σ τ : mS) (av : List Value) : FrameBlind (va_Pc av (rPre G N0 N1 a1 a2 bs L xs σ τ)) := fun _ U _ _ q =>
  ⟨q.1, q.2.1, q.2.2.1, q.2.2.2.1, q.2.2.2.2.1, q.2.2.2.2.2.1, va_K.moved (Vm.Alike.refl U.vm) q.2.2.2.2.2.2.1, q.2.2.2.2.2.2.2.1.blind, va_X.moved (Vm.Alike.refl U.vm) q.2.2.2.2.2.2.2.2⟩
/-- a row of ints is made -/
theorem lw_arr {p : Program} {l : Launch} {e : Env} {R : Room} {s : State} {m : MethodId} {args : Array Value} {below : List Frame} {meth : Method} {c : Code} {H : Heap} {locs : List Loc} {cells slots : Nat} {Q : State → Prop} {cc : ByteArray} {pc nL n : Nat} {ls : Array Slot} {rest : List Value} {own : String} {G : mG}
    (C : mX p s m c cc nL args own G) (hn : n ≤ 1000) (hdg : decode cc pc = .ok (.newarray .int, 2)) (hcells : cells + 1 ≤ R.cells) (hslots : slots + n ≤ R.slots)
    (kk : ∀ H1 : Heap, va_at G.1 vwCl (H.size, .inl (G.2.1, n, .inl (fun _ => 0))) H1 → H1.size = H.size + 1 → (∀ q, q < H.size → H1[q]? = H[q]?) → W p l e R s m args below meth c H1 locs (cells + 1) (slots + n) Q (F0 m (pc + 2) ls (.ref H.size :: rest))) : W p l e R s m args below meth c H locs cells slots Q (F0 m pc ls (.int (nI n) :: rest)) := by
  refine va_newaK (atype := .int) (N := n) C.1.1 C.1.2.1 (C.1.2.2.2.2 _ (mw_1 _ (List.mem_of_getElem? (i := 0) rfl))) rfl hdg rfl (nI_pos (by omega)) (nI_clamp (by omega)) (by show n * 4 ≤ _; omega) hcells hslots rfl fun H1 cA e1 z1 o1 _ hNm => ?_
  have hcA : cA = G.2.1 := Option.some.inj (hNm.symm.trans (C.2.2 0 _ rfl).2)
  subst hcA
  refine W.eq (g2 := F0 m (pc + 2) ls (.ref H.size :: rest)) rfl ?_
  refine kk H1 ?_ z1 o1
  show H1[H.size]? = some (vp_cell _ _)
  rw [e1, vp_cell_i]
  rfl
set_option maxRecDepth 100000 in
set_option maxHeartbeats 4000000 in
theorem c_runs (l : Launch) (hfl : l.stackTraces = false) (G : mG) (N0 N1 : Nat) (a1 a2 : Nat → Nat) (bs L : Nat) (xs : Nat → Int32) (y2 : Int32) (σ τ : mS) (b : Nat) (hb1 : 1 ≤ b) (hbs : bs < N0) (hL : L ≤ 260) (Q : Int32 → mS → mS → Prop) (h : w_L_runs L xs y2 σ (tG τ) b Q) :
    Met l yL_runs (mWs yL_runs cL_runs 21 (some .boolean)) (mRb 10 213 b) (va_Pc [mV a1 (some 0), .ref bs, .int y2, mV a2 (some 1), mV a2 (some 2), mV a2 (some 3), mV a2 (some 4), mV a2 (some 5), mV a2 (some 6), mV a2 (some 7)] (rPre G N0 N1 a1 a2 bs L xs σ τ)) (va_Qi (fun r (q : mS × mS) => Q r q.1 q.2 ∧ narrow .boolean (.int r) = .int r) (pPost G N1 a1 (aG N1 a2) (mN σ)) (pA a1 (aG N1 a2) (mN σ) N1)) b (18 * b) (pA a1 (aG N1 a2) (mN σ) N1) := by
  refine Met.ofW (cc := cL_runs) (maxL := 21) (ret := some .boolean) (by decide) rfl ?_
  intro p e s m args below meth c s₁ B hml hv
  obtain ⟨rfl, hN, hW, hV, hd, ⟨g1, g2, g3⟩, hK, hZ, hX⟩ := hv
  have hts := atoms_spec (ws := mWs yL_runs cL_runs 21 (some .boolean)) B.pre
  have hown : s.vm.findClass RL = some m.cls := findClass_of_methodNamed (x := yL_runs) B.named
  have hcat : ∀ v ∈ ([mV a1 (some 0), .ref bs, .int y2, mV a2 (some 1), mV a2 (some 2), mV a2 (some 3), mV a2 (some 4), mV a2 (some 5), mV a2 (some 6), mV a2 (some 7)] : List Value), v.category = 1 := (m_cR (m_cA (m_cI (m_cR (m_cR (m_cR (m_cR (m_cR (m_cR (m_cR m_c0))))))))))
  have hl := lv_entry ([mV a1 (some 0), .ref bs, .int y2, mV a2 (some 1), mV a2 (some 2), mV a2 (some 3), mV a2 (some 4), mV a2 (some 5), mV a2 (some 6), mV a2 (some 7)] : List Value) (n := 21) (by rw [lg_sl_len _ hcat]; exact Nat.le_of_ble_eq_true rfl)
  rw [lv_ix_eq _ 0 hcat] at hl
  rw [lg_entry_eq]
  have hC : mX p s m c cL_runs 21 ([mV a1 (some 0), .ref bs, .int y2, mV a2 (some 1), mV a2 (some 2), mV a2 (some 3), mV a2 (some 4), mV a2 (some 5), mV a2 (some 6), mV a2 (some 7)] : List Value).toArray RL G := ⟨⟨B.exec, B.bytes, hml, hown, fun w hw => hts w (List.mem_cons_of_mem _ hw)⟩, hK⟩
  have hr := B.returns
  have hlk := B.notSynchronized
  have hl : ml_has (lg_sl ([mV a1 (some 0), .ref bs, .int y2, mV a2 (some 1), mV a2 (some 2), mV a2 (some 3), mV a2 (some 4), mV a2 (some 5), mV a2 (some 6), mV a2 (some 7)] : List Value) ++ List.replicate (21 - (lg_sl ([mV a1 (some 0), .ref bs, .int y2, mV a2 (some 1), mV a2 (some 2), mV a2 (some 3), mV a2 (some 4), mV a2 (some 5), mV a2 (some 6), mV a2 (some 7)] : List Value)).length) Slot.unset).toArray 21 [(0, mV a1 (some 0)), (1, .ref bs), (2, .int y2), (3, mV a2 (some 1)), (4, mV a2 (some 2)), (5, mV a2 (some 3)), (6, mV a2 (some 4)), (7, mV a2 (some 5)), (8, mV a2 (some 6)), (9, mV a2 (some 7))] := ⟨hl, lv_ix_cat _ 0 hcat⟩
  revert hl
  generalize (lg_sl ([mV a1 (some 0), .ref bs, .int y2, mV a2 (some 1), mV a2 (some 2), mV a2 (some 3), mV a2 (some 4), mV a2 (some 5), mV a2 (some 6), mV a2 (some 7)] : List Value) ++ List.replicate (21 - (lg_sl ([mV a1 (some 0), .ref bs, .int y2, mV a2 (some 1), mV a2 (some 2), mV a2 (some 3), mV a2 (some 4), mV a2 (some 5), mV a2 (some 6), mV a2 (some 7)] : List Value)).length) Slot.unset).toArray = ls
  intro hl
  refine lv_iconst (v := 3) B.exec B.bytes dL_runs_0 (by decide) ?_
  refine lw_arr (n := 3) hC (by decide) dL_runs_1 (show 0 + 1 ≤ b by omega) (show 0 + 3 ≤ 18 * b by omega) (fun H1 e1 z1 o1 => ?_)
  refine lv_astore (lv' := (10, .ref s.heap.size) :: [(0, mV a1 (some 0)), (1, .ref bs), (2, .int y2), (3, mV a2 (some 1)), (4, mV a2 (some 2)), (5, mV a2 (some 3)), (6, mV a2 (some 4)), (7, mV a2 (some 5)), (8, mV a2 (some 6)), (9, mV a2 (some 7))]) B.exec B.bytes dL_runs_3 hl.1 (by decide) (by rw [ml_filter hl.2] <;> rfl) (fun ls hl2 => ?_)
  refine W.widen (k := 1) (n := 18 * 1) (by omega) (by omega) ?_
  have h0 : 0 < mN σ := hW.2.2 0 (by decide) (by decide)
  have hgj : ∀ j, 1 ≤ j → aG N1 a2 j = a2 j := fun j hj => if_neg (by omega)
  have hg0 : aG N1 a2 0 = N1 := if_pos rfl
  have hin : ∀ i, i < mN σ → a1 i < N1 := fun i hi => by rw [← hN]; exact wW_lt hW hi
  have hin2 : ∀ j, 1 ≤ j → j < 8 → a2 j < N1 := fun j h1 h2 => by rw [← hN]; exact (hV.1 j h1 h2).lt
  have hav : ([mV a1 (some 0), .ref bs, .int y2, mV a2 (some 1), mV a2 (some 2), mV a2 (some 3), mV a2 (some 4), mV a2 (some 5), mV a2 (some 6), mV a2 (some 7)] : List Value) = [mV a1 (some 0), .ref bs, .int y2, mV (aG N1 a2) (some 1), mV (aG N1 a2) (some 2), mV (aG N1 a2) (some 3), mV (aG N1 a2) (some 4), mV (aG N1 a2) (some 5), mV (aG N1 a2) (some 6), mV (aG N1 a2) (some 7)] := by
    simp only [mV_some, hgj 1 (by decide), hgj 2 (by decide), hgj 3 (by decide), hgj 4 (by decide), hgj 5 (by decide), hgj 6 (by decide), hgj 7 (by decide)]
  have hl3 : ml_has ls 21 [(0, mV a1 (some 0)), (1, .ref bs), (2, .int y2), (3, mV (aG N1 a2) (some 1)), (4, mV (aG N1 a2) (some 2)), (5, mV (aG N1 a2) (some 3)), (6, mV (aG N1 a2) (some 4)), (7, mV (aG N1 a2) (some 5)), (8, mV (aG N1 a2) (some 6)), (9, mV (aG N1 a2) (some 7)), (10, mV (aG N1 a2) (some 0))] := by
    refine ⟨?_, by simp [Value.category, mV_some]⟩
    have := lv_sub hl2 [1, 2, 3, 4, 5, 6, 7, 8, 9, 10, 0] rfl
    simp only [mV_some, hgj 1 (by decide), hgj 2 (by decide), hgj 3 (by decide), hgj 4 (by decide), hgj 5 (by decide), hgj 6 (by decide), hgj 7 (by decide), hg0, ← hN]
    exact this
  rw [hav] at hC ⊢
  refine c_L_runs hb1 hfl G N0 N1 a1 (aG N1 a2) bs L xs y2 σ (tG τ) Q h H1 ls hC ⟨h0, ⟨g1, fun j hj => ?_, by omega⟩, hZ⟩ ⟨a1, fun _ _ => rfl, Nat.le_refl _, fun i h1 h2 => absurd h1 (by omega), ⟨wW_kept hW (fun i hi => o1 _ (wW_lt hW hi)), ⟨fun i hi => ?_, fun i j hi hj hij => ?_, fun i hi h26 => ?_⟩, rfl, fun i j hi hj => ?_⟩, ⟨by omega, fun q hq _ => o1 q hq, fun _ h => by cases h⟩⟩ hX hbs hL hN hr hlk hl3
  · by_cases hj0 : j = 0
    · rw [hj0, hg0]; exact g3
    · rw [hgj j (by omega)]; exact g2 j (by omega) hj
  · have hi : i < 8 := hi
    by_cases hi0 : i = 0
    · rw [hi0, hg0, mE_1 (n := 3) (show kdL 0 = (1, 3) from rfl)]
      rw [← hN]
      exact e1
    · rw [hgj i (by omega), mE_1 (n := 60) (by unfold kdL; rw [if_neg hi0, if_pos hi])]
      rw [show mI (tG τ) i = mI τ i from funext fun k => if_neg hi0]
      exact (hV.1 i (by omega) hi).kept (o1 _ (by have := hin2 i (by omega) hi; omega))
  · have hi : i < 8 := hi
    have hj : j < 8 := hj
    by_cases hi0 : i = 0 <;> by_cases hj0 : j = 0
    · omega
    · rw [hi0, hg0, hgj j (by omega)] at hij; have := hin2 j (by omega) hj; omega
    · rw [hj0, hg0, hgj i (by omega)] at hij; have := hin2 i (by omega) hi; omega
    · rw [hgj i (by omega), hgj j (by omega)] at hij; exact hV.2 i j (by omega) hi (by omega) hj hij
  · show i < 8
    refine Nat.not_le.mp fun q => hi ?_
    unfold kdL
    rw [if_neg (by omega), if_neg (by omega)]
  · by_cases hj0 : j = 0
    · rw [hj0, hg0]; have := hin i hi; omega
    · rw [hgj j (by omega)]; exact hd i j hi (by omega) hj
