/-! rows for the constructors: cells of a world that is being made -/
section MK
variable {p : Program} {l : Launch} {e : Env} {R : Room} {s : State} {m : MethodId} {args : Array Value} {below : List Frame} {meth : Method} {c : Code} {H : Heap} {locs : List Loc} {cells slots : Nat} {Q : State → Prop}
variable {cc : ByteArray} {pc nL : Nat} {ls : Array Slot} {rest : List Value} {own : String} {G : mG} {kd : Nat → Nat × Nat} {ad : Nat → Nat} {σ : mS}
theorem mE_kd {kd' : Nat → Nat × Nat} {i : Nat} (h : kd' i = kd i) : mE G kd' ad σ i = mE G kd ad σ i := by unfold mE; rw [h]
/-- a cell more: at the heap's end, of the kind that kd' says -/
theorem mM_add {kd' : Nat → Nat × Nat} {H1 : Heap} (hM : mM G kd ad s σ H locs) (hkd : ∀ i, i < mN σ → kd' i = kd i) (h4 : ∀ i, kd' i ≠ (0, 0) → i < 26 → (kd' 0).2 ≤ 3 → i < mN σ + 1) (he : va_at G.1 vwCl (ad (mN σ), mE G kd' ad (sN σ) (mN σ)) H1) (z1 : H1.size = H.size + 1) (o1 : ∀ q, q < H.size → H1[q]? = H[q]?) : mM G kd' ad s (sN σ) H1 locs := by
  refine ⟨⟨fun i hi => ?_, hM.1.2.1, fun j => ?_, h4⟩, ⟨Nat.le_trans hM.2.1 (by omega), fun q h1 h2 => (o1 q (Nat.lt_of_lt_of_le h1 hM.2.1)).trans (hM.2.2.1 q h1 h2), hM.2.2.2⟩⟩
  · by_cases hin : i = mN σ
    · subst hin; exact he
    · have hi' : i < mN σ := by have h9 : i < mN σ + 1 := hi; omega
      rw [mE_congr (σ := σ) (fun k => by rw [mI_sN, if_neg hin]) (fun k => by rw [mR_sN, if_neg hin]), mE_kd (hkd i hi')]
      exact (hM.1.1 i hi').kept (o1 _ (hM.1.1 i hi').lt)
  · have h9 := hM.1.2.2.1 (1 + j)
    show ad (mN σ + 1 + j) = H1.size + j
    rw [z1, Nat.add_assoc, h9]
    omega
theorem mr_newO (C : mX p s m c cc nL args own G) (hM : mM G kd ad s σ H locs) {ci : Nat} {C0 : String} {T : u_T} {N : Nat} (hc : vwCl[ci]? = some (C0, T, N)) (hin : ∀ w ∈ u_ws C0 T N, w ∈ wsL_law) (ty0 : Nat → FieldType) (hty : ∀ k, k < N → parseFieldDescriptor (T k).2.2.1 = some (ty0 k)) (hNf : N = mNf ci) {index : Nat} (hcl : Cond.classLink own index C0 ∈ wsL_law) (hins : Cond.instantiable C0 N ∈ wsL_law) (hini : Cond.initialized C0 ∈ wsL_law)
    (kd' : Nat → Nat × Nat) (hkd : ∀ i, i < mN σ → kd' i = kd i) (hkn : kd' (mN σ) = (0, ci)) (h4 : ∀ i, kd' i ≠ (0, 0) → i < 26 → (kd' 0).2 ≤ 3 → i < mN σ + 1) (hdef : ∀ k, k < N → ((mFk ci k).1 = 0 ∧ defaultValue (ty0 k) = .int 0) ∨ ((mFk ci k).1 = 1 ∧ defaultValue (ty0 k) = .null)) (hcells : cells + 1 ≤ R.cells) (hslots : slots + N ≤ R.slots) (hdg : decode cc pc = .ok (.new index, 3))
    (kk : ∀ H1 : Heap, mM G kd' ad s (sN σ) H1 locs → W p l e R s m args below meth c H1 locs (cells + 1) (slots + N) Q (F0 m (pc + 3) ls (mV ad (some (mN σ)) :: rest))) : W p l e R s m args below meth c H locs cells slots Q (F0 m pc ls rest) := by
  have hKn := C.2.1 ci _ hc
  have hsz : ad (mN σ) = H.size := hM.1.2.2.1 0
  have hts := C.1.2.2.2.2
  refine W.newcK C.1.1 C.1.2.1 C.1.2.2.2.1 (hts _ hcl) (hts _ hins) (hts _ hini) rfl hdg hcells hslots hKn.2.1 rfl fun H1 kC hkC e1 z1 o1 => ?_
  rw [← hsz] at e1 ⊢
  refine kk H1 (mM_add hM hkd h4 ?_ z1 o1)
  rw [mE_0 hkn]
  refine ⟨_, hc, (u_born ty0 hts hin hKn hkC e1 hty).to (fun j hj => ?_)⟩
  rw [mL_V (show j < mNf ci by rw [← hNf]; exact hj)]
  rcases hdef j hj with ⟨h1, h2⟩ | ⟨h1, h2⟩
  · rw [h2]
    unfold mF
    rw [h1]
    show Value.int 0 = Value.int (mI (sN σ) (mN σ) j)
    rw [mI_sN, if_pos rfl]
  · rw [h2]
    unfold mF
    rw [h1]
    show Value.null = mV ad (mR (sN σ) (mN σ) j)
    rw [mR_sN, if_pos rfl]
    rfl
theorem mr_newI (C : mX p s m c cc nL args own G) (hM : mM G kd ad s σ H locs) {n : Int32} {N : Nat} (hn : n = nI N) (hN : N < 1000) (hw : Cond.arrayClass .int ∈ wsL_law) (kd' : Nat → Nat × Nat) (hkd : ∀ i, i < mN σ → kd' i = kd i) (hkn : kd' (mN σ) = (1, N)) (h4 : ∀ i, kd' i ≠ (0, 0) → i < 26 → (kd' 0).2 ≤ 3 → i < mN σ + 1) (hcells : cells + 1 ≤ R.cells) (hslots : slots + N ≤ R.slots) (hdg : decode cc pc = .ok (.newarray .int, 2))
    (kk : ∀ H1 : Heap, mM G kd' ad s (sN σ) H1 locs → W p l e R s m args below meth c H1 locs (cells + 1) (slots + N) Q (F0 m (pc + 2) ls (mV ad (some (mN σ)) :: rest))) : W p l e R s m args below meth c H locs cells slots Q (F0 m pc ls (.int n :: rest)) := by
  subst hn
  have hsz : ad (mN σ) = H.size := hM.1.2.2.1 0
  refine va_newaK (atype := .int) (N := N) C.1.1 C.1.2.1 (C.1.2.2.2.2 _ hw) rfl hdg rfl (nI_pos (by omega)) (nI_clamp (by omega)) (by show N * 4 ≤ _; omega) hcells hslots rfl fun H1 cA e1 z1 o1 _ hNm => ?_
  have hcA : cA = G.2.1 := Option.some.inj (hNm.symm.trans (C.2.2 0 _ rfl).2)
  subst hcA
  rw [← hsz] at e1 ⊢
  refine kk H1 (mM_add hM hkd h4 ?_ z1 o1)
  rw [mE_1 hkn]
  show H1[ad (mN σ)]? = some (vp_cell _ _)
  rw [e1, vp_cell_i]
  congr 2
  funext j
  rw [mI_sN, if_pos rfl]
  rfl
theorem mr_newQ (C : mX p s m c cc nL args own G) (hM : mM G kd ad s σ H locs) {n : Int32} {N t t0 index : Nat} {C0 : String} {cA0 : ClassId} (hn : n = nI N) (hN : N < 1000) (hcl : Cond.classLink own index C0 ∈ wsL_law) (hov : va_AO C0 s) (ht : (mTys G)[t0]? = some (cA0, .object C0)) (kd' : Nat → Nat × Nat) (hkd : ∀ i, i < mN σ → kd' i = kd i) (hkn : kd' (mN σ) = (t, N)) (hE : ∀ σ : mS, ∀ i, kd' i = (t, N) → mE G kd' ad σ i = .inl (cA0, N, .inr (.inr (.inr (.inr (fun j => (mR σ i j).map ad)))))) (h4 : ∀ i, kd' i ≠ (0, 0) → i < 26 → (kd' 0).2 ≤ 3 → i < mN σ + 1) (hcells : cells + 1 ≤ R.cells) (hslots : slots + N ≤ R.slots) (hdg : decode cc pc = .ok (.anewarray index, 3))
    (kk : ∀ H1 : Heap, mM G kd' ad s (sN σ) H1 locs → W p l e R s m args below meth c H1 locs (cells + 1) (slots + N) Q (F0 m (pc + 3) ls (mV ad (some (mN σ)) :: rest))) : W p l e R s m args below meth c H locs cells slots Q (F0 m pc ls (.int n :: rest)) := by
  subst hn
  have hsz : ad (mN σ) = H.size := hM.1.2.2.1 0
  have hcl9 : (nI N).toNatClampNeg = N := nI_clamp (by omega)
  refine W.anew C.1.1 C.1.2.1 C.1.2.2.2.1 (C.1.2.2.2.2 _ hcl) (va_AO.use hov) rfl hdg rfl (nI_pos (by omega)) (by rw [hcl9]; omega) hcells (by rw [hcl9]; exact hslots) fun cA kA comp f1 f2 f3 f4 => ?_
  rw [hcl9]
  generalize hH1 : H.push ({ cls := cA, slots := Array.replicate N .null, vm := .none } : Cell) = H1
  have z1 : H1.size = H.size + 1 := by rw [← hH1, Array.size_push]
  have e1 : H1[H.size]? = some (arrV cA N (fun _ => .null)) := by rw [← hH1, Array.getElem?_push_size, ← arrV_new]
  have o1 : ∀ q : Nat, q < H.size → H1[q]? = H[q]? := fun q hq => by rw [← hH1, Array.getElem?_push, if_neg (Nat.ne_of_lt hq)]
  obtain ⟨kA', comp', g1, g2, g3, g4⟩ := (C.2.2 t0 _ ht).2
  have hcA : cA = cA0 := Option.some.inj (f1.symm.trans g4)
  subst hcA
  rw [← hsz] at e1 ⊢
  refine kk H1 (mM_add hM hkd h4 ?_ z1 o1)
  rw [hE _ _ hkn]
  show H1[ad (mN σ)]? = some (vp_cell _ _)
  rw [e1, vp_cell_q]
  congr 2
  funext j
  rw [mR_sN, if_pos rfl]
  rfl
/-- a cell that was being made is made -/
theorem mM_conv {kd' : Nat → Nat × Nat} {i ci cj : Nat} (hM : mM G kd ad s σ H locs) (hi : kd i = (0, ci)) (hj : kd' i = (0, cj)) (hkd : ∀ j, j < mN σ → j ≠ i → kd' j = kd j) (h4 : ∀ i, kd' i ≠ (0, 0) → i < 26 → (kd' 0).2 ≤ 3 → i < mN σ) (hG : G.1.1 cj = G.1.1 ci ∧ G.1.2 cj = G.1.2 ci) (hcl : vwCl[cj]? = vwCl[ci]?) (hL : mL ad σ i cj = mL ad σ i ci) : mM G kd' ad s σ H locs := by
  refine ⟨⟨fun j hjn => ?_, hM.1.2.1, hM.1.2.2.1, h4⟩, hM.2⟩
  by_cases hji : j = i
  · subst hji
    have h := hM.1.1 j hjn
    rw [mE_0 hi] at h
    rw [mE_0 hj, hL]
    obtain ⟨r, h1, h2⟩ := h
    refine ⟨r, by rw [hcl]; exact h1, ?_⟩
    show t_OB _ (G.1.1 cj) _ (G.1.2 cj) _ _
    rw [hG.1, hG.2]
    exact h2
  · rw [mE_kd (hkd j hjn hji)]
    exact hM.1.1 j hjn
end MK
