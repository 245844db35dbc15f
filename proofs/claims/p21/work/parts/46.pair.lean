/-! TWO WORLDS: the class's cells and the law's rows, each where it lies -/
def wW (G : mG) (kd : Nat → Nat × Nat) (a : Nat → Nat) (σ : mS) (H : Heap) : Prop := (∀ i, i < mN σ → va_at G.1 vwCl (a i, mE G kd a σ i) H) ∧ (∀ i j, i < mN σ → j < mN σ → a i = a j → i = j) ∧ ∀ i, kd i ≠ (0, 0) → i < 26 → i < mN σ
/-- the references of a store lie in it -/
def mRok (kd : Nat → Nat × Nat) (σ : mS) : Prop := (∀ i k j, i < mN σ → mR σ i k = some j → j < mN σ) ∧ ∀ i ci k, i < mN σ → kd i = (0, ci) → (mFk ci k).1 ≠ 0 → (mFk ci k).1 ≠ 1 → i + (mFk ci k).2 < mN σ
theorem mV_at {a a' : Nat → Nat} {n : Nat} (h : ∀ j, j < n → a' j = a j) {r : Option Nat} (hr : ∀ j, r = some j → j < n) : r.map a' = r.map a := by
  cases r with
  | none => rfl
  | some j => rw [Option.map_some, Option.map_some, h j (hr j rfl)]
theorem mE_at {G : mG} {kd : Nat → Nat × Nat} {a a' : Nat → Nat} {σ : mS} (hR : mRok kd σ) (h : ∀ j, j < mN σ → a' j = a j) {i : Nat} (hi : i < mN σ) : mE G kd a' σ i = mE G kd a σ i := by
  have hq : (fun j => (mR σ i j).map a') = fun j => (mR σ i j).map a := funext fun k => mV_at h (fun j => hR.1 i k j hi)
  have hL : (kd i).1 = 0 → mL a' σ i (kd i).2 = mL a σ i (kd i).2 := fun h0 => List.map_congr_left (fun k _ => by
    unfold mF
    split
    · rfl
    · exact congrArg va_rf (mV_at h (fun j => hR.1 i k j hi))
    · next h1 h2 => rw [h _ (hR.2 i _ k hi (by rw [← h0]) h1 h2)])
  unfold mE
  rw [hq]
  split
  · next h0 => rw [hL h0]
  · rfl
  · rfl
  · rfl
  · rfl
theorem wW_lt {G : mG} {kd : Nat → Nat × Nat} {a : Nat → Nat} {σ : mS} {H : Heap} (h : wW G kd a σ H) {i : Nat} (hi : i < mN σ) : a i < H.size := (h.1 i hi).lt
/-- the numbers beyond the world are put on the heap's next places -/
theorem wW_base {G : mG} {kd : Nat → Nat × Nat} {a : Nat → Nat} {σ : mS} {H : Heap} (h : wW G kd a σ H) (hR : mRok kd σ) : ∃ a' : Nat → Nat, (∀ i, i < mN σ → a' i = a i) ∧ mP G kd a' σ H ∧ ∀ i, mN σ ≤ i → H.size ≤ a' i := by
  obtain ⟨a', ha⟩ : ∃ a' : Nat → Nat, a' = fun i => if i < mN σ then a i else H.size + (i - mN σ) := ⟨_, rfl⟩
  have h1 : ∀ i, i < mN σ → a' i = a i := fun i hi => by rw [ha]; exact if_pos hi
  have h2 : ∀ i, ¬ i < mN σ → a' i = H.size + (i - mN σ) := fun i hi => by rw [ha]; exact if_neg hi
  refine ⟨a', h1, ⟨fun i hi => ?_, fun i j hij => ?_, fun j => ?_, fun i hk hi _ => h.2.2 i hk hi⟩, fun i hi => by rw [h2 i (Nat.not_lt.mpr hi)]; omega⟩
  · rw [mE_at hR h1 hi, h1 i hi]; exact h.1 i hi
  · by_cases hi : i < mN σ <;> by_cases hj : j < mN σ
    · rw [h1 i hi, h1 j hj] at hij; exact h.2.1 i j hi hj hij
    · rw [h1 i hi, h2 j hj] at hij; have := wW_lt h hi; omega
    · rw [h2 i hi, h1 j hj] at hij; have := wW_lt h hj; omega
    · rw [h2 i hi, h2 j hj] at hij; omega
  · rw [h2 _ (by omega)]; omega
theorem wW_kept {G : mG} {kd : Nat → Nat × Nat} {a : Nat → Nat} {σ : mS} {H H1 : Heap} (h : wW G kd a σ H) (hk : ∀ i, i < mN σ → H1[a i]? = H[a i]?) : wW G kd a σ H1 := ⟨fun i hi => (h.1 i hi).kept (hk i hi), h.2⟩
theorem wW_ofP {G : mG} {kd : Nat → Nat × Nat} {a : Nat → Nat} {σ : mS} {H : Heap} (h : mP G kd a σ H) (h3 : (kd 0).2 ≤ 3) : wW G kd a σ H := ⟨h.1, fun i j _ _ e => h.2.1 i j e, fun i h1 h2 => h.2.2.2 i h1 h2 h3⟩
def pD (G : mG) (a1 a2 : Nat → Nat) (σ τ : mS) (H : Heap) : Prop := wW G kdC a1 σ H ∧ wW G kdL a2 τ H ∧ mN τ = 8 ∧ ∀ i j, i < mN σ → j < 8 → a1 i ≠ a2 j
def pA (a1 a2 : Nat → Nat) (n1 N1 : Nat) : Nat → Prop := fun q => (∃ i, i < n1 ∧ a1 i = q) ∨ (∃ j, j < 8 ∧ a2 j = q) ∨ N1 ≤ q
def pZ (N0 : Nat) (U : State) : Prop := vx_Zq Bundle.tN "UNASSIGNED_STACK" Bundle.steD (fun q => N0 ≤ q) U U.heap ∧ vx_Zq Bundle.tN "SUPPRESSED_SENTINEL" Bundle.listD (fun q => N0 ≤ q) U U.heap ∧ (∀ w ∈ mNw, va_Nw w U) ∧ (∀ q ∈ mStr, ∃ a, vk_R RX2 q.1 q.2 a U) ∧ mNcs U
def pPre (G : mG) (N0 N1 : Nat) (a1 a2 : Nat → Nat) (σ τ : mS) : State → Prop := fun U => U.heap.size = N1 ∧ pD G a1 a2 σ τ U.heap ∧ ((∀ i, i < mN σ → N0 ≤ a1 i) ∧ (∀ j, j < 8 → N0 ≤ a2 j) ∧ N0 ≤ N1) ∧ va_K G.1 vwCl (mTys G) U ∧ pZ N0 U
def pPost (G : mG) (N1 : Nat) (a1 a2 : Nat → Nat) (n1 : Nat) : mS × mS → State → Prop := fun q t => ∃ a : Nat → Nat, (∀ i, i < n1 → a i = a1 i) ∧ n1 ≤ mN q.1 ∧ (∀ i, n1 ≤ i → i < mN q.1 → N1 ≤ a i) ∧ pD G a a2 q.1 q.2 t.heap
def pE (N0 : Nat) (a1 a2 : Nat → Nat) (n1 : Nat) (s : State) : Prop := 0 < n1 ∧ ((∀ i, i < n1 → N0 ≤ a1 i) ∧ (∀ j, j < 8 → N0 ≤ a2 j) ∧ N0 ≤ s.heap.size) ∧ pZ N0 s
def pM (G : mG) (a1 a2 : Nat → Nat) (n1 : Nat) (s : State) (σ τ : mS) (H : Heap) (locs : List Loc) : Prop := ∃ a : Nat → Nat, (∀ i, i < n1 → a i = a1 i) ∧ n1 ≤ mN σ ∧ (∀ i, n1 ≤ i → i < mN σ → s.heap.size ≤ a i) ∧ pD G a a2 σ τ H ∧ va_S (pA a1 a2 n1 s.heap.size) s.heap H locs
theorem pZ.blind {N0 : Nat} {U : State} {a : Array Value} {g : JFrame} {mk : MethodId} (q : pZ N0 U) : pZ N0 (U.calling g mk a) :=
  ⟨q.1.moved (u := U) (U := U.calling g mk a) (Vm.Alike.refl U.vm), q.2.1.moved (u := U) (U := U.calling g mk a) (Vm.Alike.refl U.vm), fun x hx => va_Nw.same (mNw_on x hx) (u := U) (U := U.calling g mk a) rfl (q.2.2.1 x hx), fun z hz => by
    obtain ⟨b, hb⟩ := q.2.2.2.1 z hz
    exact ⟨b, vk_R.same (u := U) (U := U.calling g mk a) rfl hb⟩, q.2.2.2.2.1.moved (u := U) (U := U.calling g mk a) (Vm.Alike.refl U.vm), q.2.2.2.2.2.1.moved (u := U) (U := U.calling g mk a) (Vm.Alike.refl U.vm), q.2.2.2.2.2.2.moved (u := U) (U := U.calling g mk a) (Vm.Alike.refl U.vm)⟩
theorem pPre.blind (G : mG) (N0 N1 : Nat) (a1 a2 : Nat → Nat) (σ τ : mS) (av : List Value) : FrameBlind (va_Pc av (pPre G N0 N1 a1 a2 σ τ)) := fun _ U _ _ q =>
  ⟨q.1, q.2.1, q.2.2.1, q.2.2.2.1, va_K.moved (Vm.Alike.refl U.vm) q.2.2.2.2.1, q.2.2.2.2.2.blind⟩
/-- what a throw needs of the start, later on -/
theorem pZ.at {N0 : Nat} {s U : State} {H : Heap} (Z : pZ N0 s) (hk : ∀ q, q < s.heap.size → q < N0 → H[q]? = s.heap[q]?) (hU : U.heap = H) (hW : s.WarmedH U.vm) : pZ N0 U := by
  obtain ⟨z1, z2, z3, z4, z5, z6, z7⟩ := Z
  refine ⟨?_, ?_, mNw_warm hW z3, fun q hq => ?_, z5.moved hW.alike, z6.moved hW.alike, z7.moved hW.alike⟩
  · rw [hU]; exact (z1.kept (fun a h1 ha => hk a h1 (Nat.not_le.mp ha))).moved hW.alike
  · rw [hU]; exact (z2.kept (fun a h1 ha => hk a h1 (Nat.not_le.mp ha))).moved hW.alike
  · obtain ⟨a, ha⟩ := z4 q hq
    exact ⟨a, ha.warm hW⟩
theorem pZ.mz {N0 : Nat} {U : State} {ad : Nat → Nat} (Z : pZ N0 U) (h : ∀ i, N0 ≤ ad i) : mZ ad U U.heap :=
  ⟨Z.1.narrow (fun q ⟨i, hi⟩ => by rw [← hi]; exact h i), Z.2.1.narrow (fun q ⟨i, hi⟩ => by rw [← hi]; exact h i), Z.2.2.1, Z.2.2.2.1⟩
theorem kdL_8 {i : Nat} (h : i < 8) : kdL i ≠ (0, 0) := by
  unfold kdL
  by_cases h0 : i = 0
  · rw [if_pos h0]; simp
  · rw [if_neg h0, if_pos h]; simp
theorem kdL_k {i : Nat} (h : i < 8) : ∃ n, kdL i = (1, n) := by
  unfold kdL
  by_cases h0 : i = 0
  · rw [if_pos h0]; exact ⟨_, rfl⟩
  · rw [if_neg h0, if_pos h]; exact ⟨_, rfl⟩
theorem mE_L {G : mG} {a a' : Nat → Nat} {τ : mS} {i : Nat} (h : i < 8) : mE G kdL a τ i = mE G kdL a' τ i := by
  obtain ⟨n, e⟩ := kdL_k h
  rw [mE_1 e, mE_1 e]
/-- the law's rows, as a store of their own -/
theorem wL_base {G : mG} {a : Nat → Nat} {τ : mS} {H : Heap} (h : wW G kdL a τ H) (h8 : mN τ = 8) : ∃ a' : Nat → Nat, (∀ i, i < 8 → a' i = a i) ∧ mP G kdL a' τ H ∧ ∀ i, 8 ≤ i → H.size ≤ a' i := by
  obtain ⟨a', ha⟩ : ∃ a' : Nat → Nat, a' = fun i => if i < 8 then a i else H.size + (i - 8) := ⟨_, rfl⟩
  have h1 : ∀ i, i < 8 → a' i = a i := fun i hi => by rw [ha]; exact if_pos hi
  have h2 : ∀ i, ¬ i < 8 → a' i = H.size + (i - 8) := fun i hi => by rw [ha]; exact if_neg hi
  refine ⟨a', h1, ⟨fun i hi => ?_, fun i j hij => ?_, fun j => ?_, fun i hk hi _ => h.2.2 i hk hi⟩, fun i hi => by rw [h2 i (Nat.not_lt.mpr hi)]; omega⟩
  · rw [h1 i (by omega), mE_L (a' := a) (by omega)]; exact h.1 i hi
  · by_cases hi : i < 8 <;> by_cases hj : j < 8
    · rw [h1 i hi, h1 j hj] at hij; exact h.2.1 i j (by omega) (by omega) hij
    · rw [h1 i hi, h2 j hj] at hij; have := wW_lt h (i := i) (by omega); omega
    · rw [h2 i hi, h1 j hj] at hij; have := wW_lt h (i := j) (by omega); omega
    · rw [h2 i hi, h2 j hj] at hij; omega
  · rw [h8, h2 _ (by omega)]; omega
def mCl (idx : Nat) (y : MethodName) (cc : ByteArray) (ml : Nat) (hh : List (Nat × Nat × Nat × Nat)) : Prop := Cond.methodLink RL idx y ∈ wsL_law ∧ Cond.static y ∈ wsL_law ∧ Cond.initialized y.cls ∈ wsL_law ∧ Cond.codeWith y cc ml (some .int) hh ∈ wsL_law
theorem mCl.good {idx ml : Nat} {y : MethodName} {cc : ByteArray} {hh : List (Nat × Nat × Nat × Nat)} (h : mCl idx y cc ml hh) : GoodIn wsL_law (va_wsS RL idx y (mWL y cc ml hh)) := by
  obtain ⟨h1, h2, h3, h4⟩ := h
  intro w hw
  have : w ∈ wsL_law := by
    unfold va_wsS mWL at hw
    simp only [List.cons_append, List.nil_append, List.mem_cons] at hw
    rcases hw with rfl | rfl | rfl | rfl | hw
    · exact h1
    · exact h2
    · exact h3
    · exact h4
    · exact hw
  exact ⟨this, m_good w this⟩
section PR
variable {p : Program} {l : Launch} {e : Env} {R : Room} {s : State} {m : MethodId} {args : Array Value} {below : List Frame} {meth : Method} {c : Code} {H : Heap} {locs : List Loc} {cells slots u k b fr lo : Nat} {Q : State → Prop}
variable {cc bytes : ByteArray} {pc nL maxL f2 l2 index n n1 N0 N1 : Nat} {ls : Array Slot} {rest st Is : List Value} {own : String} {G : mG} {a1 a2 : Nat → Nat} {σ τ : mS} {y : MethodName} {hh : List (Nat × Nat × Nat × Nat)} {Qc : Array Value → State → Outcome → State → Prop}
theorem pr_start {ml : Nat} {ret : Option FieldType} {av : List Value} {lst : List (Nat × Value)} (hy : plainName y.cls = true) (hcat : ∀ v ∈ av, v.category = 1) (hav : lv_ix 0 av = lst) (hlen : av.length ≤ ml)
    (body : ∀ (p : Program) (e : Env) (s : State) (m : MethodId) (below : List Frame) (meth : Method) (c : Code), mX p s m c cc ml av.toArray y.cls G → pE N0 a1 a2 (mN σ) s → pM G a1 a2 (mN σ) s σ τ s.heap [] → s.heap.size = N1 → meth.sig.returnType = ret → meth.locks = false → ∀ ls : Array Slot, ml_has ls ml lst → W p l e (mRb fr lo b) s m av.toArray below meth c s.heap [] 0 (18 * 0) (MQ below Qc av.toArray s b (18 * b) (pA a1 a2 (mN σ) N1)) (F0 m 0 ls [])) :
    Met l y (mWs y cc ml ret) (mRb fr lo b) (va_Pc av (pPre G N0 N1 a1 a2 σ τ)) Qc b (18 * b) (pA a1 a2 (mN σ) N1) := by
  refine Met.ofW (cc := cc) (maxL := ml) (ret := ret) hy rfl ?_
  intro p e s m args below meth c s₁ B hml hv
  obtain ⟨rfl, hN, hD, ⟨g1, g2, g3⟩, hK, hZ⟩ := hv
  have hts := atoms_spec (ws := mWs y cc ml ret) B.pre
  have hown : s.vm.findClass y.cls = some m.cls := findClass_of_methodNamed B.named
  have hl := lv_entry av (n := ml) (by rw [lg_sl_len av hcat]; exact hlen)
  rw [lv_ix_eq av 0 hcat, hav] at hl
  rw [lg_entry_eq]
  have h0 : 0 < mN σ := hD.1.2.2 0 (by decide) (by decide)
  exact body p e s m below meth c ⟨⟨B.exec, B.bytes, hml, hown, fun w hw => hts w (List.mem_cons_of_mem _ hw)⟩, hK⟩ ⟨h0, ⟨g1, g2, by rw [hN]; exact g3⟩, hZ⟩ ⟨a1, fun _ _ => rfl, Nat.le_refl _, fun i h1 h2 => absurd h1 (Nat.not_le.mpr h2), hD, va_S.rf⟩ hN B.returns B.notSynchronized _ ⟨hl, by rw [← hav]; exact lv_ix_cat av 0 hcat⟩
theorem pr_zret (C : mX p s m c cc nL args own G) (hM : pM G a1 a2 n1 s σ τ H locs) (hN : s.heap.size = N1) {Q : Int32 → mS → mS → Prop} {v : Int32} (hr : meth.sig.returnType = some .boolean) (hlk : meth.locks = false) (hn : narrow .boolean (.int v) = .int v) (h : Q v σ τ) (hdg : decode cc pc = .ok (.ireturn, 1)) : W p l e R s m args below meth c H locs cells slots (MQ below (va_Qi (fun r (q : mS × mS) => Q r q.1 q.2 ∧ narrow .boolean (.int r) = .int r) (pPost G N1 a1 a2 n1) (pA a1 a2 n1 N1)) args s cells slots (pA a1 a2 n1 N1)) (F0 m pc ls [.int v]) := by
  subst hN
  obtain ⟨a, h1, h2, h3, hD, hS⟩ := hM
  exact W.zret C.1.1 C.1.2.1 hr hn (fun t ht _ => ⟨⟨v, (σ, τ), rfl, ⟨h, hn⟩, a, h1, h2, h3, by show pD G a a2 σ τ t.heap; rw [ht]; exact hD⟩, hS.F ht⟩) hS.2.2 hdg hlk
theorem pr_iald (C : mX p s m c cc nL args own G) (hM : pM G a1 a2 n1 s σ τ H locs) {i j : Nat} (hk : kdL i = (1, n)) (hi : i < 8) {x : Int32} (hx1 : x = nI j) (hj : j < n) (hn : n < 2 ^ 31) (hdg : decode cc pc = .ok (.iaload, 1))
    (kk : W p l e R s m args below meth c H locs cells slots Q (F0 m (pc + 1) ls (.int (mI τ i j) :: rest))) : W p l e R s m args below meth c H locs cells slots Q (F0 m pc ls (.int x :: mV a2 (some i) :: rest)) := by
  subst hx1
  obtain ⟨a, h1, h2, h3, ⟨hW1, hW2, h8, hd⟩, hS⟩ := hM
  have h0 : va_at G.1 vwCl (a2 i, .inl (G.2.1, n, .inl (mI τ i))) H := by rw [← mE_1 (ad := a2) hk]; exact hW2.1 i (by omega)
  have hP : va_P G.1 vwCl [(a2 i, .inl (G.2.1, n, .inl (mI τ i)))] H := fun j q hq => by
    cases j with
    | zero => cases hq; exact h0
    | succ j => simp at hq
  refine va_iald C.1.1 C.1.2.1 C.2 hP 0 0 rfl rfl (vp_in_nI hj hn) hdg ?_
  rw [nI_clamp (by omega)]
  exact kk
theorem pr_iast (C : mX p s m c cc nL args own G) (hM : pM G a1 a2 n1 s σ τ H locs) {i j : Nat} (hk : kdL i = (1, n)) (hi : i < 8) {x v : Int32} (hx1 : x = nI j) (hj : j < n) (hn : n < 2 ^ 31) (hdg : decode cc pc = .ok (.iastore, 1))
    (kk : ∀ (H1 : Heap) (locs1 : List Loc), pM G a1 a2 n1 s σ (sI τ i j v) H1 locs1 → W p l e R s m args below meth c H1 locs1 cells slots Q (F0 m (pc + 1) ls rest)) : W p l e R s m args below meth c H locs cells slots Q (F0 m pc ls (.int v :: .int x :: mV a2 (some i) :: rest)) := by
  subst hx1
  obtain ⟨a, h1, h2, h3, ⟨hW1, hW2, h8, hd⟩, hS⟩ := hM
  have h0 : va_at G.1 vwCl (a2 i, .inl (G.2.1, n, .inl (mI τ i))) H := by rw [← mE_1 (ad := a2) hk]; exact hW2.1 i (by omega)
  have hc : (nI j).toNatClampNeg = j := nI_clamp (by omega)
  refine W.iast C.1.1 C.1.2.1 h0 ((C.2.2 0 _ rfl).1 n (fun j => .int (mI τ i j))) (fun q => by cases q) (by show ¬ (nI j < 0 ∨ (arrV _ _ _).slots.size ≤ _); rw [arrV_size]; exact vp_in_nI hj hn) rfl rfl hdg fun H1 e z oq => ?_
  rw [hc] at e ⊢
  refine kk H1 _ ⟨a, h1, h2, h3, ⟨wW_kept hW1 (fun q hq => oq _ (hd q i hq hi)), ⟨fun q hq => ?_, hW2.2.1, hW2.2.2⟩, h8, hd⟩, hS.put z oq (Or.inr (Or.inl ⟨i, hi, rfl⟩))⟩
  by_cases hqi : q = i
  · subst hqi
    rw [mE_1 hk]
    show H1[a2 q]? = some (vp_cell _ _)
    rw [e, vp_cell_i, vp_cell_i, arrV_store]
    congr 2
    funext w
    by_cases hw : w = j
    · subst hw
      simp [updV, mI_sI]
    · simp [updV, mI_sI, hw]
  · have hne : a2 q ≠ a2 i := fun w => hqi (hW2.2.1 q i hq (by omega) w)
    rw [mE_congr (σ := τ) (fun w => mI_off q w (fun x => hqi x.1)) (fun w => rfl)]
    exact (hW2.1 q hq).kept (oq _ hne)
/-- a call of a method of the law's own rows -/
theorem pr_lgo {As : (Nat → Nat) → List Value} {ret : Option FieldType} (C : mX p s m c cc nL args RL G) (hM : pM G a1 a2 n1 s σ τ H locs) (hAs : ∀ ad : Nat → Nat, (∀ i, i < 8 → ad i = a2 i) → As ad = As a2) (hl : ls.size = nL) (hg : mCs RL index y bytes maxL ret)
    {Qa : (Nat → Nat) → Array Value → State → Outcome → State → Prop} (hc : ∀ ad : Nat → Nat, Met l y (mWs y bytes maxL ret) (mRm f2 l2) (va_Pc (As ad) (mPre G kdL ad τ)) (Qa ad) 0 0 (mA ad))
    (hd : y.cls = RL ∧ y.cls ≠ "java/lang/invoke/MethodHandle" ∧ y.cls ≠ "java/lang/invoke/VarHandle" ∧ (parseMethodDescriptor y.desc).map (fun d => d.parameters.length) = some n) (hn : (As a2).length = n) (hst : st = (As a2).reverse ++ rest) (hR : f2 + 1 ≤ R.frames ∧ 8 + (maxL + 11) + l2 ≤ R.locals) (hw : ∀ v ∈ rest, v.category = 1) (hw8 : rest.length ≤ 8) (hdg : decode cc pc = .ok (.invokestatic index, 3)) (hf : cells ≤ R.cells ∧ slots ≤ R.slots) :
    ∃ (ad : Nat → Nat) (av : Array Value), va_Run p l e R s m args below meth c H locs cells slots 0 0 (F0 m pc ls st) rest (Qa ad av) (mA ad) ∧ (∀ q, q < H.size → mA ad q → pA a1 a2 n1 s.heap.size q) ∧ (∀ q, mA ad q → pA a1 a2 n1 s.heap.size q) ∧
      (∀ (τ' : mS) (H1 : Heap) (locs1 : List Loc), mN τ' = 8 → mP G kdL ad τ' H1 → (∀ q : Nat, q < H.size → ¬ mA ad q → H1[q]? = H[q]?) → va_S (pA a1 a2 n1 s.heap.size) s.heap H1 locs1 → pM G a1 a2 n1 s σ τ' H1 locs1) ∧ va_S (pA a1 a2 n1 s.heap.size) s.heap H locs := by
  obtain ⟨a, h1, h2, h3, ⟨hW1, hW2, h8, hdj⟩, hS⟩ := hM
  obtain ⟨ad, e1, hP, hge⟩ := wL_base hW2 h8
  have hAe := hAs ad e1
  have hfr : ∀ q, mA ad q → pA a1 a2 n1 s.heap.size q := fun q ⟨i, hi⟩ => by
    by_cases h : i < 8
    · exact Or.inr (Or.inl ⟨i, h, by rw [← e1 i h]; exact hi⟩)
    · refine Or.inr (Or.inr ?_)
      have := hge i (Nat.not_lt.mp h); have := hS.1; omega
  subst hn
  refine ⟨ad, (As ad).toArray, va_runS (As := As ad) (rest := rest) C.1 (hc ad) (cwS (As a2).length C.1.2.2.2.2 hg.good rfl rfl rfl hd hR) ⟨mPre.blind _ _ _ _ _, fun U hU hW => ⟨rfl, by rw [hU]; exact hP, va_K.moved hW.alike C.2⟩⟩ rfl (by rw [hAe]) hl (by rw [hAe]; exact hst) (lv_room (pc := pc) (ls := ls) (rest := st) (m_wt hw hw8)) hdg hf, fun q _ h => hfr q h, hfr, fun τ' H1 locs1 h8' hP' hk hS' => ?_, hS⟩
  refine ⟨a, h1, h2, h3, ⟨wW_kept hW1 (fun i hi => hk _ (wW_lt hW1 hi) (fun ⟨q, hq⟩ => ?_)), ⟨fun i hi => ?_, fun i j hi hj hij => hP'.2.1 i j (by rw [e1 i (by omega), e1 j (by omega)]; exact hij), fun i hk hi => hP'.2.2.2 i hk hi (by decide)⟩, h8', hdj⟩, hS'⟩
  · by_cases h : q < 8
    · exact hdj i q hi h (by rw [← e1 q h]; exact hq.symm)
    · have := hge q (Nat.not_lt.mp h); have := wW_lt hW1 hi; omega
  · rw [← e1 i (by omega), mE_L (a' := ad) (by omega)]; exact hP'.1 i hi
theorem pr_li {Qi : Int32 → mS → Prop} {As : (Nat → Nat) → List Value} {ret : Option FieldType} (C : mX p s m c cc nL args RL G) (hM : pM G a1 a2 n1 s σ τ H locs) (hAs : ∀ ad : Nat → Nat, (∀ i, i < 8 → ad i = a2 i) → As ad = As a2) (hl : ls.size = nL) (hg : mCs RL index y bytes maxL ret)
    (hc : ∀ ad : Nat → Nat, Met l y (mWs y bytes maxL ret) (mRm f2 l2) (va_Pc (As ad) (mPre G kdL ad τ)) (va_Qi Qi (mPost G kdL ad) (mA ad)) 0 0 (mA ad)) (hmo : ∀ r τ', Qi r τ' → mN τ' = 8)
    (hd : y.cls = RL ∧ y.cls ≠ "java/lang/invoke/MethodHandle" ∧ y.cls ≠ "java/lang/invoke/VarHandle" ∧ (parseMethodDescriptor y.desc).map (fun d => d.parameters.length) = some n) (hn : (As a2).length = n) (hst : st = (As a2).reverse ++ rest) (hR : f2 + 1 ≤ R.frames ∧ 8 + (maxL + 11) + l2 ≤ R.locals) (hw : ∀ v ∈ rest, v.category = 1) (hw8 : rest.length ≤ 8) (hdg : decode cc pc = .ok (.invokestatic index, 3)) (hf : cells ≤ R.cells ∧ slots ≤ R.slots)
    (kk : ∀ (r : Int32) (τ' : mS) (H1 : Heap) (locs1 : List Loc), Qi r τ' → pM G a1 a2 n1 s σ τ' H1 locs1 → W p l e R s m args below meth c H1 locs1 cells slots Q (F0 m (pc + 3) ls (.int r :: rest))) : W p l e R s m args below meth c H locs cells slots Q (F0 m pc ls st) := by
  obtain ⟨ad, av, hrun, x1, x2, x3, hS⟩ := pr_lgo (Qa := fun ad => va_Qi Qi (mPost G kdL ad) (mA ad)) C hM hAs hl hg hc hd hn hst hR hw hw8 hdg hf
  exact va_calli hrun hS x1 x2 (fun r v t H1 locs1 ht hvm hw hB hz1 hk1 hS1 => kk r v H1 locs1 hw (x3 v H1 locs1 (hmo _ _ hw) (by rw [← ht]; exact hB) hk1 hS1))
theorem pr_lv {Qv : mS → Prop} {As : (Nat → Nat) → List Value} {ret : Option FieldType} (C : mX p s m c cc nL args RL G) (hM : pM G a1 a2 n1 s σ τ H locs) (hAs : ∀ ad : Nat → Nat, (∀ i, i < 8 → ad i = a2 i) → As ad = As a2) (hl : ls.size = nL) (hg : mCs RL index y bytes maxL ret)
    (hc : ∀ ad : Nat → Nat, Met l y (mWs y bytes maxL ret) (mRm f2 l2) (va_Pc (As ad) (mPre G kdL ad τ)) (va_Qv Qv (mPost G kdL ad) (mA ad)) 0 0 (mA ad)) (hmo : ∀ τ', Qv τ' → mN τ' = 8)
    (hd : y.cls = RL ∧ y.cls ≠ "java/lang/invoke/MethodHandle" ∧ y.cls ≠ "java/lang/invoke/VarHandle" ∧ (parseMethodDescriptor y.desc).map (fun d => d.parameters.length) = some n) (hn : (As a2).length = n) (hst : st = (As a2).reverse ++ rest) (hR : f2 + 1 ≤ R.frames ∧ 8 + (maxL + 11) + l2 ≤ R.locals) (hw : ∀ v ∈ rest, v.category = 1) (hw8 : rest.length ≤ 8) (hdg : decode cc pc = .ok (.invokestatic index, 3)) (hf : cells ≤ R.cells ∧ slots ≤ R.slots)
    (kk : ∀ (τ' : mS) (H1 : Heap) (locs1 : List Loc), Qv τ' → pM G a1 a2 n1 s σ τ' H1 locs1 → W p l e R s m args below meth c H1 locs1 cells slots Q (F0 m (pc + 3) ls rest)) : W p l e R s m args below meth c H locs cells slots Q (F0 m pc ls st) := by
  obtain ⟨ad, av, hrun, x1, x2, x3, hS⟩ := pr_lgo (Qa := fun ad => va_Qv Qv (mPost G kdL ad) (mA ad)) C hM hAs hl hg hc hd hn hst hR hw hw8 hdg hf
  exact va_callv hrun hS x1 x2 (fun v t H1 locs1 ht hvm hw hB hz1 hk1 hS1 => kk v H1 locs1 hw (x3 v H1 locs1 (hmo _ hw) (by rw [← ht]; exact hB) hk1 hS1))
/-- the class's world as a store of its own, and what comes back -/
theorem pr_cls (E : pE N0 a1 a2 n1 s) (hM : pM G a1 a2 n1 s σ τ H locs) (hRk : mRok kdC σ) : ∃ ad : Nat → Nat, ad 0 = a1 0 ∧ mP G kdC ad σ H ∧ (∀ i, N0 ≤ ad i) ∧ (∀ q, mA ad q → pA a1 a2 n1 s.heap.size q) ∧ (∀ q, q < s.heap.size → q < N0 → H[q]? = s.heap[q]?) ∧
      (∀ (σ' : mS) (H1 : Heap) (locs1 : List Loc), mN σ ≤ mN σ' → mPw G ad σ' H1 → H.size ≤ H1.size → (∀ q : Nat, q < H.size → ¬ mA ad q → H1[q]? = H[q]?) → va_S (pA a1 a2 n1 s.heap.size) s.heap H1 locs1 → pM G a1 a2 n1 s σ' τ H1 locs1) ∧ va_S (pA a1 a2 n1 s.heap.size) s.heap H locs := by
  obtain ⟨a, h1, h2, h3, ⟨hW1, hW2, h8, hdj⟩, hS⟩ := hM
  obtain ⟨ad, e1, hP, hge⟩ := wW_base hW1 hRk
  obtain ⟨E0, ⟨E1, E2, E3⟩, -⟩ := E
  have hs := hS.1
  have had : ∀ i, (i < n1 ∧ ad i = a1 i) ∨ s.heap.size ≤ ad i := fun i => by
    by_cases hi : i < n1
    · exact Or.inl ⟨hi, by rw [e1 i (by omega), h1 i hi]⟩
    · refine Or.inr ?_
      by_cases hi2 : i < mN σ
      · rw [e1 i hi2]; exact h3 i (Nat.not_lt.mp hi) hi2
      · have := hge i (Nat.not_lt.mp hi2); omega
  refine ⟨ad, by rw [e1 0 (by omega), h1 0 E0], hP, fun i => ?_, fun q ⟨i, hi⟩ => ?_, fun q hq hq0 => hS.2.1 q hq (fun h => ?_), fun σ' H1 locs1 hmo hP' hz hk hS' => ?_, hS⟩
  · rcases had i with ⟨g1, g2⟩ | g
    · rw [g2]; exact E1 i g1
    · omega
  · rcases had i with ⟨g1, g2⟩ | g
    · exact Or.inl ⟨i, g1, by rw [← g2]; exact hi⟩
    · exact Or.inr (Or.inr (by omega))
  · rcases h with ⟨i, g1, g2⟩ | ⟨j, g1, g2⟩ | g
    · have := E1 i g1; omega
    · have := E2 j g1; omega
    · omega
  · have hnot : ∀ j, j < 8 → ¬ mA ad (a2 j) := fun j hj ⟨i, hi⟩ => by
      by_cases hin : i < mN σ
      · rw [e1 i hin] at hi; exact hdj i j hin hj hi
      · have h5 := hge i (Nat.not_lt.mp hin); have h6 := wW_lt hW2 (i := j) (by omega); omega
    refine ⟨ad, fun i hi => by rw [e1 i (by omega), h1 i hi], by omega, fun i g1 g2 => ?_, ⟨⟨hP'.1, fun i j _ _ e => hP'.2.1 i j e, hP'.2.2⟩, wW_kept hW2 (fun j hj => hk _ (wW_lt hW2 hj) (hnot j (by omega))), h8, fun i j hi hj h => hnot j hj ⟨i, h⟩⟩, hS'⟩
    rcases had i with ⟨w1, w2⟩ | w
    · omega
    · exact w
theorem pr_wi {Qi : Int32 → mS → Prop} (C : mX p s m c cc nL args RL G) (E : pE N0 a1 a2 n1 s) (hM : pM G a1 a2 n1 s σ τ H locs) (hRk : mRok kdC σ) (hl : ls.size = nL) (hg : mCl index y bytes maxL hh)
    (hc : ∀ ad : Nat → Nat, Met l y (mWL y bytes maxL hh) (mRb f2 l2 k) (va_Pc (mV ad (some 0) :: Is) (mPreN G ad σ)) (va_Qi Qi (mPostN G ad) (mA ad)) k (18 * k) (mA ad)) (hmo : ∀ r σ', Qi r σ' → mN σ ≤ mN σ')
    (hd : y.cls ≠ "java/lang/invoke/MethodHandle" ∧ y.cls ≠ "java/lang/invoke/VarHandle" ∧ (parseMethodDescriptor y.desc).map (fun d => d.parameters.length) = some n) (hn : Is.length + 1 = n) (hst : st = (mV a1 (some 0) :: Is).reverse ++ rest) (hR : f2 + 1 ≤ fr ∧ 8 + (maxL + 11) + l2 ≤ lo) (hw : ∀ v ∈ rest, v.category = 1) (hw8 : rest.length ≤ 8) (hdg : decode cc pc = .ok (.invokestatic index, 3)) (hf : u + k ≤ b)
    (kk : ∀ (r : Int32) (σ' : mS) (H1 : Heap) (locs1 : List Loc), Qi r σ' → pM G a1 a2 n1 s σ' τ H1 locs1 → W p l e (mRb fr lo b) s m args below meth c H1 locs1 (u + k) (18 * (u + k)) Q (F0 m (pc + 3) ls (.int r :: rest))) : W p l e (mRb fr lo b) s m args below meth c H locs u (18 * u) Q (F0 m pc ls st) := by
  obtain ⟨ad, e0, hP, hge, hfr, hold, hback, hS⟩ := pr_cls E hM hRk
  have hpre : PreS s H (va_Pc (mV ad (some 0) :: Is) (mPreN G ad σ)) (mV ad (some 0) :: Is) :=
    ⟨mPreN.blind _ _ _ _, fun U hU hW => by
      have Z := E.2.2.at hold hU hW
      exact ⟨rfl, ⟨⟨by rw [hU]; exact hP, va_K.moved hW.alike C.2⟩, Z.mz hge⟩, Z.2.2.2.2⟩⟩
  have hst2 : st = (mV ad (some 0) :: Is).reverse ++ rest := by rw [hst, mV_some, mV_some, e0]
  have hlen : (mV ad (some 0) :: Is).length = n := by simp only [List.length_cons]; omega
  have hrun := vx_runSW (p := p) (l := l) (e := e) (R := mRb fr lo b) (s := s) (args := args) (below := below) (meth := meth) (H := H) (locs := locs) (cells := u) (slots := 18 * u) (As := mV ad (some 0) :: Is) (rest := rest) (g := F0 m pc ls st) C.1 (hc ad) (vx_cwSW n C.1.2.2.2.2 hg.good rfl rfl rfl hd hR) hpre rfl hlen hl hst2 (lv_room (pc := pc) (ls := ls) (rest := st) (m_wt hw hw8)) hdg ⟨hf, show 18 * u + 18 * k ≤ 18 * b by omega⟩
  exact va_calli hrun hS (fun q _ h => hfr q h) hfr (fun r v t H1 locs1 ht hvm hw hB hz1 hk1 hS1 => W.cs rfl (by omega) (kk r v H1 locs1 hw (hback v H1 locs1 (hmo _ _ hw) (by rw [← ht]; exact hB) hz1 hk1 hS1)))
/-- a call of the class that throws for no argument of ours -/
theorem pr_xi {Qi : Int32 → mS → Prop} {ret : Option FieldType} (C : mX p s m c cc nL args RL G) (E : pE N0 a1 a2 n1 s) (hM : pM G a1 a2 n1 s σ τ H locs) (hRk : mRok kdC σ) (hl : ls.size = nL) (hg : mCw RL index RX2 y bytes maxL ret)
    (hc : ∀ ad : Nat → Nat, vx_Met l y (mWs y bytes maxL ret) (mRb f2 l2 k) (va_Pc (mV ad (some 0) :: Is) (mPreZ G ad σ)) (va_Qi Qi (mPost G kdC ad) (mA ad)) (mXC (fun _ _ => False) G ad) k (18 * k) (mA ad)) (hmo : ∀ r σ', Qi r σ' → mN σ ≤ mN σ')
    (hd : y.cls = RX2 ∧ y.cls ≠ "java/lang/invoke/MethodHandle" ∧ y.cls ≠ "java/lang/invoke/VarHandle" ∧ (parseMethodDescriptor y.desc).map (fun d => d.parameters.length) = some n) (hn : Is.length = n) (hst : st = Is.reverse ++ mV a1 (some 0) :: rest) (hR : f2 + 1 ≤ fr ∧ 8 + (maxL + 11) + l2 ≤ lo) (hw : ∀ v ∈ rest, v.category = 1) (hw8 : rest.length ≤ 8) (hdg : decode cc pc = .ok (.invokevirtual index, 3)) (hf : u + k ≤ b)
    (kk : ∀ (r : Int32) (σ' : mS) (H1 : Heap) (locs1 : List Loc), Qi r σ' → pM G a1 a2 n1 s σ' τ H1 locs1 → W p l e (mRb fr lo b) s m args below meth c H1 locs1 (u + k) (18 * (u + k)) Q (F0 m (pc + 3) ls (.int r :: rest))) : W p l e (mRb fr lo b) s m args below meth c H locs u (18 * u) Q (F0 m pc ls st) := by
  obtain ⟨ad, e0, hP, hge, hfr, hold, hback, hS⟩ := pr_cls E hM hRk
  have h0 : va_at G.1 vwCl (ad 0, .inr (2, mL ad σ 0 2)) H := by rw [← mE_0 (G := G) (kd := kdC) (i := 0) (ci := 2) rfl]; exact hP.1 0 (hP.2.2.2 0 (by decide) (by decide) (by decide))
  obtain ⟨q', h1, cell, g1, g2, g3, -⟩ := h0
  have hpv : PreV s H RX2 (ad 0) (va_Pc (mV ad (some 0) :: Is) (mPreZ G ad σ)) Is :=
    ⟨mPreZ.blind _ _ _ _, ⟨cell, g1, by rw [g3]; rfl, by rw [g2]; exact (C.2.1 2 _ rfl).2.1⟩, fun U hU hW => ⟨rfl, ⟨by rw [hU]; exact hP, va_K.moved hW.alike C.2⟩, (E.2.2.at hold hU hW).mz hge⟩⟩
  have hst2 : st = Is.reverse ++ Value.ref (ad 0) :: rest := by rw [hst, mV_some, e0]
  have hrun := vx_runV (p := p) (l := l) (e := e) (R := mRb fr lo b) (s := s) (args := args) (below := below) (meth := meth) (H := H) (locs := locs) (cells := u) (slots := 18 * u) (As := Is) (rest := rest) (g := F0 m pc ls st) C.1 (hc ad) (cwV n C.1.2.2.2.2 hg.good rfl rfl rfl hd hR) hpv rfl hn hl hst2 (lv_room (pc := pc) (ls := ls) (rest := st) (m_wt hw hw8)) hdg ⟨hf, show 18 * u + 18 * k ≤ 18 * b by omega⟩
  exact vx_calli hrun hS (fun q _ h => hfr q h) hfr (fun q _ h => hfr q h) (fun E9 ce q9 v t H1 locs1 ht hvm _ hB hz hk hS1 hcell hcv hcl => hB.1.elim) (fun r v t H1 locs1 ht hvm hw hB hz1 hk1 hS1 => W.cs rfl (by omega) (kk r v H1 locs1 hw (hback v H1 locs1 (hmo _ _ hw) (by rw [← ht]; exact mPw_of hB (fun _ _ => rfl)) hz1 hk1 hS1)))
/-- a call of the class that throws nothing and makes nothing -/
theorem pr_vi {Qi : Int32 → mS → Prop} {ret : Option FieldType} (C : mX p s m c cc nL args RL G) (E : pE N0 a1 a2 n1 s) (hM : pM G a1 a2 n1 s σ τ H locs) (hRk : mRok kdC σ) (hl : ls.size = nL) (hg : mCw RL index RX2 y bytes maxL ret)
    (hc : ∀ ad : Nat → Nat, Met l y (mWs y bytes maxL ret) (mRm f2 l2) (va_Pc (mV ad (some 0) :: Is) (mPre G kdC ad σ)) (va_Qi Qi (mPost G kdC ad) (mA ad)) 0 0 (mA ad)) (hmo : ∀ r σ', Qi r σ' → mN σ ≤ mN σ')
    (hd : y.cls = RX2 ∧ y.cls ≠ "java/lang/invoke/MethodHandle" ∧ y.cls ≠ "java/lang/invoke/VarHandle" ∧ (parseMethodDescriptor y.desc).map (fun d => d.parameters.length) = some n) (hn : Is.length = n) (hst : st = Is.reverse ++ mV a1 (some 0) :: rest) (hR : f2 + 1 ≤ R.frames ∧ 8 + (maxL + 11) + l2 ≤ R.locals) (hw : ∀ v ∈ rest, v.category = 1) (hw8 : rest.length ≤ 8) (hdg : decode cc pc = .ok (.invokevirtual index, 3)) (hf : cells ≤ R.cells ∧ slots ≤ R.slots)
    (kk : ∀ (r : Int32) (σ' : mS) (H1 : Heap) (locs1 : List Loc), Qi r σ' → pM G a1 a2 n1 s σ' τ H1 locs1 → W p l e R s m args below meth c H1 locs1 cells slots Q (F0 m (pc + 3) ls (.int r :: rest))) : W p l e R s m args below meth c H locs cells slots Q (F0 m pc ls st) := by
  obtain ⟨ad, e0, hP, hge, hfr, hold, hback, hS⟩ := pr_cls E hM hRk
  have h0 : va_at G.1 vwCl (ad 0, .inr (2, mL ad σ 0 2)) H := by rw [← mE_0 (G := G) (kd := kdC) (i := 0) (ci := 2) rfl]; exact hP.1 0 (hP.2.2.2 0 (by decide) (by decide) (by decide))
  obtain ⟨q', h1, cell, g1, g2, g3, -⟩ := h0
  have hpv : PreV s H RX2 (ad 0) (va_Pc (mV ad (some 0) :: Is) (mPre G kdC ad σ)) Is :=
    ⟨mPre.blind _ _ _ _ _, ⟨cell, g1, by rw [g3]; rfl, by rw [g2]; exact (C.2.1 2 _ rfl).2.1⟩, fun U hU hW => ⟨rfl, by rw [hU]; exact hP, va_K.moved hW.alike C.2⟩⟩
  have hst2 : st = Is.reverse ++ Value.ref (ad 0) :: rest := by rw [hst, mV_some, e0]
  have hrun := va_runV (p := p) (l := l) (e := e) (R := R) (s := s) (args := args) (below := below) (meth := meth) (H := H) (locs := locs) (cells := cells) (slots := slots) (As := Is) (rest := rest) (g := F0 m pc ls st) C.1 (hc ad) (cwV n C.1.2.2.2.2 hg.good rfl rfl rfl hd hR) hpv rfl hn hl hst2 (lv_room (pc := pc) (ls := ls) (rest := st) (m_wt hw hw8)) hdg hf
  exact va_calli hrun hS (fun q _ h => hfr q h) hfr (fun r v t H1 locs1 ht hvm hw hB hz1 hk1 hS1 => kk r v H1 locs1 hw (hback v H1 locs1 (hmo _ _ hw) (by rw [← ht]; exact mPw_of hB (fun _ _ => rfl)) hz1 hk1 hS1))
/-- a call of a method over both worlds -/
theorem pr_pi {Qi : Int32 → mS → mS → Prop} {As : (Nat → Nat) → List Value} (C : mX p s m c cc nL args RL G) (E : pE N0 a1 a2 n1 s) (hM : pM G a1 a2 n1 s σ τ H locs) (hAs : ∀ a : Nat → Nat, a 0 = a1 0 → As a = As a1) (hl : ls.size = nL) (hg : mCs RL index y bytes maxL (some .boolean))
    (hc : ∀ (a : Nat → Nat) (N1 : Nat), Met l y (mWs y bytes maxL (some .boolean)) (mRb f2 l2 k) (va_Pc (As a) (pPre G N0 N1 a a2 σ τ)) (va_Qi (fun r (q : mS × mS) => Qi r q.1 q.2 ∧ narrow .boolean (.int r) = .int r) (pPost G N1 a a2 (mN σ)) (pA a a2 (mN σ) N1)) k (18 * k) (pA a a2 (mN σ) N1))
    (hd : y.cls = RL ∧ y.cls ≠ "java/lang/invoke/MethodHandle" ∧ y.cls ≠ "java/lang/invoke/VarHandle" ∧ (parseMethodDescriptor y.desc).map (fun d => d.parameters.length) = some n) (hn : (As a1).length = n) (hst : st = (As a1).reverse ++ rest) (hR : f2 + 1 ≤ fr ∧ 8 + (maxL + 11) + l2 ≤ lo) (hw : ∀ v ∈ rest, v.category = 1) (hw8 : rest.length ≤ 8) (hdg : decode cc pc = .ok (.invokestatic index, 3)) (hf : u + k ≤ b)
    (kk : ∀ (r : Int32) (σ' τ' : mS) (H1 : Heap) (locs1 : List Loc), Qi r σ' τ' → narrow .boolean (.int r) = .int r → pM G a1 a2 n1 s σ' τ' H1 locs1 → W p l e (mRb fr lo b) s m args below meth c H1 locs1 (u + k) (18 * (u + k)) Q (F0 m (pc + 3) ls (.int r :: rest))) : W p l e (mRb fr lo b) s m args below meth c H locs u (18 * u) Q (F0 m pc ls st) := by
  obtain ⟨a, h1, h2, h3, hD, hS⟩ := hM
  obtain ⟨E0, ⟨E1, E2, E3⟩, EZ⟩ := E
  have hAe := hAs a (h1 0 E0)
  have hs := hS.1
  have hold : ∀ q, q < s.heap.size → q < N0 → H[q]? = s.heap[q]? := fun q hq hq0 => hS.2.1 q hq (fun h => by
    rcases h with ⟨i, g1, g2⟩ | ⟨j, g1, g2⟩ | g
    · have := E1 i g1; omega
    · have := E2 j g1; omega
    · omega)
  have hN0 : ∀ i, i < mN σ → N0 ≤ a i := fun i hi => by
    by_cases h : i < n1
    · rw [h1 i h]; exact E1 i h
    · have := h3 i (Nat.not_lt.mp h) hi; omega
  have hpre : PreS s H (va_Pc (As a) (pPre G N0 H.size a a2 σ τ)) (As a) :=
    ⟨pPre.blind _ _ _ _ _ _ _ _, fun U hU hW => ⟨rfl, by rw [hU], by rw [hU]; exact hD, ⟨hN0, E2, by omega⟩, va_K.moved hW.alike C.2, EZ.at hold hU hW⟩⟩
  have hfr : ∀ q, pA a a2 (mN σ) H.size q → pA a1 a2 n1 s.heap.size q := fun q h => by
    rcases h with ⟨i, g1, g2⟩ | h | g
    · by_cases h : i < n1
      · exact Or.inl ⟨i, h, by rw [← h1 i h]; exact g2⟩
      · have := h3 i (Nat.not_lt.mp h) g1; exact Or.inr (Or.inr (by omega))
    · exact Or.inr (Or.inl h)
    · exact Or.inr (Or.inr (by omega))
  subst hn
  have hrun := va_runS (p := p) (l := l) (e := e) (R := mRb fr lo b) (s := s) (args := args) (below := below) (meth := meth) (H := H) (locs := locs) (cells := u) (slots := 18 * u) (As := As a) (rest := rest) (g := F0 m pc ls st) C.1 (hc a H.size) (cwS (As a1).length C.1.2.2.2.2 hg.good rfl rfl rfl hd hR) hpre rfl (by rw [hAe]) hl (by rw [hAe]; exact hst) (lv_room (pc := pc) (ls := ls) (rest := st) (m_wt hw hw8)) hdg ⟨hf, show 18 * u + 18 * k ≤ 18 * b by omega⟩
  refine va_calli hrun hS (fun q _ h => hfr q h) hfr (fun r v t H1 locs1 ht hvm hw hB hz1 hk1 hS1 => W.cs rfl (by omega) (kk r v.1 v.2 H1 locs1 hw.1 hw.2 ?_))
  obtain ⟨a', b1, b2, b3, b4⟩ := hB
  refine ⟨a', fun i hi => by rw [b1 i (by omega), h1 i hi], by omega, fun i g1 g2 => ?_, by rw [← ht]; exact b4, hS1⟩
  by_cases h : i < mN σ
  · rw [b1 i h]; exact h3 i g1 h
  · have := b3 i (Nat.not_lt.mp h) g2; omega
end PR
/-- the script's own place, or a number made of it -/
def pCell (L : Nat) (xs : Nat → Int32) (j : Nat) : Int32 := if j < L then xs j else 1205455845 * (nI j + 7)
set_option maxRecDepth 100000 in
theorem c_L_cell (l : Launch) (bs L j : Nat) (xs : Nat → Int32) (hL : L ≤ 260) (hj : j < 2 ^ 30) : Met l yL_cell (mWs yL_cell cL_cell 2 (some .int)) (mRm 0 0) (va_Pc [.ref bs, .int (nI j)] (fun U => va_X bs L xs U U.heap ∧ bs < U.heap.size)) (va_Qi (fun r (_ : Unit) => r = pCell L xs j) (fun _ _ => True) (fun _ => False)) 0 0 (fun _ => False) := by
  refine Met.ofW (cc := cL_cell) (maxL := 2) (ret := some .int) (by decide) rfl ?_
  intro p e s m args below meth c s₁ B hml hv
  obtain ⟨rfl, hX, hbl⟩ := hv
  have hts := atoms_spec (ws := mWs yL_cell cL_cell 2 (some .int)) B.pre
  have hown : s.vm.findClass RL = some m.cls := findClass_of_methodNamed (x := yL_cell) B.named
  have hcat : ∀ v ∈ [Value.ref bs, Value.int (nI j)], v.category = 1 := m_cA (m_cI m_c0)
  have hl := lv_entry [Value.ref bs, Value.int (nI j)] (n := 2) (by rw [lg_sl_len _ hcat]; exact Nat.le_of_ble_eq_true rfl)
  rw [lv_ix_eq _ 0 hcat] at hl
  rw [lg_entry_eq]
  have hx := B.exec
  have hb := B.bytes
  have hS : va_S (fun _ => False) s.heap s.heap [] := va_S.rf
  have hl : ml_has (lg_sl [Value.ref bs, Value.int (nI j)] ++ List.replicate (2 - (lg_sl [Value.ref bs, Value.int (nI j)]).length) Slot.unset).toArray 2 [(0, .ref bs), (1, .int (nI j))] := ⟨hl, by simp [Value.category]⟩
  revert hl
  generalize (lg_sl [Value.ref bs, Value.int (nI j)] ++ List.replicate (2 - (lg_sl [Value.ref bs, Value.int (nI j)]).length) Slot.unset).toArray = ls
  intro hl
  refine lv_iload_n hx hb dL_cell_0 rfl (ml_at hl 1 rfl) ?_
  refine lv_aload_n hx hb dL_cell_1 rfl (ml_at hl 0 rfl) ?_
  refine va_slen hx hb hX hbl (fun h => h) hS dL_cell_2 ?_
  have fin : ∀ v, v = pCell L xs j → W p l e (mRm 0 0) s m ([Value.ref bs, Value.int (nI j)] : List Value).toArray below meth c s.heap [] 0 0 (MQ below (va_Qi (fun r (_ : Unit) => r = pCell L xs j) (fun _ _ => True) (fun _ => False)) ([Value.ref bs, Value.int (nI j)] : List Value).toArray s 0 0 (fun _ => False)) (F0 m 19 ls [.int v]) := fun v hv =>
    W.iret hx hb B.returns (fun t ht _ => ⟨⟨v, (), rfl, hv, trivial⟩, hS.F ht⟩) hS.2.2 dL_cell_19 B.notSynchronized
  refine lv_icmp_ge (tgt := 12) hx hb dL_cell_3 (by decide) (fun hc => ?_) (fun hc => ?_)
  · have h1 : L ≤ j := (nI_leI (by omega) (by omega)).mp hc
    refine lv_ldc hx hb (own := RL) (v := 1205455845) hown (hts _ (List.mem_cons_of_mem _ (mw_15 _ (List.mem_of_getElem? (i := 20) rfl)))) dL_cell_12 ?_
    refine lv_iload_n hx hb dL_cell_14 rfl (ml_at hl 1 rfl) ?_
    refine lv_bipush (v := 7) hx hb dL_cell_15 (by decide) ?_
    refine lv_iadd hx hb dL_cell_17 ?_
    refine lv_imul hx hb dL_cell_18 ?_
    exact fin _ (if_neg (by omega)).symm
  · have h1 : j < L := Nat.not_le.mp fun q => hc ((nI_leI (by omega) (by omega)).mpr q)
    refine lv_aload_n hx hb dL_cell_6 rfl (ml_at hl 0 rfl) ?_
    refine lv_iload_n hx hb dL_cell_7 rfl (ml_at hl 1 rfl) ?_
    refine va_sld hx hb hX hbl (fun h => h) hS (vp_in_nI h1 (by omega)) dL_cell_8 ?_
    refine lv_goto (tgt := 19) hx hb dL_cell_9 (by decide) ?_
    rw [nI_clamp (by omega)]
    exact fin _ (if_pos h1).symm
section PC
variable {p : Program} {l : Launch} {e : Env} {R : Room} {s : State} {m : MethodId} {args : Array Value} {below : List Frame} {meth : Method} {c : Code} {H : Heap} {locs : List Loc} {cells slots : Nat} {Q : State → Prop}
variable {cc : ByteArray} {pc nL n1 N0 bs L index : Nat} {ls : Array Slot} {rest : List Value} {G : mG} {a1 a2 : Nat → Nat} {σ τ : mS} {xs : Nat → Int32}
theorem pr_cell (C : mX p s m c cc nL args RL G) (E : pE N0 a1 a2 n1 s) (hM : pM G a1 a2 n1 s σ τ H locs) (hX : va_X bs L xs s s.heap) (hbs : bs < N0) (hL : L ≤ 260) {x : Int32} {j : Nat} (hx1 : x = nI j) (hj : j < 2 ^ 30) (hl : ls.size = nL) (hg : mCs RL index yL_cell cL_cell 2 (some .int)) (hR : 0 + 1 ≤ R.frames ∧ 8 + (2 + 11) + 0 ≤ R.locals) (hw : ∀ v ∈ rest, v.category = 1) (hw8 : rest.length ≤ 8) (hdg : decode cc pc = .ok (.invokestatic index, 3)) (hf : cells ≤ R.cells ∧ slots ≤ R.slots)
    (kk : ∀ (H1 : Heap) (locs1 : List Loc), pM G a1 a2 n1 s σ τ H1 locs1 → W p l e R s m args below meth c H1 locs1 cells slots Q (F0 m (pc + 3) ls (.int (pCell L xs j) :: rest))) : W p l e R s m args below meth c H locs cells slots Q (F0 m pc ls (.int x :: .ref bs :: rest)) := by
  subst hx1
  obtain ⟨a, h1, h2, h3, hD, hS⟩ := hM
  obtain ⟨E0, ⟨E1, E2, E3⟩, EZ⟩ := E
  have hno : ¬ pA a1 a2 n1 s.heap.size bs := fun h => by
    rcases h with ⟨i, g1, g2⟩ | ⟨i, g1, g2⟩ | g
    · have := E1 i g1; omega
    · have := E2 i g1; omega
    · omega
  have hbH : bs < s.heap.size := by omega
  have hXH : va_X bs L xs s H := hX.kept (hS.2.1 bs hbH hno)
  have hpre : PreS s H (va_Pc [.ref bs, .int (nI j)] (fun U => va_X bs L xs U U.heap ∧ bs < U.heap.size)) [.ref bs, .int (nI j)] :=
    ⟨fun a U g mk q => ⟨q.1, q.2.1.moved (u := U) (U := U.calling g mk a) (Vm.Alike.refl U.vm), q.2.2⟩, fun U hU hW => ⟨rfl, by rw [hU]; exact hXH.moved hW.alike, by rw [hU]; have := hS.1; omega⟩⟩
  have hrun := va_runS (p := p) (l := l) (e := e) (R := R) (s := s) (args := args) (below := below) (meth := meth) (H := H) (locs := locs) (cells := cells) (slots := slots) (As := [.ref bs, .int (nI j)]) (rest := rest) (g := F0 m pc ls (.int (nI j) :: .ref bs :: rest)) C.1 (c_L_cell l bs L j xs hL hj) (cwS 2 C.1.2.2.2.2 hg.good rfl rfl rfl ⟨rfl, by decide, by decide, by decide +kernel⟩ hR) hpre rfl rfl hl rfl (lv_room (pc := pc) (ls := ls) (rest := .int (nI j) :: .ref bs :: rest) (m_wt hw hw8)) hdg hf
  refine va_calli hrun hS (fun q _ h => h.elim) (fun q h => h.elim) (fun r v t H1 locs1 ht hvm hw hB hz1 hk1 hS1 => ?_)
  rw [hw]
  exact kk H1 locs1 ⟨a, h1, h2, h3, ⟨wW_kept hD.1 (fun i hi => hk1 _ (wW_lt hD.1 hi) (fun h => h)), wW_kept hD.2.1 (fun i hi => hk1 _ (wW_lt hD.2.1 hi) (fun h => h)), hD.2.2⟩, hS1⟩
end PC
