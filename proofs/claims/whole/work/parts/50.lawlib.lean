/-! THE LAW'S WORLD: the class's cells, the reference's, and the row of one long, each where it lies -/
def wW (G : mG) (kd : Nat → Nat × Nat) (a : Nat → Nat) (σ : mS) (H : Heap) : Prop := (∀ i, i < mN σ → va_at G.1 vwCl (a i, mE G kd a σ i) H) ∧ (∀ i j, i < mN σ → j < mN σ → a i = a j → i = j) ∧ ∀ i, kd i ≠ (0, 0) → i < 26 → i < mN σ
/-- the references of a store lie in it -/
def mRok (kd : Nat → Nat × Nat) (σ : mS) : Prop := (∀ i k j, i < mN σ → mR σ i k = some j → j < mN σ) ∧ ∀ i ci k, i < mN σ → kd i = (0, ci) → (mFk ci k).1 ≠ 0 → (mFk ci k).1 ≠ 1 → i + (mFk ci k).2 < mN σ
theorem mV_at {a a' : Nat → Nat} {n : Nat} (h : ∀ j, j < n → a' j = a j) {r : Option Nat} (hr : ∀ j, r = some j → j < n) : r.map a' = r.map a := by
  cases r with
  | none => rfl
  | some j => rw [Option.map_some, Option.map_some, h j (hr j rfl)]
theorem mE_at {G : mG} {kd : Nat → Nat × Nat} {a a' : Nat → Nat} {σ : mS} (hR : mRok kd σ) (h : ∀ j, j < mN σ → a' j = a j) {i : Nat} (hi : i < mN σ) : mE G kd a' σ i = mE G kd a σ i := by
  have hq : (fun j => (mR σ i j).map a') = fun j => (mR σ i j).map a := funext fun k => mV_at h (fun j => hR.1 i k j hi)
  have hL : (kd i).1 = 0 → mL a' σ i (kd i).2 = mL a σ i (kd i).2 := fun h0 => List.map_congr_left (fun k _ => by
    unfold mF
    split
    · rfl
    · exact congrArg va_rf (mV_at h (fun j => hR.1 i k j hi))
    · next h1 h2 => rw [h _ (hR.2 i _ k hi (by rw [← h0]) h1 h2)])
  unfold mE
  rw [hq]
  split
  · next h0 => rw [hL h0]
  · rfl
  · rfl
  · rfl
  · rfl
theorem wW_lt {G : mG} {kd : Nat → Nat × Nat} {a : Nat → Nat} {σ : mS} {H : Heap} (h : wW G kd a σ H) {i : Nat} (hi : i < mN σ) : a i < H.size := (h.1 i hi).lt
/-- the numbers beyond the world are put on the heap's next places -/
theorem wW_base {G : mG} {kd : Nat → Nat × Nat} {a : Nat → Nat} {σ : mS} {H : Heap} (h : wW G kd a σ H) (hR : mRok kd σ) : ∃ a' : Nat → Nat, (∀ i, i < mN σ → a' i = a i) ∧ mP G kd a' σ H ∧ ∀ i, mN σ ≤ i → H.size ≤ a' i := by
  obtain ⟨a', ha⟩ : ∃ a' : Nat → Nat, a' = fun i => if i < mN σ then a i else H.size + (i - mN σ) := ⟨_, rfl⟩
  have h1 : ∀ i, i < mN σ → a' i = a i := fun i hi => by rw [ha]; exact if_pos hi
  have h2 : ∀ i, ¬ i < mN σ → a' i = H.size + (i - mN σ) := fun i hi => by rw [ha]; exact if_neg hi
  refine ⟨a', h1, ⟨fun i hi => ?_, fun i j hij => ?_, fun j => ?_, fun i hk hi _ => h.2.2 i hk hi⟩, fun i hi => by rw [h2 i (Nat.not_lt.mpr hi)]; omega⟩
  · rw [mE_at hR h1 hi, h1 i hi]; exact h.1 i hi
  · by_cases hi : i < mN σ <;> by_cases hj : j < mN σ
    · rw [h1 i hi, h1 j hj] at hij; exact h.2.1 i j hi hj hij
    · rw [h1 i hi, h2 j hj] at hij; have := wW_lt h hi; omega
    · rw [h2 i hi, h1 j hj] at hij; have := wW_lt h hj; omega
    · rw [h2 i hi, h2 j hj] at hij; omega
  · rw [h2 _ (by omega)]; omega
theorem wW_kept {G : mG} {kd : Nat → Nat × Nat} {a : Nat → Nat} {σ : mS} {H H1 : Heap} (h : wW G kd a σ H) (hk : ∀ i, i < mN σ → H1[a i]? = H[a i]?) : wW G kd a σ H1 := ⟨fun i hi => (h.1 i hi).kept (hk i hi), h.2⟩
theorem wW_ofP {G : mG} {kd : Nat → Nat × Nat} {a : Nat → Nat} {σ : mS} {H : Heap} (h : mP G kd a σ H) (h3 : (kd 0).2 ≤ 3) : wW G kd a σ H := ⟨h.1, fun i j _ _ e => h.2.1 i j e, fun i h1 h2 => h.2.2.2 i h1 h2 h3⟩
def lB (G : mG) (cL : ClassId) (a1 a2 : Nat → Nat) (o : Nat) (h0 : Heap) (σ μ : mS) (v : Nat → Int64) (H : Heap) : Prop :=
  (h0.size ≤ H.size ∧ ∀ q : Nat, q < h0.size → H[q]? = h0[q]?) ∧ wW G kdC a1 σ H ∧ wW G kdM a2 μ H ∧ mOut cL o v H ∧
  (∀ i, i < mN σ → h0.size ≤ a1 i) ∧ (∀ i, i < mN μ → h0.size ≤ a2 i) ∧ h0.size ≤ o ∧ (∀ i j, i < mN σ → j < mN μ → a1 i ≠ a2 j) ∧ (∀ i, i < mN σ → a1 i ≠ o) ∧ ∀ j, j < mN μ → a2 j ≠ o
def lZ (cL : ClassId) (s : State) : Prop := vx_Zq Bundle.tN "UNASSIGNED_STACK" Bundle.steD (fun q => s.heap.size ≤ q) s s.heap ∧ vx_Zq Bundle.tN "SUPPRESSED_SENTINEL" Bundle.listD (fun q => s.heap.size ≤ q) s s.heap ∧ (∀ w ∈ mNw, va_Nw w s) ∧ (∀ q ∈ mStr, ∃ a, vk_R RX2 q.1 q.2 a s) ∧ ArrOfT s cL .long ∧ mNcs s
def mCl (idx : Nat) (y : MethodName) (cc : ByteArray) (ml : Nat) (hh : List (Nat × Nat × Nat × Nat)) : Prop := Cond.methodLink RL idx y ∈ wsL_law ∧ Cond.static y ∈ wsL_law ∧ Cond.initialized y.cls ∈ wsL_law ∧ Cond.codeWith y cc ml (some .int) hh ∈ wsL_law
theorem mCl.good {idx ml : Nat} {y : MethodName} {cc : ByteArray} {hh : List (Nat × Nat × Nat × Nat)} (h : mCl idx y cc ml hh) : GoodIn wsL_law (va_wsS RL idx y (mWL y cc ml hh)) := by
  obtain ⟨h1, h2, h3, h4⟩ := h
  intro w hw
  have : w ∈ wsL_law := by
    unfold va_wsS mWL at hw
    simp only [List.cons_append, List.nil_append, List.mem_cons] at hw
    rcases hw with rfl | rfl | rfl | rfl | hw
    · exact h1
    · exact h2
    · exact h3
    · exact h4
    · exact hw
  exact ⟨this, m_good w this⟩
section LW
variable {p : Program} {l : Launch} {e : Env} {R : Room} {s : State} {m : MethodId} {args : Array Value} {below : List Frame} {meth : Method} {c : Code} {H : Heap} {cells slots : Nat} {Q : State → Prop}
variable {cc bytes : ByteArray} {pc nL maxL f2 l2 index n b o : Nat} {ls : Array Slot} {rest st Is : List Value} {G : mG} {cL : ClassId} {a1 a2 : Nat → Nat} {σ μ : mS} {v : Nat → Int64} {y : MethodName} {hh : List (Nat × Nat × Nat × Nat)}
theorem lw_callL {Qk : Int32 → Int64 → mS → Prop} (C : mX p s m c cc nL args RL G) (Z : lZ cL s) (hB : lB G cL a1 a2 o s.heap σ μ v H) (hR : mRok kdC σ) (h0 : 0 < mN σ) (hl : ls.size = nL) (hg : mCl index y bytes maxL hh)
    (hc : ∀ ad : Nat → Nat, Met l y (mWL y bytes maxL hh) (mRb f2 l2 b) (va_Pc (mV ad (some 0) :: (Is ++ [.ref o])) (mPreL G cL ad o σ v)) (va_Qi (fun r (q : mS × Int64) => Qk r q.2 q.1) (mPostL G cL ad o) (mAL ad o)) b (18 * b) (mAL ad o))
    (hd : y.cls ≠ "java/lang/invoke/MethodHandle" ∧ y.cls ≠ "java/lang/invoke/VarHandle" ∧ (parseMethodDescriptor y.desc).map (fun d => d.parameters.length) = some n) (hn : Is.length + 2 = n) (hst : st = (.ref (a1 0) :: (Is ++ [.ref o])).reverse ++ rest) (hRm : f2 + 1 ≤ R.frames ∧ 8 + (maxL + 11) + l2 ≤ R.locals) (hw : ∀ v ∈ rest, v.category = 1) (hw8 : rest.length ≤ 8) (hdg : decode cc pc = .ok (.invokestatic index, 3)) (hf : cells + b ≤ R.cells ∧ slots + 18 * b ≤ R.slots)
    (kk : ∀ (r : Int32) (x : Int64) (σ' : mS) (v' : Nat → Int64) (H1 : Heap) (a1' : Nat → Nat), Qk r x σ' → v' 0 = x → a1' 0 = a1 0 → lB G cL a1' a2 o s.heap σ' μ v' H1 → mN σ ≤ mN σ' → W p l e R s m args below meth c H1 [] (cells + b) (slots + 18 * b) Q (F0 m (pc + 3) ls (.int r :: rest)))
    (hmono : ∀ r x σ', Qk r x σ' → mN σ ≤ mN σ') : W p l e R s m args below meth c H [] cells slots Q (F0 m pc ls st) := by
  obtain ⟨hB0, hW1, hW2, hO, hA1, hA2, hAo, hd1, hd2, hd3⟩ := hB
  obtain ⟨ad, e1, hP, hge⟩ := wW_base hW1 hR
  have hlo : o < H.size := (Array.getElem?_eq_some_iff.mp hO).1
  have hadne : ∀ i, ad i ≠ o := fun i => by
    by_cases hi : i < mN σ
    · rw [e1 i hi]; exact hd2 i hi
    · have := hge i (Nat.not_lt.mp hi); omega
  have hadge : ∀ i, s.heap.size ≤ ad i := fun i => by
    by_cases hi : i < mN σ
    · rw [e1 i hi]; exact hA1 i hi
    · exact Nat.le_trans hB0.1 (hge i (Nat.not_lt.mp hi))
  have hAL : ∀ q, mAL ad o q → s.heap.size ≤ q := fun q h => by
    rcases h with ⟨i, hi⟩ | h
    · rw [← hi]; exact hadge i
    · rw [h]; exact hAo
  have hZ : ∀ U : State, U.heap = H → s.WarmedH U.vm → mZ ad U U.heap := fun U hU hW => by
    obtain ⟨z1, z2, z3, z4, -⟩ := Z
    rw [hU]
    exact ⟨((z1.kept (fun a _ ha => hB0.2 a (Nat.not_le.mp ha))).moved hW.alike).narrow (fun q ⟨i, hi⟩ => by rw [← hi]; exact hadge i), ((z2.kept (fun a _ ha => hB0.2 a (Nat.not_le.mp ha))).moved hW.alike).narrow (fun q ⟨i, hi⟩ => by rw [← hi]; exact hadge i), mNw_warm hW z3, fun q hq => by
      obtain ⟨a, ha⟩ := z4 q hq
      exact ⟨a, ha.warm hW⟩⟩
  have hpre : PreS s H (va_Pc (mV ad (some 0) :: (Is ++ [.ref o])) (mPreL G cL ad o σ v)) (mV ad (some 0) :: (Is ++ [.ref o])) :=
    ⟨mPreL.blind _ _ _ _ _ _ _, fun U hU hW => ⟨rfl, ⟨⟨by rw [hU]; exact hP, va_K.moved hW.alike C.2⟩, hZ U hU hW⟩, arrOfT_moved hW.alike Z.2.2.2.2.1, by rw [hU]; exact hO, hadne, Z.2.2.2.2.2.1.moved hW.alike, Z.2.2.2.2.2.2.1.moved hW.alike, Z.2.2.2.2.2.2.2.moved hW.alike⟩⟩
  have hst2 : st = (mV ad (some 0) :: (Is ++ [.ref o])).reverse ++ rest := by rw [hst, mV_some, e1 0 h0]
  have hlen : (mV ad (some 0) :: (Is ++ [Value.ref o])).length = n := by simp only [List.length_cons, List.length_append, List.length_nil]; omega
  have hrun := vx_runSW (p := p) (l := l) (e := e) (R := R) (s := s) (args := args) (below := below) (meth := meth) (H := H) (locs := []) (cells := cells) (slots := slots) (As := mV ad (some 0) :: (Is ++ [.ref o])) (rest := rest) (g := F0 m pc ls st) C.1 (hc ad) (vx_cwSW n C.1.2.2.2.2 hg.good rfl rfl rfl hd hRm) hpre rfl hlen hl hst2 (lv_room (pc := pc) (ls := ls) (rest := st) (m_wt hw hw8)) hdg hf
  refine va_calli hrun (A0 := fun q => s.heap.size ≤ q) (H0 := s.heap) ⟨hB0.1, fun q h1 _ => hB0.2 q h1, fun _ h => by cases h⟩ (fun q _ h => hAL q h) hAL (fun r u t H1 locs1 ht hvm hw hBu hz1 hk1 hS1 => ?_)
  refine va_forget hS1.2.2 ?_
  obtain ⟨hPw, v', hv', hO'⟩ := hBu
  rw [ht] at hPw hO'
  have hnot : ∀ j, j < mN μ → ¬ mAL ad o (a2 j) := fun j hj h => by
    rcases h with ⟨i, hi⟩ | h
    · by_cases hin : i < mN σ
      · rw [e1 i hin] at hi; exact hd1 i j hin hj hi
      · have h5 := hge i (Nat.not_lt.mp hin); have h6 := wW_lt hW2 hj; omega
    · exact hd3 j hj h
  have hmo := hmono _ _ _ hw
  refine kk r u.2 u.1 v' H1 ad hw hv' (e1 0 h0) ⟨⟨hS1.1, fun q hq => ?_⟩, ⟨hPw.1, fun i j _ _ e => hPw.2.1 i j e, hPw.2.2⟩, wW_kept hW2 (fun j hj => hk1 _ (wW_lt hW2 hj) (hnot j hj)), hO', fun i _ => hadge i, hA2, hAo, fun i j _ hj h => hnot j hj (Or.inl ⟨i, h⟩), fun i _ => hadne i, hd3⟩ hmo
  exact hS1.2.1 q hq (fun h => absurd h (Nat.not_le.mpr hq))
theorem lw_callM {Qi : Int32 → mS → Prop} {ret : Option FieldType} (C : mX p s m c cc nL args RL G) (hB : lB G cL a1 a2 o s.heap σ μ v H) (hR : mRok kdM μ) (h0 : 0 < mN μ) (hl : ls.size = nL) (hg : mCw RL index RX3 y bytes maxL ret)
    (hc : ∀ ad : Nat → Nat, Met l y (mWs y bytes maxL ret) (mRm f2 l2) (va_Pc (mV ad (some 0) :: Is) (mPre G kdM ad μ)) (va_Qi Qi (mPost G kdM ad) (mA ad)) 0 0 (mA ad))
    (hd : y.cls = RX3 ∧ y.cls ≠ "java/lang/invoke/MethodHandle" ∧ y.cls ≠ "java/lang/invoke/VarHandle" ∧ (parseMethodDescriptor y.desc).map (fun d => d.parameters.length) = some n) (hn : Is.length = n) (hst : st = Is.reverse ++ .ref (a2 0) :: rest) (hRm : f2 + 1 ≤ R.frames ∧ 8 + (maxL + 11) + l2 ≤ R.locals) (hw : ∀ v ∈ rest, v.category = 1) (hw8 : rest.length ≤ 8) (hdg : decode cc pc = .ok (.invokevirtual index, 3)) (hf : cells ≤ R.cells ∧ slots ≤ R.slots)
    (hmono : ∀ r μ', Qi r μ' → mN μ' = mN μ)
    (kk : ∀ (r : Int32) (μ' : mS) (H1 : Heap) (a2' : Nat → Nat), Qi r μ' → a2' 0 = a2 0 → lB G cL a1 a2' o s.heap σ μ' v H1 → W p l e R s m args below meth c H1 [] cells slots Q (F0 m (pc + 3) ls (.int r :: rest))) : W p l e R s m args below meth c H [] cells slots Q (F0 m pc ls st) := by
  obtain ⟨hB0, hW1, hW2, hO, hA1, hA2, hAo, hd1, hd2, hd3⟩ := hB
  obtain ⟨ad, e1, hP, hge⟩ := wW_base hW2 hR
  have hlo : o < H.size := (Array.getElem?_eq_some_iff.mp hO).1
  have hadge : ∀ i, s.heap.size ≤ ad i := fun i => by
    by_cases hi : i < mN μ
    · rw [e1 i hi]; exact hA2 i hi
    · exact Nat.le_trans hB0.1 (hge i (Nat.not_lt.mp hi))
  have hAL : ∀ q, mA ad q → s.heap.size ≤ q := fun q ⟨i, hi⟩ => by rw [← hi]; exact hadge i
  have hadne : ∀ i, ad i ≠ o := fun i => by
    by_cases hi : i < mN μ
    · rw [e1 i hi]; exact hd3 i hi
    · have := hge i (Nat.not_lt.mp hi); omega
  have hM : mM G kdM ad s μ H [] := ⟨hP, ⟨hB0.1, fun q h1 _ => hB0.2 q h1, fun _ h => by cases h⟩⟩
  have hst2 : st = Is.reverse ++ mV ad (some 0) :: rest := by rw [hst, mV_some, e1 0 h0]
  have hrun := va_runV (p := p) (l := l) (e := e) (R := R) (s := s) (args := args) (below := below) (meth := meth) (H := H) (locs := []) (cells := cells) (slots := slots) (As := Is) (rest := rest) (g := F0 m pc ls st) C.1 (hc ad) (cwV n C.1.2.2.2.2 hg.good rfl rfl rfl hd hRm) (mr_preV C hM (mO_fix hM (n := 3) rfl (by decide) (by decide) (by decide)) rfl Is) rfl hn hl hst2 (lv_room (pc := pc) (ls := ls) (rest := st) (m_wt hw hw8)) hdg hf
  refine va_calli hrun (A0 := fun q => s.heap.size ≤ q) (H0 := s.heap) ⟨hB0.1, fun q h1 _ => hB0.2 q h1, fun _ h => by cases h⟩ (fun q _ h => hAL q h) hAL (fun r u t H1 locs1 ht hvm hw hBu hz1 hk1 hS1 => ?_)
  refine va_forget hS1.2.2 ?_
  have hBu : mP G kdM ad u H1 := by rw [← ht]; exact hBu
  have hnot : ∀ j, j < mN σ → ¬ mA ad (a1 j) := fun j hj ⟨i, hi⟩ => by
    by_cases hin : i < mN μ
    · rw [e1 i hin] at hi; exact hd1 j i hj hin hi.symm
    · have h5 := hge i (Nat.not_lt.mp hin); have h6 := wW_lt hW1 hj; omega
  refine kk r u H1 ad hw (e1 0 h0) ⟨⟨hS1.1, fun q hq => hS1.2.1 q hq (fun h => absurd h (Nat.not_le.mpr hq))⟩, wW_kept hW1 (fun j hj => hk1 _ (wW_lt hW1 hj) (hnot j hj)), wW_ofP hBu (by decide), ?_, hA1, fun i _ => hadge i, hAo, fun i j hi _ h => hnot i hi ⟨j, h.symm⟩, hd2, fun j _ => hadne j⟩
  show H1[o]? = _
  rw [hk1 o hlo (fun ⟨i, hi⟩ => hadne i hi)]
  exact hO
theorem lw_callC {Qi : Int32 → mS → Prop} {ret : Option FieldType} (C : mX p s m c cc nL args RL G) (hB : lB G cL a1 a2 o s.heap σ μ v H) (hR : mRok kdC σ) (h0 : 0 < mN σ) (hl : ls.size = nL) (hg : mCw RL index RX2 y bytes maxL ret)
    (hc : ∀ ad : Nat → Nat, Met l y (mWs y bytes maxL ret) (mRm f2 l2) (va_Pc (mV ad (some 0) :: Is) (mPre G kdC ad σ)) (va_Qi Qi (mPost G kdC ad) (mA ad)) 0 0 (mA ad))
    (hd : y.cls = RX2 ∧ y.cls ≠ "java/lang/invoke/MethodHandle" ∧ y.cls ≠ "java/lang/invoke/VarHandle" ∧ (parseMethodDescriptor y.desc).map (fun d => d.parameters.length) = some n) (hn : Is.length = n) (hst : st = Is.reverse ++ .ref (a1 0) :: rest) (hRm : f2 + 1 ≤ R.frames ∧ 8 + (maxL + 11) + l2 ≤ R.locals) (hw : ∀ v ∈ rest, v.category = 1) (hw8 : rest.length ≤ 8) (hdg : decode cc pc = .ok (.invokevirtual index, 3)) (hf : cells ≤ R.cells ∧ slots ≤ R.slots)
    (kk : ∀ (r : Int32) (σ' : mS) (H1 : Heap) (a1' : Nat → Nat), Qi r σ' → a1' 0 = a1 0 → lB G cL a1' a2 o s.heap σ' μ v H1 → W p l e R s m args below meth c H1 [] cells slots Q (F0 m (pc + 3) ls (.int r :: rest))) : W p l e R s m args below meth c H [] cells slots Q (F0 m pc ls st) := by
  obtain ⟨hB0, hW1, hW2, hO, hA1, hA2, hAo, hd1, hd2, hd3⟩ := hB
  obtain ⟨ad, e1, hP, hge⟩ := wW_base hW1 hR
  have hlo : o < H.size := (Array.getElem?_eq_some_iff.mp hO).1
  have hadge : ∀ i, s.heap.size ≤ ad i := fun i => by
    by_cases hi : i < mN σ
    · rw [e1 i hi]; exact hA1 i hi
    · exact Nat.le_trans hB0.1 (hge i (Nat.not_lt.mp hi))
  have hAL : ∀ q, mA ad q → s.heap.size ≤ q := fun q ⟨i, hi⟩ => by rw [← hi]; exact hadge i
  have hadne : ∀ i, ad i ≠ o := fun i => by
    by_cases hi : i < mN σ
    · rw [e1 i hi]; exact hd2 i hi
    · have := hge i (Nat.not_lt.mp hi); omega
  have hM : mM G kdC ad s σ H [] := ⟨hP, ⟨hB0.1, fun q h1 _ => hB0.2 q h1, fun _ h => by cases h⟩⟩
  have hst2 : st = Is.reverse ++ mV ad (some 0) :: rest := by rw [hst, mV_some, e1 0 h0]
  have hrun := va_runV (p := p) (l := l) (e := e) (R := R) (s := s) (args := args) (below := below) (meth := meth) (H := H) (locs := []) (cells := cells) (slots := slots) (As := Is) (rest := rest) (g := F0 m pc ls st) C.1 (hc ad) (cwV n C.1.2.2.2.2 hg.good rfl rfl rfl hd hRm) (mr_preV C hM (mO_fix hM (n := 2) rfl (by decide) (by decide) (by decide)) rfl Is) rfl hn hl hst2 (lv_room (pc := pc) (ls := ls) (rest := st) (m_wt hw hw8)) hdg hf
  refine va_calli hrun (A0 := fun q => s.heap.size ≤ q) (H0 := s.heap) ⟨hB0.1, fun q h1 _ => hB0.2 q h1, fun _ h => by cases h⟩ (fun q _ h => hAL q h) hAL (fun r u t H1 locs1 ht hvm hw hBu hz1 hk1 hS1 => ?_)
  refine va_forget hS1.2.2 ?_
  have hBu : mP G kdC ad u H1 := by rw [← ht]; exact hBu
  have hnot : ∀ j, j < mN μ → ¬ mA ad (a2 j) := fun j hj ⟨i, hi⟩ => by
    by_cases hin : i < mN σ
    · rw [e1 i hin] at hi; exact hd1 i j hin hj hi
    · have h5 := hge i (Nat.not_lt.mp hin); have h6 := wW_lt hW2 hj; omega
  refine kk r u H1 ad hw (e1 0 h0) ⟨⟨hS1.1, fun q hq => hS1.2.1 q hq (fun h => absurd h (Nat.not_le.mpr hq))⟩, wW_ofP hBu (by decide), wW_kept hW2 (fun j hj => hk1 _ (wW_lt hW2 hj) (hnot j hj)), ?_, fun i _ => hadge i, hA2, hAo, fun i j _ hj h => hnot j hj ⟨i, h⟩, fun i _ => hadne i, hd3⟩
  show H1[o]? = _
  rw [hk1 o hlo (fun ⟨i, hi⟩ => hadne i hi)]
  exact hO
end LW
