/-! THE STORE: cells by number (not by address), ints and references by cell and place. A world is a map of numbers to addresses (ad), apart, the next ones being the heap's next ones. -/
abbrev mS : Type := Nat × (Nat → Nat → Int32) × (Nat → Nat → Option Nat)
def mN (σ : mS) : Nat := σ.1
def mI (σ : mS) (i k : Nat) : Int32 := σ.2.1 i k
def mR (σ : mS) (i k : Nat) : Option Nat := σ.2.2 i k
def sI (σ : mS) (i k : Nat) (v : Int32) : mS := (σ.1, fun a b => if a = i ∧ b = k then v else σ.2.1 a b, σ.2.2)
def sR (σ : mS) (i k : Nat) (v : Option Nat) : mS := (σ.1, σ.2.1, fun a b => if a = i ∧ b = k then v else σ.2.2 a b)
def sN (σ : mS) : mS := (σ.1 + 1, fun a b => if a = σ.1 then 0 else σ.2.1 a b, fun a b => if a = σ.1 then none else σ.2.2 a b)
theorem mN_sI (σ : mS) (i k : Nat) (v : Int32) : mN (sI σ i k v) = mN σ := rfl
theorem mN_sR (σ : mS) (i k : Nat) (v : Option Nat) : mN (sR σ i k v) = mN σ := rfl
theorem mN_sN (σ : mS) : mN (sN σ) = mN σ + 1 := rfl
theorem mI_sI (σ : mS) (i k : Nat) (v : Int32) (a b : Nat) : mI (sI σ i k v) a b = if a = i ∧ b = k then v else mI σ a b := rfl
theorem mI_sR (σ : mS) (i k : Nat) (v : Option Nat) (a b : Nat) : mI (sR σ i k v) a b = mI σ a b := rfl
theorem mR_sI (σ : mS) (i k : Nat) (v : Int32) (a b : Nat) : mR (sI σ i k v) a b = mR σ a b := rfl
theorem mR_sR (σ : mS) (i k : Nat) (v : Option Nat) (a b : Nat) : mR (sR σ i k v) a b = if a = i ∧ b = k then v else mR σ a b := rfl
theorem mI_sN (σ : mS) (a b : Nat) : mI (sN σ) a b = if a = mN σ then 0 else mI σ a b := rfl
theorem mR_sN (σ : mS) (a b : Nat) : mR (sN σ) a b = if a = mN σ then none else mR σ a b := rfl
/-- the classes that hold: 0 Call, 1 Service, 2 DeadlineCalls, 3 the reference; a place is an int (0), a reference (1), or a cell of the same maker for good (2, how far on) -/
def mFk : Nat → Nat → Nat × Nat
  | 0, 1 => (1, 0)
  | 0, 2 => (1, 0)
  | 0, 7 => (1, 0)
  | 0, 8 => (1, 0)
  | 0, 11 => (1, 0)
  | 1, 10 => (2, 1)
  | 1, 12 => (2, 2)
  | 2, 0 => (2, 1)
  | 2, 1 => (2, 2)
  | 2, 5 => (1, 0)
  | 2, 6 => (1, 0)
  | 3, 2 => (2, 1)
  | 3, 3 => (2, 2)
  | 3, 4 => (2, 3)
  | 3, 5 => (2, 4)
  | 3, 6 => (2, 5)
  | 3, 7 => (2, 6)
  | 3, 8 => (2, 7)
  | 3, 9 => (2, 8)
  | 3, 10 => (2, 9)
  | 3, 11 => (2, 10)
  | 3, 12 => (2, 11)
  | 3, 14 => (2, 12)
  | 3, 15 => (2, 13)
  | 3, 16 => (2, 14)
  | 3, 17 => (2, 15)
  | 3, 18 => (2, 16)
  | 3, 19 => (2, 17)
  | 3, 20 => (2, 18)
  | 3, 21 => (2, 19)
  | 3, 22 => (2, 20)
  | 3, 23 => (2, 21)
  | 3, 24 => (2, 22)
  | 3, 25 => (2, 23)
  | 3, 26 => (2, 24)
  | 3, 27 => (2, 25)
  | 4, 10 => (1, 0)
  | 4, 12 => (1, 0)
  | 5, 0 => (1, 0)
  | 5, 1 => (1, 0)
  | 5, 5 => (1, 0)
  | 5, 6 => (1, 0)
  | 6, 2 => (1, 0)
  | 6, 3 => (1, 0)
  | 6, 4 => (1, 0)
  | 6, 5 => (1, 0)
  | 6, 6 => (1, 0)
  | 6, 7 => (1, 0)
  | 6, 8 => (1, 0)
  | 6, 9 => (1, 0)
  | 6, 10 => (1, 0)
  | 6, 11 => (1, 0)
  | 6, 12 => (1, 0)
  | 6, 14 => (1, 0)
  | 6, 15 => (1, 0)
  | 6, 16 => (1, 0)
  | 6, 17 => (1, 0)
  | 6, 18 => (1, 0)
  | 6, 19 => (1, 0)
  | 6, 20 => (1, 0)
  | 6, 21 => (1, 0)
  | 6, 22 => (1, 0)
  | 6, 23 => (1, 0)
  | 6, 24 => (1, 0)
  | 6, 25 => (1, 0)
  | 6, 26 => (1, 0)
  | 6, 27 => (1, 0)
  | _, _ => (0, 0)
def mNf : Nat → Nat
  | 0 => 18
  | 1 => 13
  | 2 => 7
  | 4 => 13
  | 5 => 7
  | _ => 28
/-- what a cell of the class's world is: (0, its class), (1, how long: ints), (2, how long: booleans), (3, how long: calls), (4, how long: services) -/
def kdC (i : Nat) : Nat × Nat := if i = 0 then (0, 2) else if i = 1 then (4, 6) else if i = 2 then (3, 200) else if 21 ≤ i then (0, 0) else if i % 3 = 0 then (0, 1) else if i % 3 = 1 then (4, 3) else (1, 8)
/-- .. and of the reference's -/
def kdM (i : Nat) : Nat × Nat := if i = 0 then (0, 3) else if i = 5 then (1, 18) else if i ≤ 11 then (1, 6) else if i = 20 then (1, 600) else if i ≤ 23 then (1, 200) else (2, 200)
abbrev mG : Type := va_G × ClassId × ClassId × ClassId × ClassId
def mTys (G : mG) : List (ClassId × FieldType) := [(G.2.1, .int), (G.2.2.1, .int), (G.2.2.2.1, .object RX0), (G.2.2.2.2, .object RX1)]
def mV (ad : Nat → Nat) (r : Option Nat) : Value := va_rf (r.map ad)
def mF (ad : Nat → Nat) (σ : mS) (i : Nat) (q : Nat × Nat) (k : Nat) : Value := match q.1 with
  | 0 => .int (mI σ i k)
  | 1 => mV ad (mR σ i k)
  | _ => .ref (ad (i + q.2))
def mL (ad : Nat → Nat) (σ : mS) (i ci : Nat) : List Value := (List.range (mNf ci)).map (fun k => mF ad σ i (mFk ci k) k)
def mE (G : mG) (kd : Nat → Nat × Nat) (ad : Nat → Nat) (σ : mS) (i : Nat) : va_E := match (kd i).1 with
  | 0 => .inr ((kd i).2, mL ad σ i (kd i).2)
  | 1 => .inl (G.2.1, (kd i).2, .inl (mI σ i))
  | 2 => .inl (G.2.2.1, (kd i).2, .inl (mI σ i))
  | 3 => .inl (G.2.2.2.1, (kd i).2, .inr (.inr (.inr (.inr (fun j => (mR σ i j).map ad)))))
  | _ => .inl (G.2.2.2.2, (kd i).2, .inr (.inr (.inr (.inr (fun j => (mR σ i j).map ad)))))
def mP (G : mG) (kd : Nat → Nat × Nat) (ad : Nat → Nat) (σ : mS) (H : Heap) : Prop :=
  (∀ i, i < mN σ → va_at G.1 vwCl (ad i, mE G kd ad σ i) H) ∧ (∀ i j, ad i = ad j → i = j) ∧ (∀ j, ad (mN σ + j) = H.size + j) ∧ ∀ i, kd i ≠ (0, 0) → i < 26 → (kd 0).2 ≤ 3 → i < mN σ
def mA (ad : Nat → Nat) : Nat → Prop := fun q => ∃ i, ad i = q
def mM (G : mG) (kd : Nat → Nat × Nat) (ad : Nat → Nat) (s : State) (σ : mS) (H : Heap) (locs : List Loc) : Prop := mP G kd ad σ H ∧ va_S (mA ad) s.heap H locs
def mO (kd : Nat → Nat × Nat) (ci i : Nat) (σ : mS) : Prop := kd i = (0, ci) ∧ i < mN σ
/-- an array of a kind and a length -/
def mB (kd : Nat → Nat × Nat) (t n i : Nat) (σ : mS) : Prop := kd i = (t, n) ∧ i < mN σ
def mX (p : Program) (s : State) (m : MethodId) (c : Code) (cc : ByteArray) (nL : Nat) (args : Array Value) (own : String) (G : mG) : Prop :=
  CallFix p m c cc nL s args wsL_law own ∧ va_K G.1 vwCl (mTys G) s
/-- the locals that are held, each of one slot -/
def ml_has (ls : Array Slot) (nL : Nat) (l : List (Nat × Value)) : Prop := lv_has ls nL l ∧ ∀ q ∈ l, q.2.category = 1
theorem mV_cat (ad : Nat → Nat) (r : Option Nat) : (mV ad r).category = 1 := by cases r <;> rfl
theorem mV_some (ad : Nat → Nat) (i : Nat) : mV ad (some i) = .ref (ad i) := rfl
theorem mV_none (ad : Nat → Nat) : mV ad none = .null := rfl
theorem ml_at {ls : Array Slot} {nL : Nat} {l : List (Nat × Value)} (h : ml_has ls nL l) (k : Nat) {i : Nat} {v : Value} (hk : l[k]? = some (i, v)) : ls[i]? = some (.val v) := lv_at h.1 k hk
theorem ml_sub {ls : Array Slot} {nL : Nat} {l l' : List (Nat × Value)} (h : ml_has ls nL l) (ks : List Nat) (hl : lv_pick l ks = l') : ml_has ls nL l' := by
  refine ⟨lv_sub h.1 ks hl, fun q hq => ?_⟩
  rw [← hl] at hq
  obtain ⟨k, -, hk⟩ := List.mem_filterMap.mp hq
  exact h.2 q (List.mem_of_getElem? hk)
theorem mE_0 {G : mG} {kd : Nat → Nat × Nat} {ad : Nat → Nat} {σ : mS} {i ci : Nat} (h : kd i = (0, ci)) : mE G kd ad σ i = .inr (ci, mL ad σ i ci) := by unfold mE; rw [h]; rfl
theorem mE_1 {G : mG} {kd : Nat → Nat × Nat} {ad : Nat → Nat} {σ : mS} {i n : Nat} (h : kd i = (1, n)) : mE G kd ad σ i = .inl (G.2.1, n, .inl (mI σ i)) := by unfold mE; rw [h]; rfl
theorem mE_2 {G : mG} {kd : Nat → Nat × Nat} {ad : Nat → Nat} {σ : mS} {i n : Nat} (h : kd i = (2, n)) : mE G kd ad σ i = .inl (G.2.2.1, n, .inl (mI σ i)) := by unfold mE; rw [h]; rfl
theorem mE_3 {G : mG} {kd : Nat → Nat × Nat} {ad : Nat → Nat} {σ : mS} {i n : Nat} (h : kd i = (3, n)) : mE G kd ad σ i = .inl (G.2.2.2.1, n, .inr (.inr (.inr (.inr (fun j => (mR σ i j).map ad))))) := by unfold mE; rw [h]; rfl
theorem mE_4 {G : mG} {kd : Nat → Nat × Nat} {ad : Nat → Nat} {σ : mS} {i n : Nat} (h : kd i = (4, n)) : mE G kd ad σ i = .inl (G.2.2.2.2, n, .inr (.inr (.inr (.inr (fun j => (mR σ i j).map ad))))) := by unfold mE; rw [h]; rfl
theorem mF_congr {ad : Nat → Nat} {σ σ' : mS} {i k : Nat} (q : Nat × Nat) (h1 : mI σ' i k = mI σ i k) (h2 : mR σ' i k = mR σ i k) : mF ad σ' i q k = mF ad σ i q k := by
  unfold mF
  split
  · rw [h1]
  · rw [h2]
  · rfl
theorem mE_congr {G : mG} {kd : Nat → Nat × Nat} {ad : Nat → Nat} {σ σ' : mS} {i : Nat} (h1 : ∀ k, mI σ' i k = mI σ i k) (h2 : ∀ k, mR σ' i k = mR σ i k) : mE G kd ad σ' i = mE G kd ad σ i := by
  have e1 : mI σ' i = mI σ i := funext h1
  have e2 : mL ad σ' i (kd i).2 = mL ad σ i (kd i).2 := List.map_congr_left (fun k _ => mF_congr _ (h1 k) (h2 k))
  unfold mE
  rw [e1, e2]
  simp only [h2]
theorem mL_get {ad : Nat → Nat} {σ : mS} {i ci k : Nat} (hk : k < mNf ci) : (mL ad σ i ci)[k]? = some (mF ad σ i (mFk ci k) k) := by
  simp [mL, hk]
theorem mL_len {ad : Nat → Nat} {σ : mS} {i ci : Nat} : (mL ad σ i ci).length = mNf ci := by simp [mL]
theorem mL_V {ad : Nat → Nat} {σ : mS} {i ci k : Nat} (hk : k < mNf ci) : vp_V (mL ad σ i ci) k = mF ad σ i (mFk ci k) k := by
  unfold vp_V
  rw [List.getD_eq_getElem?_getD, mL_get hk]
  rfl
/-- one cell is written: the store's own cell, the others as they were -/
theorem mM_set {G : mG} {kd : Nat → Nat × Nat} {ad : Nat → Nat} {s : State} {σ σ' : mS} {H H1 : Heap} {locs : List Loc} {i k : Nat} (hM : mM G kd ad s σ H locs) (hn : mN σ' = mN σ)
    (h1 : ∀ a b, a ≠ i → mI σ' a b = mI σ a b) (h2 : ∀ a b, a ≠ i → mR σ' a b = mR σ a b) (he : va_at G.1 vwCl (ad i, mE G kd ad σ' i) H1) (z : H1.size = H.size) (oq : ∀ q : Nat, q ≠ ad i → H1[q]? = H[q]?) :
    mM G kd ad s σ' H1 (locs ++ [⟨ad i, k⟩]) := by
  obtain ⟨⟨h3, h4, h5, h6⟩, hS⟩ := hM
  refine ⟨⟨fun j hj => ?_, h4, fun j => by rw [hn, z]; exact h5 j, fun j hk hj h3 => by rw [hn]; exact h6 j hk hj h3⟩, hS.put z oq ⟨i, rfl⟩⟩
  by_cases hji : j = i
  · subst hji; exact he
  · rw [mE_congr (fun k => h1 j k hji) (fun k => h2 j k hji)]
    exact (h3 j (by rw [← hn]; exact hj)).kept (oq _ (fun q => hji (h4 _ _ q)))
theorem kdC_sv {i : Nat} (h : kdC i = (0, 1)) : 3 ≤ i ∧ i < 21 ∧ i % 3 = 0 := by
  unfold kdC at h
  split at h
  · simp at h
  · split at h
    · simp at h
    · split at h
      · simp at h
      · split at h
        · simp at h
        · split at h
          · omega
          · split at h <;> simp at h
theorem kdC_of_sv {i : Nat} (h1 : 3 ≤ i) (h2 : i < 21) (h3 : i % 3 = 0) : kdC i = (0, 1) := by
  unfold kdC
  rw [if_neg (by omega), if_neg (by omega), if_neg (by omega), if_neg (by omega), if_pos h3]
theorem kdC_row {i : Nat} (h : kdC i = (0, 1)) : kdC (i + 1) = (4, 3) := by
  have h := kdC_sv h
  unfold kdC
  rw [if_neg (by omega), if_neg (by omega), if_neg (by omega), if_neg (by omega), if_neg (by omega), if_pos (by omega)]
theorem kdC_cnt {i : Nat} (h : kdC i = (0, 1)) : kdC (i + 2) = (1, 8) := by
  have h := kdC_sv h
  unfold kdC
  rw [if_neg (by omega), if_neg (by omega), if_neg (by omega), if_neg (by omega), if_neg (by omega), if_neg (by omega)]
theorem mB_fix {G : mG} {kd : Nat → Nat × Nat} {ad : Nat → Nat} {s : State} {σ : mS} {H : Heap} {locs : List Loc} (hM : mM G kd ad s σ H locs) {i t n : Nat} (hk : kd i = (t, n)) (h0 : (t, n) ≠ (0, 0)) (hi : i < 26) (h3 : (kd 0).2 ≤ 3) : mB kd t n i σ := ⟨hk, hM.1.2.2.2 i (by rw [hk]; exact h0) hi h3⟩
theorem mO_fix {G : mG} {kd : Nat → Nat × Nat} {ad : Nat → Nat} {s : State} {σ : mS} {H : Heap} {locs : List Loc} (hM : mM G kd ad s σ H locs) {i n : Nat} (hk : kd i = (0, n)) (h0 : (0, n) ≠ (0, 0)) (hi : i < 26) (h3 : (kd 0).2 ≤ 3) : mO kd n i σ := ⟨hk, hM.1.2.2.2 i (by rw [hk]; exact h0) hi h3⟩
theorem mO_sv {G : mG} {ad : Nat → Nat} {s : State} {σ : mS} {H : Heap} {locs : List Loc} (hM : mM G kdC ad s σ H locs) {i : Nat} (h : kdC i = (0, 1)) : mO kdC 1 i σ := mO_fix hM h (by decide) (by have := kdC_sv h; omega) (by decide)
theorem mB_row {G : mG} {ad : Nat → Nat} {s : State} {σ : mS} {H : Heap} {locs : List Loc} (hM : mM G kdC ad s σ H locs) {i : Nat} (h : kdC i = (0, 1)) : mB kdC 4 3 (i + 1) σ := mB_fix hM (kdC_row h) (by decide) (by have := kdC_sv h; omega) (by decide)
theorem mB_cnt {G : mG} {ad : Nat → Nat} {s : State} {σ : mS} {H : Heap} {locs : List Loc} (hM : mM G kdC ad s σ H locs) {i : Nat} (h : kdC i = (0, 1)) : mB kdC 1 8 (i + 2) σ := mB_fix hM (kdC_cnt h) (by decide) (by have := kdC_sv h; omega) (by decide)
section MR
variable {p : Program} {l : Launch} {e : Env} {R : Room} {s : State} {m : MethodId} {args : Array Value} {below : List Frame} {meth : Method} {c : Code} {H : Heap} {locs : List Loc} {cells slots : Nat} {Q : State → Prop}
variable {cc : ByteArray} {pc nL : Nat} {ls : Array Slot} {rest : List Value} {own : String} {G : mG} {kd : Nat → Nat × Nat} {ad : Nat → Nat} {σ : mS}
theorem mr_get (C : mX p s m c cc nL args own G) (hM : mM G kd ad s σ H locs) {ci i : Nat} (ho : mO kd ci i σ) {C0 : String} {T : u_T} {N : Nat} (hc : vwCl[ci]? = some (C0, T, N)) (hin : ∀ w ∈ u_ws C0 T N, w ∈ wsL_law) (k : Nat) (hk : k < N) (hkn : k < mNf ci) {index : Nat} {ref : String} (hlink : Cond.fieldLink own index ref (T k).2.1 (T k).2.2.1 ∈ wsL_law) (href : (T k).1 = ref) {v : Value} (hv : mF ad σ i (mFk ci k) k = v) (hdg : decode cc pc = .ok (.getfield index, 3))
    (kk : W p l e R s m args below meth c H locs cells slots Q (F0 m (pc + 3) ls (v :: rest))) : W p l e R s m args below meth c H locs cells slots Q (F0 m pc ls (mV ad (some i) :: rest)) := by
  obtain ⟨⟨hx, hb, hml, hown, hts⟩, hK⟩ := C
  have h0 : va_at G.1 vwCl (ad i, .inr (ci, mL ad σ i ci)) H := by rw [← mE_0 (G := G) ho.1]; exact hM.1.1 i ho.2
  have hP : va_P G.1 vwCl [(ad i, .inr (ci, mL ad σ i ci))] H := fun j q hq => by
    cases j with
    | zero => cases hq; exact h0
    | succ j => simp at hq
  subst href
  exact va_get (D := G.1) (cl := vwCl) (ci := ci) (C := C0) (T := T) (N := N) (Ts := wsL_law) hx hb hts hin hown hK hP 0 rfl hc k hk (hts _ hlink) (fun _ h9 => h9) (by rw [mL_get hkn, hv]) hdg kk
theorem mr_put (C : mX p s m c cc nL args own G) (hM : mM G kd ad s σ H locs) {ci i : Nat} (ho : mO kd ci i σ) {C0 : String} {T : u_T} {N : Nat} (hc : vwCl[ci]? = some (C0, T, N)) (hin : ∀ w ∈ u_ws C0 T N, w ∈ wsL_law) (ty0 : Nat → FieldType) (hty : ∀ k, k < N → parseFieldDescriptor (T k).2.2.1 = some (ty0 k)) (hnm : ∀ a, a < N → ∀ b, b < N → a ≠ b → (T a).2.1 ≠ (T b).2.1) (hNf : N = mNf ci)
    (k : Nat) (hk : k < N) {index : Nat} {ref : String} (hlink : Cond.fieldLink own index ref (T k).2.1 (T k).2.2.1 ∈ wsL_law) (href : (T k).1 = ref) (hfin : (T k).2.2.2 = false) {v : Value} (hn : narrow (ty0 k) v = v) (hfit : fits (ty0 k) v = true) (σ' : mS) (hn' : mN σ' = mN σ)
    (h1 : ∀ a b, ¬ (a = i ∧ b = k) → mI σ' a b = mI σ a b) (h2 : ∀ a b, ¬ (a = i ∧ b = k) → mR σ' a b = mR σ a b) (hv : mF ad σ' i (mFk ci k) k = v) (hdg : decode cc pc = .ok (.putfield index, 3))
    (kk : ∀ (H1 : Heap) (locs1 : List Loc), mM G kd ad s σ' H1 locs1 → W p l e R s m args below meth c H1 locs1 cells slots Q (F0 m (pc + 3) ls rest)) : W p l e R s m args below meth c H locs cells slots Q (F0 m pc ls (v :: mV ad (some i) :: rest)) := by
  obtain ⟨⟨hx, hb, hml, hown, hts⟩, hK⟩ := C
  have h0 : va_at G.1 vwCl (ad i, .inr (ci, mL ad σ i ci)) H := by rw [← mE_0 (G := G) ho.1]; exact hM.1.1 i ho.2
  have hap := va_apart (own := own) hts hin ty0 hty hnm hK hc
  obtain ⟨r, hr1, cell, q1, q2, q3, q4⟩ := h0
  have hr : r = (C0, T, N) := Option.some.inj (hr1.symm.trans hc)
  subst hr
  obtain ⟨hS, hfc, kC, hkC, hkind⟩ := hK.1 ci _ hc
  obtain ⟨cf, kf, fi, f, hi, hsl⟩ := hS k hk
  have hlay := hts _ (hin _ (u_in_lay hk))
  unfold u_lay at hlay
  rw [if_neg (by rw [hfin]; decide)] at hlay
  have hst := (u_facts hfc hkC (u_lays hts hin hk) hi).1
  have h6 := u_store hfc hkC hkind hlay hi (hty k hk) hn hfit
  subst href
  refine W.putK hx hb (f := f) ⟨hown, hts _ hlink, ⟨_, _, _, hi⟩, hst⟩ (by rw [q2]; exact h6) q1 q3 (by rw [hsl]; exact k2_hasslot (q4 k hk)) rfl rfl hdg fun H' e1 e2 e3 => ?_
  rw [hsl] at e1 ⊢
  refine kk H' _ (mM_set hM hn' (fun a b hab => h1 a b (fun q => hab q.1)) (fun a b hab => h2 a b (fun q => hab q.1)) ?_ e2 e3)
  rw [mE_0 ho.1]
  refine ⟨_, hc, t_OB.to (V := updV (vp_V (mL ad σ i ci)) k v) ⟨_, e1, q2, q3, t_set q4 hap hk v⟩ (fun j hj => ?_)⟩
  have hj' : j < mNf ci := by rw [← hNf]; exact hj
  by_cases hjk : j = k
  · subst hjk
    rw [mL_V hj', hv]
    simp [updV]
  · rw [mL_V hj', mF_congr _ (h1 i j (fun q => hjk q.2)) (h2 i j (fun q => hjk q.2))]
    simp [updV, hjk, mL_V hj']
theorem mr_iald (C : mX p s m c cc nL args own G) (hM : mM G kd ad s σ H locs) {i n j : Nat} (ho : mB kd 1 n i σ) {x : Int32} (hx1 : x = nI j) (hj : j < n) (hn : n < 2 ^ 31) (hdg : decode cc pc = .ok (.iaload, 1))
    (kk : W p l e R s m args below meth c H locs cells slots Q (F0 m (pc + 1) ls (.int (mI σ i j) :: rest))) : W p l e R s m args below meth c H locs cells slots Q (F0 m pc ls (.int x :: mV ad (some i) :: rest)) := by
  subst hx1
  have h0 : va_at G.1 vwCl (ad i, .inl (G.2.1, n, .inl (mI σ i))) H := by rw [← mE_1 ho.1]; exact hM.1.1 i ho.2
  have hP : va_P G.1 vwCl [(ad i, .inl (G.2.1, n, .inl (mI σ i)))] H := fun j q hq => by
    cases j with
    | zero => cases hq; exact h0
    | succ j => simp at hq
  refine va_iald C.1.1 C.1.2.1 C.2 hP 0 0 rfl rfl (vp_in_nI hj hn) hdg ?_
  rw [nI_clamp (by omega)]
  exact kk
theorem mr_sld (C : mX p s m c cc nL args own G) (hM : mM G kd ad s σ H locs) {i n j : Nat} (ho : mB kd 4 n i σ) {x : Int32} (hx1 : x = nI j) (hj : j < n) (hn : n < 2 ^ 31) (hdg : decode cc pc = .ok (.aaload, 1))
    (kk : ∀ r, r = mR σ i j → W p l e R s m args below meth c H locs cells slots Q (F0 m (pc + 1) ls (mV ad r :: rest))) : W p l e R s m args below meth c H locs cells slots Q (F0 m pc ls (.int x :: mV ad (some i) :: rest)) := by
  subst hx1
  have h0 : va_at G.1 vwCl (ad i, .inl (G.2.2.2.2, n, .inr (.inr (.inr (.inr (fun j => (mR σ i j).map ad)))))) H := by rw [← mE_4 ho.1]; exact hM.1.1 i ho.2
  have hP : va_P G.1 vwCl [(ad i, .inl (G.2.2.2.2, n, .inr (.inr (.inr (.inr (fun j => (mR σ i j).map ad))))))] H := fun j q hq => by
    cases j with
    | zero => cases hq; exact h0
    | succ j => simp at hq
  refine va_aldq C.1.1 C.1.2.1 C.2 hP 0 3 rfl rfl (vp_in_nI hj hn) hdg ?_
  rw [nI_clamp (by omega)]
  exact kk _ rfl
theorem mr_cld (C : mX p s m c cc nL args own G) (hM : mM G kd ad s σ H locs) {i n j : Nat} (ho : mB kd 3 n i σ) {x : Int32} (hx1 : x = nI j) (hj : j < n) (hn : n < 2 ^ 31) (hdg : decode cc pc = .ok (.aaload, 1))
    (kk : ∀ r, r = mR σ i j → W p l e R s m args below meth c H locs cells slots Q (F0 m (pc + 1) ls (mV ad r :: rest))) : W p l e R s m args below meth c H locs cells slots Q (F0 m pc ls (.int x :: mV ad (some i) :: rest)) := by
  subst hx1
  have h0 : va_at G.1 vwCl (ad i, .inl (G.2.2.2.1, n, .inr (.inr (.inr (.inr (fun j => (mR σ i j).map ad)))))) H := by rw [← mE_3 ho.1]; exact hM.1.1 i ho.2
  have hP : va_P G.1 vwCl [(ad i, .inl (G.2.2.2.1, n, .inr (.inr (.inr (.inr (fun j => (mR σ i j).map ad))))))] H := fun j q hq => by
    cases j with
    | zero => cases hq; exact h0
    | succ j => simp at hq
  refine va_aldq C.1.1 C.1.2.1 C.2 hP 0 2 rfl rfl (vp_in_nI hj hn) hdg ?_
  rw [nI_clamp (by omega)]
  exact kk _ rfl
theorem mr_alen (C : mX p s m c cc nL args own G) (hM : mM G kd ad s σ H locs) {i n t : Nat} (ho : mB kd t n i σ) (ht : 0 < t) (ht4 : t ≤ 4) {v : Int32} (hv : Int32.ofNat n = v) (hdg : decode cc pc = .ok (.arraylength, 1))
    (kk : W p l e R s m args below meth c H locs cells slots Q (F0 m (pc + 1) ls (.int v :: rest))) : W p l e R s m args below meth c H locs cells slots Q (F0 m pc ls (mV ad (some i) :: rest)) := by
  have one : ∀ e : va_E, va_at G.1 vwCl (ad i, e) H → va_P G.1 vwCl [(ad i, e)] H := fun e h0 j q hq => by
    cases j with
    | zero => cases hq; exact h0
    | succ j => simp at hq
  have h0 := hM.1.1 i ho.2
  match t, ht, ht4 with
  | 1, _, _ => rw [mE_1 ho.1] at h0; exact va_alen C.1.1 C.1.2.1 C.2 (one _ h0) 0 0 rfl rfl hv hdg kk
  | 2, _, _ => rw [mE_2 ho.1] at h0; exact va_alen C.1.1 C.1.2.1 C.2 (one _ h0) 0 1 rfl rfl hv hdg kk
  | 3, _, _ => rw [mE_3 ho.1] at h0; exact va_alen C.1.1 C.1.2.1 C.2 (one _ h0) 0 2 rfl rfl hv hdg kk
  | 4, _, _ => rw [mE_4 ho.1] at h0; exact va_alen C.1.1 C.1.2.1 C.2 (one _ h0) 0 3 rfl rfl hv hdg kk
theorem mI_off {σ : mS} {i k : Nat} {v : Int32} (a b : Nat) (h : ¬ (a = i ∧ b = k)) : mI (sI σ i k v) a b = mI σ a b := by rw [mI_sI, if_neg h]
theorem mR_off {σ : mS} {i k : Nat} {v : Option Nat} (a b : Nat) (h : ¬ (a = i ∧ b = k)) : mR (sR σ i k v) a b = mR σ a b := by rw [mR_sR, if_neg h]
theorem mr_iast (C : mX p s m c cc nL args own G) (hM : mM G kd ad s σ H locs) {i n j : Nat} (ho : mB kd 1 n i σ) {x v : Int32} (hx1 : x = nI j) (hj : j < n) (hn : n < 2 ^ 31) (hdg : decode cc pc = .ok (.iastore, 1))
    (kk : ∀ (H1 : Heap) (locs1 : List Loc), mM G kd ad s (sI σ i j v) H1 locs1 → W p l e R s m args below meth c H1 locs1 cells slots Q (F0 m (pc + 1) ls rest)) : W p l e R s m args below meth c H locs cells slots Q (F0 m pc ls (.int v :: .int x :: mV ad (some i) :: rest)) := by
  subst hx1
  have h0 : va_at G.1 vwCl (ad i, .inl (G.2.1, n, .inl (mI σ i))) H := by rw [← mE_1 ho.1]; exact hM.1.1 i ho.2
  have hc : (nI j).toNatClampNeg = j := nI_clamp (by omega)
  refine W.iast C.1.1 C.1.2.1 h0 ((C.2.2 0 _ rfl).1 n (fun j => .int (mI σ i j))) (fun q => by cases q) (by show ¬ (nI j < 0 ∨ (arrV _ _ _).slots.size ≤ _); rw [arrV_size]; exact vp_in_nI hj hn) rfl rfl hdg fun H1 e z oq => ?_
  rw [hc] at e ⊢
  refine kk H1 _ (mM_set hM rfl (fun a b hab => mI_off a b (fun q => hab q.1)) (fun a b hab => rfl) ?_ z oq)
  rw [mE_1 ho.1]
  show H1[ad i]? = some (vp_cell _ _)
  rw [e, vp_cell_i, vp_cell_i, arrV_store]
  congr 2
  funext q
  by_cases hq : q = j
  · subst hq
    simp [updV, mI_sI]
  · simp [updV, mI_sI, hq]
end MR
