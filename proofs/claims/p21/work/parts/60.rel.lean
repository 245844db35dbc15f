/-! THE TWO STORES HELD AGAINST EACH OTHER: no machine in it. -/
def cnt (n : Nat) (f : Nat → Bool) : Nat := match n with
  | 0 => 0
  | k + 1 => cnt k f + (if f k then 1 else 0)
theorem cnt_succ (n : Nat) (f : Nat → Bool) : cnt (n + 1) f = cnt n f + (if f n then 1 else 0) := rfl
theorem cnt_congr {n : Nat} {f g : Nat → Bool} (h : ∀ c, c < n → f c = g c) : cnt n f = cnt n g := by
  induction n with
  | zero => rfl
  | succ n ih => rw [cnt_succ, cnt_succ, ih (fun c hc => h c (Nat.lt_succ_of_lt hc)), h n (Nat.lt_succ_self n)]
theorem cnt_upd {n c : Nat} {f g : Nat → Bool} (hc : c < n) (h : ∀ d, d < n → d ≠ c → f d = g d) : cnt n f + (if g c then 1 else 0) = cnt n g + (if f c then 1 else 0) := by
  induction n with
  | zero => omega
  | succ n ih =>
    rw [cnt_succ, cnt_succ]
    by_cases hcn : c = n
    · subst hcn
      rw [cnt_congr (fun d hd => h d (Nat.lt_succ_of_lt hd) (Nat.ne_of_lt hd))]
      omega
    · have h1 := ih (by omega) (fun d hd => h d (Nat.lt_succ_of_lt hd))
      rw [h n (Nat.lt_succ_self n) (fun e => hcn e.symm)]
      omega
theorem cnt_le (n : Nat) (f : Nat → Bool) : cnt n f ≤ n := by
  induction n with
  | zero => exact Nat.le_refl _
  | succ n ih => rw [cnt_succ]; split <;> omega
theorem cnt_pos {n c : Nat} {f : Nat → Bool} (hc : c < n) (h : f c = true) : 0 < cnt n f := by
  induction n with
  | zero => omega
  | succ n ih =>
    rw [cnt_succ]
    by_cases hcn : c = n
    · subst hcn; rw [h]; simp
    · have := ih (by omega); omega
theorem cnt_zero {n : Nat} {f : Nat → Bool} (h : ∀ c, c < n → f c = false) : cnt n f = 0 := by
  induction n with
  | zero => rfl
  | succ n ih => rw [cnt_succ, ih (fun c hc => h c (Nat.lt_succ_of_lt hc)), h n (Nat.lt_succ_self n)]; rfl
theorem cnt_of0 {n : Nat} {f : Nat → Bool} (h : cnt n f = 0) : ∀ c, c < n → f c = false := fun c hc => by
  cases hf : f c with
  | false => rfl
  | true => have := cnt_pos hc hf; omega
theorem oI {σ : mS} {i k : Nat} {v : Int32} {a b : Nat} (h : ¬ (a = i ∧ b = k)) : mI (sI σ i k v) a b = mI σ a b := by rw [mI_sI, if_neg h]
theorem nIi {σ : mS} {i k : Nat} {v : Int32} : mI (sI σ i k v) i k = v := by rw [mI_sI, if_pos ⟨rfl, rfl⟩]
theorem oR {σ : mS} {i k : Nat} {v : Option Nat} {a b : Nat} (h : ¬ (a = i ∧ b = k)) : mR (sR σ i k v) a b = mR σ a b := by rw [mR_sR, if_neg h]
theorem nR {σ : mS} {i k : Nat} {v : Option Nat} : mR (sR σ i k v) i k = v := by rw [mR_sR, if_pos ⟨rfl, rfl⟩]
theorem sI_tw {σ : mS} {i k : Nat} {v w : Int32} : sI (sI σ i k v) i k w = sI σ i k w := by
  unfold sI
  congr 2
  funext a b
  dsimp only
  by_cases h : a = i ∧ b = k
  · rw [if_pos h, if_pos h]
  · rw [if_neg h, if_neg h, if_neg h]
theorem sI_cm {σ : mS} {i k i' k' : Nat} {v w : Int32} (h : ¬ (i = i' ∧ k = k')) : sI (sI σ i k v) i' k' w = sI (sI σ i' k' w) i k v := by
  unfold sI
  congr 2
  funext a b
  dsimp only
  by_cases h1 : a = i' ∧ b = k'
  · rw [if_pos h1, if_neg (fun q => h ⟨q.1.symm.trans h1.1, q.2.symm.trans h1.2⟩), if_pos h1]
  · rw [if_neg h1]
    by_cases h2 : a = i ∧ b = k
    · rw [if_pos h2, if_pos h2]
    · rw [if_neg h2, if_neg h2, if_neg h1]
theorem i_lt3 {k : Nat} (h : k < 200) : nI k < 3 ↔ k < 3 := nI_ltI (b := 3) (by omega) (by decide)
theorem i_lt2 {k : Nat} (h : k < 200) : nI k < 2 ↔ k < 2 := nI_ltI (b := 2) (by omega) (by decide)
theorem i_ne1 {p : Nat} (h : p < 2 ^ 31) : nI p ≠ -1 := fun q => nI_pos h (by rw [q]; decide)
theorem i_inj {a b : Nat} (ha : a < 2 ^ 31) (hb : b < 2 ^ 31) (h : nI a = nI b) : a = b := (nI_eq ha hb).mp h
theorem i_sub1 {a : Nat} (h : 0 < a) : nI a - 1 = nI (a - 1) := by
  obtain ⟨k, rfl⟩ : ∃ k, a = k + 1 := ⟨a - 1, by omega⟩
  exact nI_pred k
theorem mRok2 {σ : mS} (h : 21 ≤ mN σ) : ∀ i ci k, i < mN σ → kdC i = (0, ci) → (mFk ci k).1 ≠ 0 → (mFk ci k).1 ≠ 1 → i + (mFk ci k).2 < mN σ := by
  intro i ci k hi hk h0 h1
  have h2 : (mFk ci k).2 < 100 ∧ (ci = 0 → (mFk ci k).1 < 2) ∧ (ci = 1 → (mFk ci k).2 ≤ 2) ∧ (ci = 2 → (mFk ci k).2 ≤ 2) := by
    unfold mFk
    split <;> simp
  unfold kdC at hk
  split at hk
  · cases hk; have := h2.2.2.2 rfl; omega
  · split at hk
    · simp at hk
    · split at hk
      · simp at hk
      · split at hk
        · cases hk; have := h2.2.1 rfl; omega
        · split at hk
          · cases hk; have := h2.2.2.1 rfl; omega
          · split at hk <;> simp at hk
/-- all that the class's store refers to lies in it -/
def rR (σ : mS) : Prop := ∀ i k j, mR σ i k = some j → j < mN σ
theorem rR.ok {σ : mS} (h : rR σ) (h21 : 21 ≤ mN σ) : mRok kdC σ := ⟨fun i k j _ => h i k j, mRok2 h21⟩
theorem rR.I {σ : mS} {i k : Nat} {v : Int32} (h : rR σ) : rR (sI σ i k v) := h
theorem rR.R {σ : mS} {i k : Nat} {v : Option Nat} (h : rR σ) (hv : ∀ j, v = some j → j < mN σ) : rR (sR σ i k v) := fun a b j hj => by
  rw [mR_sR] at hj
  split at hj
  · exact hv j hj
  · exact h a b j hj
theorem rR.N {σ : mS} (h : rR σ) : rR (sN σ) := fun a b j hj => by
  rw [mR_sN] at hj
  split at hj
  · cases hj
  · exact Nat.lt_succ_of_lt (h a b j hj)
abbrev qTry (μ : mS) (p c : Nat) : Prop := mI μ 14 c = nI p ∧ mI μ 19 c = mI μ 22 p
/-- what an asking call of the reference is -/
def wA (μ : mS) (n p : Nat) : Prop := ∃ k z a s, k < z ∧ z ≤ a ∧ a ≤ 3 ∧ s < 6 ∧ mI μ 22 p = nI k ∧ mI μ 21 p = nI z ∧ mI μ 12 p = nI s ∧ mI μ 4 s = nI a ∧ (∀ j, j < z → mI μ 20 (3 * p + j) = mI μ 5 (3 * s + j)) ∧ ∀ c, c < n → mI μ 14 c = nI p → ∃ j, j ≤ k ∧ mI μ 19 c = nI j ∧ (mI μ 15 c < 3 → j = k)
def wS (μ : mS) (s : Nat) : Prop := (∃ f, f < 3 ∧ mI μ 10 s = nI f) ∧ ∃ a, a ≤ 3 ∧ mI μ 4 s = nI a ∧ ∀ j, j < a → ∃ r, r < 6 ∧ mI μ 5 (3 * s + j) = nI r
def wC (μ : mS) (c : Nat) : Prop := (∃ s, s < 6 ∧ mI μ 12 c = nI s) ∧ (mI μ 14 c = -1 ∨ ∃ p, p < c ∧ mI μ 14 c = nI p) ∧ (mI μ 15 c = -1 ∨ ∃ k, k < 8 ∧ mI μ 15 c = nI k)
/-- the reference's own sense -/
def wM (μ : mS) (n : Nat) : Prop := mN μ = 26 ∧ mRok kdM μ ∧ mI μ 0 13 = nI n ∧ n ≤ 200 ∧ (∀ s, s < 6 → wS μ s) ∧ (∀ c, c < n → wC μ c) ∧ (∀ c, c < n → mI μ 15 c = 2 → wA μ n c) ∧ ∀ p, p < n → mI μ 15 p < 2 → ∀ c, c < n → mI μ 14 c ≠ nI p
/-- a service: the class's and the reference's -/
def rV (σ μ : mS) (s : Nat) : Prop := mR σ 1 s = some (3 + 3 * s) ∧ mI σ (3 + 3 * s) 0 = nI s ∧ mI σ (3 + 3 * s) 1 = mI μ 1 s ∧ mI σ (3 + 3 * s) 2 = mI μ 2 s ∧ mI σ (3 + 3 * s) 3 = mI μ 3 s ∧ mI σ (3 + 3 * s) 4 = mI μ 6 s ∧ mI σ (3 + 3 * s) 5 = mI μ 7 s ∧ mI σ (3 + 3 * s) 6 = mI μ 8 s ∧ mI σ (3 + 3 * s) 7 = mI μ 9 s ∧ mI σ (3 + 3 * s) 8 = mI μ 10 s ∧ mI σ (3 + 3 * s) 9 = mI μ 11 s ∧ mI σ (3 + 3 * s) 11 = mI μ 4 s ∧ ∀ j r, j < 3 → r < 6 → nI j < mI μ 4 s → mI μ 5 (3 * s + j) = nI r → mR σ (4 + 3 * s) j = some (3 + 3 * r)
abbrev fK (μ : mS) (s k : Nat) : Nat → Bool := fun c => decide (mI μ 12 c = nI s ∧ mI μ 15 c = nI k)
def rK (σ μ : mS) (n s : Nat) : Prop := ∀ k, k < 8 → mI σ (5 + 3 * s) k = nI (cnt n (fK μ s k))
def rC (σ μ : mS) (c : Nat) : Prop := mR σ 2 c = some (21 + c) ∧ mI σ (21 + c) 0 = nI c ∧ (∀ s, s < 6 → mI μ 12 c = nI s → mR σ (21 + c) 1 = some (3 + 3 * s)) ∧ (mI μ 14 c = -1 → mR σ (21 + c) 2 = none) ∧ (∀ p, p < c → mI μ 14 c = nI p → mR σ (21 + c) 2 = some (21 + p)) ∧ mI σ (21 + c) 3 = mI μ 13 c ∧ mI σ (21 + c) 4 = mI μ 15 c ∧ mI σ (21 + c) 5 = mI μ 17 c ∧ (mI μ 15 c = 1 → mI σ (21 + c) 6 = mI μ 16 c)
abbrev fO (μ : mS) (p : Nat) : Nat → Bool := fun c => decide (mI μ 14 c = nI p ∧ mI μ 15 c < 3)
def rO (σ μ : mS) (n p : Nat) : Prop := mI μ 15 p < 3 → mI σ (21 + p) 15 = nI (cnt n (fO μ p))
abbrev fT (μ : mS) (p : Nat) : Nat → Bool := fun c => decide (qTry μ p c)
def rA (σ μ : mS) (n p : Nat) : Prop := mI μ 15 p = 2 → mI σ (21 + p) 9 = mI μ 21 p ∧ mI σ (21 + p) 10 = mI μ 22 p ∧ (∀ k r, k < 3 → r < 6 → mI μ 22 p = nI k → mI μ 20 (3 * p + k) = nI r → mR σ (21 + p) 11 = some (3 + 3 * r)) ∧ mI σ (21 + p) 12 = mI μ 24 p ∧ (mI σ (21 + p) 13 = 0 ↔ ∀ c, c < n → qTry μ p c → mI μ 15 c ≠ 3) ∧ mI σ (21 + p) 14 = nI (cnt n (fT μ p)) ∧ mI σ (21 + p) 16 = mI μ 23 p ∧ ∀ c, c < n → qTry μ p c → mI σ (21 + p) 14 = 1 → mI σ (21 + p) 17 = mI μ 18 c
def nx (c n : Nat) : Option Nat := if c < n then some (21 + c) else none
/-- the chain: from h on it is whole; before h all are over -/
def rL (σ μ : mS) (n h : Nat) : Prop := (∀ c, c < h → ¬ mI μ 15 c < 3) ∧ h ≤ n ∧ mR σ 0 5 = nx h n ∧ mR σ 0 6 = (if h < n then some (20 + n) else none) ∧ (∀ c, h ≤ c → c < n → mR σ (21 + c) 8 = nx (c + 1) n) ∧ (∀ c, h < c → c < n → mR σ (21 + c) 7 = some (20 + c)) ∧ (h < n → mR σ (21 + h) 7 = none) ∧ ∀ c, c < h → mR σ (21 + c) 8 = none ∨ mR σ (21 + c) 8 = some (22 + c) ∧ c + 1 < n
abbrev fR (μ : mS) : Nat → Bool := fun c => decide (mI μ 14 c = -1 ∧ ¬ mI μ 15 c < 3)
def rG (σ μ : mS) (n : Nat) : Prop := mN σ = 21 + n ∧ rR σ ∧ mI σ 0 2 = nI n ∧ mI σ 0 3 = mI μ 0 1 ∧ mI σ 0 4 = nI (cnt n (fR μ)) ∧ ∀ c, n ≤ c → c < 200 → mR σ 2 c = none
def R0 (σ μ : mS) (n h : Nat) : Prop := wM μ n ∧ rG σ μ n ∧ (∀ s, s < 6 → rV σ μ s) ∧ (∀ s, s < 6 → rK σ μ n s) ∧ (∀ c, c < n → rC σ μ c) ∧ (∀ c, c < n → rO σ μ n c) ∧ (∀ c, c < n → rA σ μ n c) ∧ rL σ μ n h
/-- what is below a call that is over is over -/
def wCl (μ : mS) (n : Nat) : Prop := ∀ c p, c < n → p < n → mI μ 14 c = nI p → ¬ mI μ 15 p < 3 → ¬ mI μ 15 c < 3
def rel (σ μ : mS) : Prop := ∃ n h, R0 σ μ n h ∧ wCl μ n
theorem kS {s : Nat} (h : s < 6) : kdC (3 + 3 * s) = (0, 1) := kdC_of_sv (by omega) (by omega) (by omega)
theorem kO {c n : Nat} {σ : mS} (hc : c < n) (h : mN σ = 21 + n) : mO kdC 0 (21 + c) σ := ⟨by unfold kdC; rw [if_neg (by omega), if_neg (by omega), if_neg (by omega), if_pos (by omega)], by omega⟩
