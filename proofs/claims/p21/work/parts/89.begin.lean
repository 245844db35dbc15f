/-! the two stores as the constructors leave them -/
def rBd (b : Nat) (σ : mS) : Prop := ∀ i k j, mR σ i k = some j → j < b
theorem rBd.I {b : Nat} {σ : mS} {i k : Nat} {v : Int32} (h : rBd b σ) : rBd b (sI σ i k v) := h
theorem rBd.R {b : Nat} {σ : mS} {i k v : Nat} (h : rBd b σ) (hv : v < b) : rBd b (sR σ i k (some v)) := fun a c j hj => by
  rw [mR_sR] at hj
  split at hj
  · cases hj; exact hv
  · exact h a c j hj
theorem rBd.N {b : Nat} {σ : mS} (h : rBd b σ) : rBd b (sN σ) := fun a c j hj => by
  rw [mR_sN] at hj
  split at hj
  · cases hj
  · exact h a c j hj
theorem rBd_0 {b : Nat} : rBd b mS0 := fun _ _ _ h => by cases h
theorem rBd_1 {b : Nat} : rBd b mS1 := rBd_0.N
theorem rBd_k1 {b i : Nat} {y : Int32} {σ : mS} (h : rBd b σ) (hi : i + 2 < b) : rBd b (k1_8 i y σ) :=
  (rBd.R (rBd.N (rBd.R (rBd.N (rBd.I (rBd.I (rBd.I (rBd.I h))))) (show i + 1 < b by omega))) hi).I
theorem rBd_k2 : rBd 21 k2_21 :=
  have h5 : rBd 21 k2_5 := rBd_k1 (i := 3) (rBd.N (rBd.R (rBd.N (rBd.R (rBd.N rBd_1) (by decide))) (by decide))) (by decide)
  have h8 : rBd 21 k2_8 := rBd_k1 (i := 6) (rBd.N (rBd.R h5 (by decide))) (by decide)
  have h11 : rBd 21 k2_11 := rBd_k1 (i := 9) (rBd.N (rBd.R h8 (by decide))) (by decide)
  have h14 : rBd 21 k2_14 := rBd_k1 (i := 12) (rBd.N (rBd.R h11 (by decide))) (by decide)
  have h17 : rBd 21 k2_17 := rBd_k1 (i := 15) (rBd.N (rBd.R h14 (by decide))) (by decide)
  have h20 : rBd 21 k2_20 := rBd_k1 (i := 18) (rBd.N (rBd.R h17 (by decide))) (by decide)
  rBd.R h20 (by decide)
theorem rBd_k3 : rBd 26 k3_73 := by
  repeat first
    | exact rBd_1
    | exact rBd_0
    | refine rBd.R ?_ (by decide)
    | refine rBd.N ?_
    | refine rBd.I ?_
theorem mFk3 : ∀ ci k, ci = 3 → (mFk ci k).2 ≤ 25 := by
  intro ci k h
  unfold mFk
  split <;> simp
theorem mRok3 : mRok kdM k3_73 := by
  refine ⟨fun i k j _ h => rBd_k3 i k j h, fun i ci k _ h _ _ => ?_⟩
  have h0 : i = 0 ∧ ci = 3 := by
    unfold kdM at h
    split at h
    · next q => exact ⟨q, by cases h; rfl⟩
    · split at h
      · simp at h
      · split at h
        · simp at h
        · split at h
          · simp at h
          · split at h <;> simp at h
  have := mFk3 ci k h0.2
  show i + _ < 26
  rw [h0.1]
  omega
set_option maxRecDepth 100000 in
theorem rel_begin : rel k2_21 k3_73 := by
  have z : ∀ c, ¬ c < 0 := fun c => Nat.not_lt_zero c
  refine ⟨0, 0, ⟨⟨rfl, mRok3, by decide +kernel, by omega, fun s hs => ⟨⟨0, by omega, (by decide +kernel : ∀ s, s < 6 → mI k3_73 10 s = nI 0) s hs⟩, 0, by omega, (by decide +kernel : ∀ s, s < 6 → mI k3_73 4 s = nI 0) s hs, fun j hj => absurd hj (z j)⟩, fun c hc => absurd hc (z c), fun c hc => absurd hc (z c), fun c hc => absurd hc (z c)⟩,
    ⟨rfl, fun i k j h => rBd_k2 i k j h, by decide +kernel, by decide +kernel, by decide +kernel, fun c _ hc => (by decide +kernel : ∀ c, c < 200 → mR k2_21 2 c = none) c hc⟩, fun s hs => ?_, fun s hs k hk => ?_, fun c hc => absurd hc (z c), fun c hc => absurd hc (z c), fun c hc => absurd hc (z c),
    fun c hc => absurd hc (z c), Nat.le_refl _, by decide +kernel, by decide +kernel, fun c _ hc => absurd hc (z c), fun c _ hc => absurd hc (z c), fun q => absurd q (z 0), fun c hc => absurd hc (z c)⟩, fun c p hc => absurd hc (z c)⟩
  · have h0 := (by decide +kernel : ∀ s, s < 6 → mR k2_21 1 s = some (3 + 3 * s) ∧ mI k2_21 (3 + 3 * s) 0 = nI s ∧ mI k2_21 (3 + 3 * s) 1 = mI k3_73 1 s ∧ mI k2_21 (3 + 3 * s) 2 = mI k3_73 2 s ∧ mI k2_21 (3 + 3 * s) 3 = mI k3_73 3 s ∧ mI k2_21 (3 + 3 * s) 4 = mI k3_73 6 s ∧ mI k2_21 (3 + 3 * s) 5 = mI k3_73 7 s ∧ mI k2_21 (3 + 3 * s) 6 = mI k3_73 8 s ∧ mI k2_21 (3 + 3 * s) 7 = mI k3_73 9 s ∧ mI k2_21 (3 + 3 * s) 8 = mI k3_73 10 s ∧ mI k2_21 (3 + 3 * s) 9 = mI k3_73 11 s ∧ mI k2_21 (3 + 3 * s) 11 = mI k3_73 4 s) s hs
    obtain ⟨v1, v2, v3, v4, v5, v6, v7, v8, v9, v10, v11, v12⟩ := h0
    refine ⟨v1, v2, v3, v4, v5, v6, v7, v8, v9, v10, v11, v12, fun j r hj _ h4 => absurd h4 ?_⟩
    rw [(by decide +kernel : ∀ s, s < 6 → mI k3_73 4 s = nI 0) s hs]
    exact nI_nlt (by omega) (by omega)
  · exact (by decide +kernel : ∀ s, s < 6 → ∀ k, k < 8 → mI k2_21 (5 + 3 * s) k = nI 0) s hs k hk
