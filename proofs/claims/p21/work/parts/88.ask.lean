/-! a service asks one more -/
theorem wM_row {μ : mS} {n s a o : Nat} (h : wM μ n) (hs : s < 6) (ha : a < 3) (h4 : mI μ 4 s = nI a) (ho : o < 6) : wM (sI (sI μ 5 (3 * s + a) (nI o)) 4 s (nI (a + 1))) n := by
  have em : ∀ x y, ¬ (x = 4 ∧ y = s) → ¬ (x = 5 ∧ y = 3 * s + a) → mI (sI (sI μ 5 (3 * s + a) (nI o)) 4 s (nI (a + 1))) x y = mI μ x y := fun x y h1 h2 => by rw [oI h1, oI h2]
  have e4 : mI (sI (sI μ 5 (3 * s + a) (nI o)) 4 s (nI (a + 1))) 4 s = nI (a + 1) := nIi
  have e5 : mI (sI (sI μ 5 (3 * s + a) (nI o)) 4 s (nI (a + 1))) 5 (3 * s + a) = nI o := by rw [oI (by omega), nIi]
  obtain ⟨h1, h2, h3, hn, h5, h6, h7, h8⟩ := h
  refine ⟨h1, h2, ?_, hn, ?_, ?_, ?_, ?_⟩
  · rw [em _ _ (by omega) (by omega)]; exact h3
  · intro s' hs'
    obtain ⟨g1, a', ha', g2, g3⟩ := h5 s' hs'
    refine ⟨by rw [em _ _ (by omega) (by omega)]; exact g1, ?_⟩
    by_cases hss : s' = s
    · subst hss
      have haa : a' = a := i_inj (by omega) (by omega) (g2.symm.trans h4)
      refine ⟨a + 1, by omega, e4, fun j hj => ?_⟩
      by_cases hja : j = a
      · rw [hja, e5]; exact ⟨o, ho, rfl⟩
      · rw [em _ _ (by omega) (by omega)]; exact g3 j (by omega)
    · refine ⟨a', ha', by rw [em _ _ (by omega) (by omega)]; exact g2, fun j hj => ?_⟩
      rw [em _ _ (by omega) (by omega)]; exact g3 j hj
  · intro c hc
    have := h6 c hc
    unfold wC at this ⊢
    simp (disch := omega) only [em]; exact this
  · intro p hp hst
    rw [em _ _ (by omega) (by omega)] at hst
    obtain ⟨k, z, a', s', q1, q2, q3, q4, q5, q6, q7, q8, q9, q10⟩ := h7 p hp hst
    have q10' : ∀ c, c < n → mI (sI (sI μ 5 (3 * s + a) (nI o)) 4 s (nI (a + 1))) 14 c = nI p → ∃ j, j ≤ k ∧ mI (sI (sI μ 5 (3 * s + a) (nI o)) 4 s (nI (a + 1))) 19 c = nI j ∧ (mI (sI (sI μ 5 (3 * s + a) (nI o)) 4 s (nI (a + 1))) 15 c < 3 → j = k) := fun c hc => by
      simp (disch := omega) only [em]; exact q10 c hc
    by_cases hss : s' = s
    · subst hss
      have haa : a' = a := i_inj (by omega) (by omega) (q8.symm.trans h4)
      refine ⟨k, z, a + 1, s', q1, by omega, by omega, q4, by rw [em _ _ (by omega) (by omega)]; exact q5, by rw [em _ _ (by omega) (by omega)]; exact q6, by rw [em _ _ (by omega) (by omega)]; exact q7, e4, fun j hj => ?_, q10'⟩
      rw [em _ _ (by omega) (by omega), em _ _ (by omega) (by omega)]; exact q9 j hj
    · refine ⟨k, z, a', s', q1, q2, q3, q4, by rw [em _ _ (by omega) (by omega)]; exact q5, by rw [em _ _ (by omega) (by omega)]; exact q6, by rw [em _ _ (by omega) (by omega)]; exact q7, by rw [em _ _ (by omega) (by omega)]; exact q8, fun j hj => ?_, q10'⟩
      rw [em _ _ (by omega) (by omega), em _ _ (by omega) (by omega)]; exact q9 j hj
  · intro p hp
    have := h8 p hp
    simp (disch := omega) only [em]; exact this
theorem R0_row {σ μ : mS} {n h s a o : Nat} (R : R0 σ μ n h) (hs : s < 6) (ha : a < 3) (h4 : mI μ 4 s = nI a) (ho : o < 6) : R0 (sI (sR σ (4 + 3 * s) a (some (3 + 3 * o))) (3 + 3 * s) 11 (nI (a + 1))) (sI (sI μ 5 (3 * s + a) (nI o)) 4 s (nI (a + 1))) n h := by
  have hM := wM_row R.1 hs ha h4 ho
  have em : ∀ x y, ¬ (x = 4 ∧ y = s) → ¬ (x = 5 ∧ y = 3 * s + a) → mI (sI (sI μ 5 (3 * s + a) (nI o)) 4 s (nI (a + 1))) x y = mI μ x y := fun x y h1 h2 => by rw [oI h1, oI h2]
  have e4 : mI (sI (sI μ 5 (3 * s + a) (nI o)) 4 s (nI (a + 1))) 4 s = nI (a + 1) := nIi
  have e5 : mI (sI (sI μ 5 (3 * s + a) (nI o)) 4 s (nI (a + 1))) 5 (3 * s + a) = nI o := by rw [oI (by omega), nIi]
  have e : ∀ x y, ¬ (x = 3 + 3 * s ∧ y = 11) → mI (sI (sR σ (4 + 3 * s) a (some (3 + 3 * o))) (3 + 3 * s) 11 (nI (a + 1))) x y = mI σ x y := fun x y h1 => by rw [oI h1]; rfl
  have e11 : mI (sI (sR σ (4 + 3 * s) a (some (3 + 3 * o))) (3 + 3 * s) 11 (nI (a + 1))) (3 + 3 * s) 11 = nI (a + 1) := nIi
  have eR : ∀ x y, ¬ (x = 4 + 3 * s ∧ y = a) → mR (sI (sR σ (4 + 3 * s) a (some (3 + 3 * o))) (3 + 3 * s) 11 (nI (a + 1))) x y = mR σ x y := fun x y h1 => by rw [mR_sI, oR h1]
  have eR1 : mR (sI (sR σ (4 + 3 * s) a (some (3 + 3 * o))) (3 + 3 * s) 11 (nI (a + 1))) (4 + 3 * s) a = some (3 + 3 * o) := by rw [mR_sI, nR]
  have hrr : rR (sI (sR σ (4 + 3 * s) a (some (3 + 3 * o))) (3 + 3 * s) 11 (nI (a + 1))) := rR.I (rR.R R.2.1.2.1 (fun j hj => by cases hj; have := R.2.1.1; omega))
  obtain ⟨-, ⟨g1, g2, g3, g4, g5, g6⟩, hV, hK, hC, hO, hA, hL⟩ := R
  have hN : mN (sI (sR σ (4 + 3 * s) a (some (3 + 3 * o))) (3 + 3 * s) 11 (nI (a + 1))) = 21 + n := g1
  generalize sI (sR σ (4 + 3 * s) a (some (3 + 3 * o))) (3 + 3 * s) 11 (nI (a + 1)) = σ' at *
  generalize sI (sI μ 5 (3 * s + a) (nI o)) 4 s (nI (a + 1)) = μ' at *
  refine ⟨hM, ⟨hN, hrr, by rw [e _ _ (by omega)]; exact g3, by rw [e _ _ (by omega), em _ _ (by omega) (by omega)]; exact g4, ?_, fun c h1 h2 => by rw [eR _ _ (by omega)]; exact g6 c h1 h2⟩, fun s' hs' => ?_, fun s' hs' k hk => ?_, fun c hc => ?_, fun p hp => ?_, fun p hp => ?_, ?_⟩
  · rw [fR_c (fun b => em 14 b (by omega) (by omega)) (fun b => em 15 b (by omega) (by omega)), e _ _ (by omega)]; exact g5
  · obtain ⟨v1, v2, v3, v4, v5, v6, v7, v8, v9, v10, v11, v12, v13⟩ := hV s' hs'
    refine ⟨by rw [eR _ _ (by omega)]; exact v1, by rw [e _ _ (by omega)]; exact v2, by rw [e _ _ (by omega), em _ _ (by omega) (by omega)]; exact v3, by rw [e _ _ (by omega), em _ _ (by omega) (by omega)]; exact v4, by rw [e _ _ (by omega), em _ _ (by omega) (by omega)]; exact v5, by rw [e _ _ (by omega), em _ _ (by omega) (by omega)]; exact v6, by rw [e _ _ (by omega), em _ _ (by omega) (by omega)]; exact v7, by rw [e _ _ (by omega), em _ _ (by omega) (by omega)]; exact v8, by rw [e _ _ (by omega), em _ _ (by omega) (by omega)]; exact v9, by rw [e _ _ (by omega), em _ _ (by omega) (by omega)]; exact v10, by rw [e _ _ (by omega), em _ _ (by omega) (by omega)]; exact v11, ?_, fun j r hj hr h1 h2 => ?_⟩
    · by_cases hss : s' = s
      · rw [hss, e11, e4]
      · rw [e _ _ (by omega), em _ _ (by omega) (by omega)]; exact v12
    · by_cases hss : s' = s
      · rw [hss] at h1 h2 ⊢
        rw [hss] at v13
        rw [e4] at h1
        have hja : j < a + 1 := (nI_ltI (by omega) (by omega)).mp h1
        by_cases hjj : j = a
        · rw [hjj] at h2 ⊢
          rw [e5] at h2
          rw [eR1, i_inj (by omega) (by omega) h2]
        · rw [em _ _ (by omega) (by omega)] at h2
          rw [eR _ _ (by omega)]
          exact v13 j r hj hr (by rw [h4]; exact nI_lt (by omega) (by omega)) h2
      · rw [em _ _ (by omega) (by omega)] at h1 h2
        rw [eR _ _ (by omega)]
        exact v13 j r hj hr h1 h2
  · rw [e _ _ (by omega), fK_c (fun b => em 12 b (by omega) (by omega)) (fun b => em 15 b (by omega) (by omega))]
    exact hK s' hs' k hk
  · have := hC c hc
    unfold rC at this ⊢
    simp (disch := omega) only [e, em, eR]; exact this
  · have := hO p hp
    unfold rO at this ⊢
    rw [fO_c (fun b => em 14 b (by omega) (by omega)) (fun b => em 15 b (by omega) (by omega))]
    simp (disch := omega) only [e, em]; exact this
  · have := hA p hp
    unfold rA at this ⊢
    rw [fT_c (fun b => em 14 b (by omega) (by omega)) (fun b => em 19 b (by omega) (by omega)) (em 22 p (by omega) (by omega))]
    simp (disch := omega) only [e, em, eR, qTry] at this ⊢; exact this
  · unfold rL at hL ⊢
    simp (disch := omega) only [em, eR]; exact hL
