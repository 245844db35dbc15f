theorem fK_same {μ : mS} {c w s k : Nat} (h : mI μ 15 c = nI w) : fK (sI μ 15 c (nI w)) s k = fK μ s k := by
  funext d
  simp only [fK]
  rw [oI (a := 12) (by omega)]
  by_cases hd : d = c
  · subst hd; rw [nIi, h]
  · rw [oI (by omega)]
/-- .. and where its state stays -/
theorem R0_cl {σ σ' μ μ' : mS} {n h c w : Nat} (R : R0 σ μ n h) (hc : c < n) (hw : w < 3) (h15 : mI μ 15 c = nI w) (hN : mN σ' = mN σ) (hR' : ∀ a b, ¬ (a = 21 + c ∧ b = 11) → mR σ' a b = mR σ a b) (hrr : rR σ')
    (e : ∀ a b, ¬ (a = 21 + c ∧ (9 ≤ b ∧ b ≤ 17 ∧ b ≠ 15)) → mI σ' a b = mI σ a b) (hM : wM μ' n)
    (em : ∀ a b, ¬ ((a = 21 ∨ a = 22 ∨ a = 23 ∨ a = 24) ∧ b = c) → ¬ (a = 20 ∧ 3 * c ≤ b ∧ b < 3 * c + 3) → mI μ' a b = mI μ a b) (hA' : w = 2 → rA σ' μ' n c) : R0 σ' μ' n h := by
  have hn := R.n2
  obtain ⟨s, hs, hsv, hr⟩ := R.svc hc
  have hC := R.2.2.2.2.1 c hc
  refine R0_st (w := w) R hc hs (by rw [h15]; exact (i_lt3 (by omega)).mpr hw) hw hN hR' hrr (fun a b h1 h2 => e a b (by omega)) ?_ (fun s' hs' k hk => ?_) (fun q => ?_) hM ?_ (fun a b h1 h2 => em a b (by omega) h2) hA'
  · rw [e _ _ (by omega), R.st hc, h15]
  · rw [e _ _ (by omega), fK_same h15]; exact R.2.2.2.1 s' hs' k hk
  · rw [e _ _ (by omega), em _ _ (by omega) (by omega)]
    exact hC.2.2.2.2.2.2.2.2 (by rw [h15, q]; rfl)
  · rw [em _ _ (by omega) (by omega), h15]
theorem s_askNow {σ μ μ' : mS} {n h c r k : Nat} {Q : mS → Prop} (R : R0 σ μ n h) (hc : c < n) (ho : mI μ 15 c < 3) (hr : r < 6) (hM : wM μ' n) (m15 : mI μ' 15 c = 2)
    (em : ∀ a b, ¬ ((a = 15 ∨ a = 16 ∨ a = 21 ∨ a = 22 ∨ a = 23 ∨ a = 24) ∧ b = c) → ¬ (a = 20 ∧ 3 * c ≤ b ∧ b < 3 * c + 3) → mI μ' a b = mI μ a b)
    (h21 : mI σ (21 + c) 9 = mI μ' 21 c) (h22 : mI μ' 22 c = nI k) (hk : k < 3) (h20 : mI μ' 20 (3 * c + k) = nI r) (h23 : mI μ' 23 c = 0) (h24 : mI μ' 24 c = 1) (hno : ∀ d, d < n → ¬ qTry μ' c d) (hQ : ∀ σ', R0 σ' μ' n h → Q σ') : w_X0_askNow (21 + c) (some (3 + 3 * r)) (nI k) σ Q := by
  obtain ⟨s, hs, hsv, hrs⟩ := R.svc hc
  unfold w_X0_askNow
  refine ⟨R.mo hc, s_become (w := 2) R hc hs hsv (by omega) (fun σ1 n1 r1 e1 e4 eK => ⟨kO hc (by rw [n1]; exact R.2.1.1), ?_⟩)⟩
  rintro _ rfl _ rfl _ rfl _ rfl _ rfl _ rfl
  refine hQ _ (R0_st (w := 2) R hc hs ho (by omega) n1 (fun a b h1 => ?_) (fun a b j hj => ?_) (fun a b h1 h2 => ?_) ?_ (fun s' hs' k' hk' => ?_) (fun q => by omega) hM m15 em (fun _ _ => ?_))
  · simp (disch := omega) only [mR_sI, oR]; exact r1 a b
  · simp only [mR_sI, mR_sR] at hj
    show j < mN σ1
    rw [n1, R.2.1.1]
    split at hj
    · cases hj; omega
    · rw [r1] at hj
      have := R.2.1.2.1 a b j hj
      rw [R.2.1.1] at this
      exact this
  · simp (disch := omega) only [oI, mI_sR]; exact e1 a b h1 (by omega)
  · simp (disch := omega) only [oI, mI_sR]; exact e4
  · simp (disch := omega) only [oI, mI_sR]; exact eK s' hs' k' hk'
  · simp (disch := omega) only [oI, nIi, mI_sR, mR_sI, nR]
    refine ⟨?_, h22.symm, ?_, h24.symm, ?_, ?_, h23.symm, ?_⟩
    · rw [e1 _ _ (by omega) (by omega)]; exact h21
    · intro k' r' hk' hr' h1 h2
      rw [h22] at h1
      have := i_inj (by omega) (by omega) h1
      subst this
      rw [h20] at h2
      rw [i_inj (by omega) (by omega) h2]
    · exact ⟨fun _ d hd hq => absurd hq (hno d hd), fun _ => trivial⟩
    · rw [cnt_zero (fun d hd => decide_eq_false (hno d hd))]; rfl
    · exact fun d hd hq => absurd hq (hno d hd)
def eRow (μ : mS) (c s : Nat) : mS := sI (sI (sI μ 20 (3 * c) (mI μ 5 (3 * s))) 20 (3 * c + 1) (mI μ 5 (3 * s + 1))) 20 (3 * c + 2) (mI μ 5 (3 * s + 2))
def eAsk (μ : mS) (c : Nat) : mS := sI (sI (sI (sI (eRow (sI μ 15 c 2) c (qS μ c)) 21 c (mI μ 4 (qS μ c))) 22 c 0) 23 c 0) 24 c 1
theorem eAsk_o {μ : mS} {c a b : Nat} (h : ¬ ((a = 15 ∨ a = 21 ∨ a = 22 ∨ a = 23 ∨ a = 24) ∧ b = c)) (h2 : ¬ (a = 20 ∧ 3 * c ≤ b ∧ b < 3 * c + 3)) : mI (eAsk μ c) a b = mI μ a b := by
  unfold eAsk eRow
  simp (disch := omega) only [oI]
theorem eAsk_20 {μ : mS} {c j : Nat} (hj : j < 3) : mI (eAsk μ c) 20 (3 * c + j) = mI μ 5 (3 * qS μ c + j) := by
  unfold eAsk eRow
  simp (disch := omega) only [oI]
  rcases (show j = 0 ∨ j = 1 ∨ j = 2 by omega) with rfl | rfl | rfl
  · rw [oI (by omega), oI (by omega), Nat.add_zero, nIi]; rfl
  · rw [oI (by omega), nIi]
  · rw [nIi]
theorem eAsk_x {μ : mS} {c : Nat} : mI (eAsk μ c) 15 c = 2 ∧ mI (eAsk μ c) 21 c = mI μ 4 (qS μ c) ∧ mI (eAsk μ c) 22 c = 0 ∧ mI (eAsk μ c) 23 c = 0 ∧ mI (eAsk μ c) 24 c = 1 := by
  unfold eAsk eRow
  simp (disch := omega) only [oI, nIi, and_self]
theorem wM_ask {μ : mS} {n c s : Nat} (h : wM μ n) (hc : c < n) (h1 : mI μ 15 c = 1) (hs : s < 6) (hsv : mI μ 12 c = nI s) (ha : mI μ 4 s ≠ 0) : wM (eAsk μ c) n := by
  have hq := qS_e hsv hs
  obtain ⟨x15, x21, x22, x23, x24⟩ := eAsk_x (μ := μ) (c := c)
  obtain ⟨w1, w2, w3, w4, w5, w6, w7, w8⟩ := h
  obtain ⟨-, a, ha3, hav, har⟩ := w5 s hs
  have hno := w8 c hc (by rw [h1]; decide)
  refine ⟨w1, w2, by rw [eAsk_o (by omega) (by omega)]; exact w3, w4, fun s' hs' => ?_, fun d hd => ?_, fun p hp hst => ?_, fun p hp hst d hd => ?_⟩
  · have := w5 s' hs'
    unfold wS at this ⊢
    simp (disch := omega) only [eAsk_o]; exact this
  · obtain ⟨g1, g2, g3⟩ := w6 d hd
    unfold wC
    rw [eAsk_o (by omega) (by omega), eAsk_o (by omega) (by omega)]
    refine ⟨g1, g2, ?_⟩
    by_cases hdc : d = c
    · subst hdc; rw [x15]; exact Or.inr ⟨2, by omega, rfl⟩
    · rw [eAsk_o (by omega) (by omega)]; exact g3
  · by_cases hpc : p = c
    · subst hpc
      have ha0 : 0 < a := Nat.pos_of_ne_zero fun q => ha (by rw [hav, q]; rfl)
      refine ⟨0, a, a, s, ha0, Nat.le_refl _, ha3, hs, x22, by rw [x21, hq]; exact hav, by rw [eAsk_o (by omega) (by omega)]; exact hsv, by rw [eAsk_o (by omega) (by omega)]; exact hav, fun j hj => ?_, fun d hd hq2 => ?_⟩
      · rw [eAsk_20 (by omega), eAsk_o (by omega) (by omega), hq]
      · rw [eAsk_o (by omega) (by omega)] at hq2
        exact absurd hq2 (hno d hd)
    · rw [eAsk_o (by omega) (by omega)] at hst
      obtain ⟨k, z, a, s, q1, q2, q3, q4, q5, q6, q7, q8, q9, q10⟩ := w7 p hp hst
      refine ⟨k, z, a, s, q1, q2, q3, q4, ?_⟩
      simp (disch := omega) only [eAsk_o]
      refine ⟨q5, q6, q7, q8, fun j hj => ?_, fun e he hpe => ?_⟩
      · rw [eAsk_o (by omega) (by omega)]; exact q9 j hj
      · obtain ⟨j, j1, j2, j3⟩ := q10 e he hpe
        refine ⟨j, j1, j2, fun hlt => j3 ?_⟩
        by_cases hec : e = c
        · subst hec; rw [h1]; decide
        · rw [eAsk_o (by omega) (by omega)] at hlt; exact hlt
  · rw [eAsk_o (by omega) (by omega)]
    by_cases hpc : p = c
    · subst hpc; rw [x15] at hst; exact absurd hst (by decide)
    · rw [eAsk_o (by omega) (by omega)] at hst; exact w8 p hp hst d hd
