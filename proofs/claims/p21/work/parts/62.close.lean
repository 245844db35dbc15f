/-! the reference's own steps, as functions of its store; what they keep -/
def qS (μ : mS) (c : Nat) : Nat := (mI μ 12 c).toNatClampNeg
theorem qS_e {μ : mS} {c s : Nat} (h : mI μ 12 c = nI s) (hs : s < 6) : qS μ c = s := by unfold qS; rw [h, nI_clamp (by omega)]
def eTok (μ : mS) (s : Nat) : mS := sI (sI μ 9 s (mI μ 9 s + if (50 : Int32) ≤ mI μ 9 s then 0 else 1)) 10 s 0
def eEnd (μ : mS) (c w : Nat) : mS := sI (sI μ 15 c (nI w)) 17 c (mI μ 0 1)
def eClose (μ : mS) (c w : Nat) : mS := if w = 3 then eTok (eEnd μ c w) (qS μ c) else eEnd μ c w
/-- places of the reference's store that its sense does not speak of -/
def irr (a b : Nat) : Prop := a ≠ 4 ∧ a ≠ 5 ∧ a ≠ 10 ∧ a ≠ 12 ∧ a ≠ 14 ∧ a ≠ 15 ∧ a ≠ 19 ∧ a ≠ 20 ∧ a ≠ 21 ∧ a ≠ 22 ∧ ¬ (a = 0 ∧ b = 13)
theorem wM_ir {μ : mS} {n a b : Nat} {v : Int32} (h : wM μ n) (hi : irr a b) : wM (sI μ a b v) n := by
  obtain ⟨h1, h2, h3, h4, h5, h6, h7, h8⟩ := h
  obtain ⟨i1, i2, i3, i4, i5, i6, i7, i8, i9, i10, i11⟩ := hi
  refine ⟨h1, h2, ?_, h4, ?_, ?_, ?_, ?_⟩
  · simp (disch := omega) only [oI]; exact h3
  · intro s hs
    have := h5 s hs
    simp (disch := omega) only [wS, oI]; exact this
  · intro c hc
    have := h6 c hc
    simp (disch := omega) only [wC, oI]; exact this
  · intro c hc
    have := h7 c hc
    simp (disch := omega) only [wA, oI]; exact this
  · intro p hp
    have := h8 p hp
    simp (disch := omega) only [oI]; exact this
/-- a call's state is set -/
theorem wM_st {μ : mS} {n c w : Nat} (h : wM μ n) (hc : c < n) (hw : w < 8) (hw2 : w ≠ 2) (hch : w < 2 → ∀ d, d < n → mI μ 14 d ≠ nI c) (hop : w < 3 → mI μ 15 c < 3) : wM (sI μ 15 c (nI w)) n := by
  obtain ⟨h1, h2, h3, h4, h5, h6, h7, h8⟩ := h
  refine ⟨h1, h2, ?_, h4, ?_, ?_, ?_, ?_⟩
  · simp (disch := omega) only [oI]; exact h3
  · intro s hs
    have := h5 s hs
    simp (disch := omega) only [wS, oI]; exact this
  · intro d hd
    obtain ⟨g1, g2, g3⟩ := h6 d hd
    simp (disch := omega) only [wC, oI]
    refine ⟨g1, g2, ?_⟩
    by_cases hdc : d = c
    · subst hdc; rw [nIi]; exact Or.inr ⟨w, hw, rfl⟩
    · rw [oI (by omega)]; exact g3
  · intro d hd hst
    by_cases hdc : d = c
    · subst hdc; rw [nIi] at hst; exact absurd (i_inj (b := 2) (by omega) (by omega) hst) hw2
    · rw [oI (by omega)] at hst
      obtain ⟨k, z, a, s, q1, q2, q3, q4, q5, q6, q7, q8, q9, q10⟩ := h7 d hd hst
      refine ⟨k, z, a, s, q1, q2, q3, q4, ?_⟩
      simp (disch := omega) only [oI]
      refine ⟨q5, q6, q7, q8, q9, fun e he hpe => ?_⟩
      obtain ⟨j, j1, j2, j3⟩ := q10 e he hpe
      refine ⟨j, j1, j2, fun hlt => j3 ?_⟩
      by_cases hec : e = c
      · subst hec; rw [nIi] at hlt; exact hop ((i_lt3 (by omega)).mp hlt)
      · rw [oI (by omega)] at hlt; exact hlt
  · intro p hp hst d hd
    rw [oI (by omega)]
    by_cases hpc : p = c
    · subst hpc; rw [nIi] at hst; exact hch ((i_lt2 (by omega)).mp hst) d hd
    · rw [oI (by omega)] at hst; exact h8 p hp hst d hd
theorem wM_end {μ : mS} {n c w : Nat} (h : wM μ n) (hc : c < n) (hw3 : 3 ≤ w) (hw : w < 8) : wM (eEnd μ c w) n := wM_ir (wM_st h hc hw (by omega) (fun q => by omega) (fun q => by omega)) (by unfold irr; omega)
/-- a service's breaker or tokens -/
theorem wM_fl {μ : mS} {n s f : Nat} (h : wM μ n) (hf : f < 3) : wM (sI μ 10 s (nI f)) n := by
  obtain ⟨h1, h2, h3, h4, h5, h6, h7, h8⟩ := h
  refine ⟨h1, h2, ?_, h4, ?_, ?_, ?_, ?_⟩
  · simp (disch := omega) only [oI]; exact h3
  · intro s' hs
    obtain ⟨g1, g2⟩ := h5 s' hs
    simp (disch := omega) only [wS, oI]
    refine ⟨?_, g2⟩
    by_cases hss : s' = s
    · subst hss; rw [nIi]; exact ⟨f, hf, rfl⟩
    · rw [oI (by omega)]; exact g1
  · intro c hc
    have := h6 c hc
    simp (disch := omega) only [wC, oI]; exact this
  · intro c hc
    have := h7 c hc
    simp (disch := omega) only [wA, oI]; exact this
  · intro p hp
    have := h8 p hp
    simp (disch := omega) only [oI]; exact this
theorem wM_tok {μ : mS} {n s : Nat} (h : wM μ n) : wM (eTok μ s) n := wM_fl (f := 0) (wM_ir h (by unfold irr; omega)) (by omega)
theorem wM_close {μ : mS} {n c w : Nat} (h : wM μ n) (hc : c < n) (hw3 : 3 ≤ w) (hw : w < 8) : wM (eClose μ c w) n := by
  unfold eClose
  split
  · exact wM_tok (wM_end h hc hw3 hw)
  · exact wM_end h hc hw3 hw
/-- the reference's store but for tokens and breaker of one service -/
theorem eC_o {μ : mS} {c w a b : Nat} (h : ¬ (a = 15 ∧ b = c)) (h2 : ¬ (a = 17 ∧ b = c)) (h3 : w = 3 → a ≠ 9 ∧ a ≠ 10) : mI (eClose μ c w) a b = mI μ a b := by
  unfold eClose eTok eEnd
  split
  · next hw => have := h3 hw; simp (disch := omega) only [oI]
  · simp (disch := omega) only [oI]
theorem eC_15 {μ : mS} {c w : Nat} : mI (eClose μ c w) 15 c = nI w := by
  unfold eClose eTok eEnd
  split <;> simp (disch := omega) only [oI, nIi]
theorem eC_17 {μ : mS} {c w : Nat} : mI (eClose μ c w) 17 c = mI μ 0 1 := by
  unfold eClose eTok eEnd
  split <;> simp (disch := omega) only [oI, nIi]
theorem eC_f {μ : mS} {c w s k : Nat} : fK (eClose μ c w) s k = fK (sI μ 15 c (nI w)) s k := by
  funext d
  simp only [fK]
  rw [eC_o (by omega) (by omega) (by omega), oI (a := 12) (by omega)]
  by_cases hd : d = c
  · subst hd; rw [eC_15, nIi]
  · rw [eC_o (by omega) (by omega) (by omega), oI (by omega)]
/-- what every way to close has in common -/
theorem c_com {σ σ' μ : mS} {n h c s w : Nat} (R : R0 σ μ n h) (hc : c < n) (hs : s < 6) (hsv : mI μ 12 c = nI s) (ho : mI μ 15 c < 3) (hw3 : 3 ≤ w) (hw : w < 8) (hR : ∀ a b, mR σ' a b = mR σ a b)
    (e : ∀ a b, a ≠ 5 + 3 * s → ¬ (a = 21 + c ∧ (b = 4 ∨ b = 5)) → ¬ (w = 3 ∧ a = 3 + 3 * s ∧ (b = 7 ∨ b = 8)) → ¬ (a = 0 ∧ b = 4) → ¬ (21 ≤ a ∧ (b = 15 ∨ b = 13)) → mI σ' a b = mI σ a b)
    (e4 : mI σ' (21 + c) 4 = nI w) (e5 : mI σ' (21 + c) 5 = mI μ 0 1) (eK : ∀ s', s' < 6 → ∀ k, k < 8 → mI σ' (5 + 3 * s') k = nI (cnt n (fK (sI μ 15 c (nI w)) s' k))) (e7 : w = 3 → mI σ' (3 + 3 * s) 7 = mI (eClose μ c w) 9 s ∧ mI σ' (3 + 3 * s) 8 = mI (eClose μ c w) 10 s) :
    (∀ s', s' < 6 → rV σ' (eClose μ c w) s') ∧ (∀ s', s' < 6 → rK σ' (eClose μ c w) n s') ∧ (∀ d, d < n → rC σ' (eClose μ c w) d) ∧ rL σ' (eClose μ c w) n h := by
  obtain ⟨hM, hG, hV, hK, hC, hO, hA, hL⟩ := R
  refine ⟨fun s' hs' => ?_, fun s' hs' k hk => by rw [eC_f]; exact eK s' hs' k hk, fun d hd => ?_, ?_⟩
  · obtain ⟨v1, v2, v3, v4, v5, v6, v7, v8, v9, v10, v11, v12, v13⟩ := hV s' hs'
    refine ⟨by rw [hR]; exact v1, ?_, ?_, ?_, ?_, ?_, ?_, ?_, ?_, ?_, ?_, ?_, ?_⟩
    · rw [e _ _ (by omega) (by omega) (by omega) (by omega) (by omega)]; exact v2
    · rw [e _ _ (by omega) (by omega) (by omega) (by omega) (by omega), eC_o (by omega) (by omega) (by omega)]; exact v3
    · rw [e _ _ (by omega) (by omega) (by omega) (by omega) (by omega), eC_o (by omega) (by omega) (by omega)]; exact v4
    · rw [e _ _ (by omega) (by omega) (by omega) (by omega) (by omega), eC_o (by omega) (by omega) (by omega)]; exact v5
    · rw [e _ _ (by omega) (by omega) (by omega) (by omega) (by omega), eC_o (by omega) (by omega) (by omega)]; exact v6
    · rw [e _ _ (by omega) (by omega) (by omega) (by omega) (by omega), eC_o (by omega) (by omega) (by omega)]; exact v7
    · rw [e _ _ (by omega) (by omega) (by omega) (by omega) (by omega), eC_o (by omega) (by omega) (by omega)]; exact v8
    · by_cases h3 : w = 3 ∧ s' = s
      · obtain ⟨h3, rfl⟩ := h3; exact (e7 h3).1
      · rw [e _ _ (by omega) (by omega) (by omega) (by omega) (by omega), v9]
        unfold eClose eTok eEnd
        rw [qS_e hsv hs]
        split
        · simp (disch := omega) only [oI]
        · simp (disch := omega) only [oI]
    · by_cases h3 : w = 3 ∧ s' = s
      · obtain ⟨h3, rfl⟩ := h3; exact (e7 h3).2
      · rw [e _ _ (by omega) (by omega) (by omega) (by omega) (by omega), v10]
        unfold eClose eTok eEnd
        rw [qS_e hsv hs]
        split
        · simp (disch := omega) only [oI]
        · simp (disch := omega) only [oI]
    · rw [e _ _ (by omega) (by omega) (by omega) (by omega) (by omega), eC_o (by omega) (by omega) (by omega)]; exact v11
    · rw [e _ _ (by omega) (by omega) (by omega) (by omega) (by omega), eC_o (by omega) (by omega) (by omega)]; exact v12
    · intro j r hj hr h4 h5
      rw [eC_o (by omega) (by omega) (by omega)] at h4 h5
      rw [hR]; exact v13 j r hj hr h4 h5
  · obtain ⟨v1, v2, v3, v4, v5, v6, v7, v8, v9⟩ := hC d hd
    refine ⟨by rw [hR]; exact v1, ?_, ?_, ?_, ?_, ?_, ?_, ?_, ?_⟩
    · rw [e _ _ (by omega) (by omega) (by omega) (by omega) (by omega)]; exact v2
    · rw [eC_o (by omega) (by omega) (by omega), hR]; exact v3
    · rw [eC_o (by omega) (by omega) (by omega), hR]; exact v4
    · rw [eC_o (by omega) (by omega) (by omega), hR]; exact v5
    · rw [e _ _ (by omega) (by omega) (by omega) (by omega) (by omega), eC_o (by omega) (by omega) (by omega)]; exact v6
    · by_cases hdc : d = c
      · subst hdc; rw [e4, eC_15]
      · rw [e _ _ (by omega) (by omega) (by omega) (by omega) (by omega), eC_o (by omega) (by omega) (by omega)]; exact v7
    · by_cases hdc : d = c
      · subst hdc; rw [e5, eC_17]
      · rw [e _ _ (by omega) (by omega) (by omega) (by omega) (by omega), eC_o (by omega) (by omega) (by omega)]; exact v8
    · by_cases hdc : d = c
      · subst hdc; rw [eC_15]; intro q; have := i_inj (b := 1) (by omega) (by omega) q; omega
      · rw [e _ _ (by omega) (by omega) (by omega) (by omega) (by omega), eC_o (by omega) (by omega) (by omega), eC_o (by omega) (by omega) (by omega)]; exact v9
  · obtain ⟨l1, l2, l3, l4, l5, l6, l7, l8⟩ := hL
    refine ⟨fun d hd => ?_, l2, by rw [hR]; exact l3, by rw [hR]; exact l4, fun d h1 h2 => by rw [hR]; exact l5 d h1 h2, fun d h1 h2 => by rw [hR]; exact l6 d h1 h2, by rw [hR]; exact l7, fun d hd => by rw [hR]; exact l8 d hd⟩
    have hdc : d ≠ c := fun q => l1 d hd (by rw [q]; exact ho)
    rw [eC_o (by omega) (by omega) (by omega)]; exact l1 d hd
