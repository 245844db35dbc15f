theorem fK_c {μ μ' : mS} {s k : Nat} (h1 : ∀ b, mI μ' 12 b = mI μ 12 b) (h2 : ∀ b, mI μ' 15 b = mI μ 15 b) : fK μ' s k = fK μ s k := by funext d; simp only [fK]; rw [h1, h2]
theorem fO_c {μ μ' : mS} {p : Nat} (h1 : ∀ b, mI μ' 14 b = mI μ 14 b) (h2 : ∀ b, mI μ' 15 b = mI μ 15 b) : fO μ' p = fO μ p := by funext d; simp only [fO]; rw [h1, h2]
theorem fR_c {μ μ' : mS} (h1 : ∀ b, mI μ' 14 b = mI μ 14 b) (h2 : ∀ b, mI μ' 15 b = mI μ 15 b) : fR μ' = fR μ := by funext d; simp only [fR]; rw [h1, h2]
theorem fT_c {μ μ' : mS} {p : Nat} (h1 : ∀ b, mI μ' 14 b = mI μ 14 b) (h2 : ∀ b, mI μ' 19 b = mI μ 19 b) (h3 : mI μ' 22 p = mI μ 22 p) : fT μ' p = fT μ p := by funext d; simp only [fT, qTry]; rw [h1, h2, h3]
/-- numbers of one service change, on both sides -/
theorem R0_sv {σ σ' μ μ' : mS} {n h s : Nat} (R : R0 σ μ n h) (hs : s < 6) (hN : mN σ' = mN σ) (hR : ∀ a b, mR σ' a b = mR σ a b) (e : ∀ a b, a ≠ 3 + 3 * s → mI σ' a b = mI σ a b) (hM : wM μ' n) (em : ∀ a b, ¬ (b = s ∧ 1 ≤ a ∧ a ≤ 11 ∧ a ≠ 4 ∧ a ≠ 5) → mI μ' a b = mI μ a b)
    (h0 : mI σ' (3 + 3 * s) 0 = mI σ (3 + 3 * s) 0) (h11 : mI σ' (3 + 3 * s) 11 = mI σ (3 + 3 * s) 11) (hv : mI σ' (3 + 3 * s) 1 = mI μ' 1 s ∧ mI σ' (3 + 3 * s) 2 = mI μ' 2 s ∧ mI σ' (3 + 3 * s) 3 = mI μ' 3 s ∧ mI σ' (3 + 3 * s) 4 = mI μ' 6 s ∧ mI σ' (3 + 3 * s) 5 = mI μ' 7 s ∧ mI σ' (3 + 3 * s) 6 = mI μ' 8 s ∧ mI σ' (3 + 3 * s) 7 = mI μ' 9 s ∧ mI σ' (3 + 3 * s) 8 = mI μ' 10 s ∧ mI σ' (3 + 3 * s) 9 = mI μ' 11 s) : R0 σ' μ' n h := by
  obtain ⟨-, ⟨g1, g2, g3, g4, g5, g6⟩, hV, hK, hC, hO, hA, hL⟩ := R
  refine ⟨hM, ⟨by rw [hN]; exact g1, fun a b j hj => by rw [hR] at hj; rw [hN]; exact g2 a b j hj, ?_, ?_, ?_, fun d h1 h2 => by rw [hR]; exact g6 d h1 h2⟩, fun s' hs' => ?_, fun s' hs' k hk => ?_, fun d hd => ?_, fun p hp => ?_, fun p hp => ?_, ?_⟩
  · simp (disch := omega) only [e]; exact g3
  · simp (disch := omega) only [e, em]; exact g4
  · rw [fR_c (fun b => em 14 b (by omega)) (fun b => em 15 b (by omega))]; simp (disch := omega) only [e]; exact g5
  · obtain ⟨v1, v2, v3, v4, v5, v6, v7, v8, v9, v10, v11, v12, v13⟩ := hV s' hs'
    by_cases hss : s' = s
    · subst hss
      obtain ⟨x1, x2, x3, x4, x5, x6, x7, x8, x9⟩ := hv
      refine ⟨by rw [hR]; exact v1, by rw [h0]; exact v2, x1, x2, x3, x4, x5, x6, x7, x8, x9, by rw [h11, em _ _ (by omega)]; exact v12, ?_⟩
      simp (disch := omega) only [em, hR]; exact v13
    · unfold rV
      simp (disch := omega) only [e, em, hR]
      exact ⟨v1, v2, v3, v4, v5, v6, v7, v8, v9, v10, v11, v12, v13⟩
  · have := hK s' hs' k hk
    rw [fK_c (fun b => em 12 b (by omega)) (fun b => em 15 b (by omega))]; simp (disch := omega) only [e]; exact this
  · have := hC d hd
    unfold rC at this ⊢
    simp (disch := omega) only [e, em, hR]; exact this
  · have := hO p hp
    unfold rO at this ⊢
    rw [fO_c (fun b => em 14 b (by omega)) (fun b => em 15 b (by omega))]
    simp (disch := omega) only [e, em]; exact this
  · have := hA p hp
    unfold rA at this ⊢
    rw [fT_c (fun b => em 14 b (by omega)) (fun b => em 19 b (by omega)) (em 22 p (by omega))]
    simp (disch := omega) only [e, em, hR, qTry] at this ⊢; exact this
  · unfold rL at hL ⊢
    simp (disch := omega) only [em, hR]; exact hL
def eTrb (μ : mS) (s : Nat) : mS := if mI μ 10 s + 1 = 3 then sI (sI (sI μ 10 s (mI μ 10 s + 1)) 10 s 0) 11 s (mI μ 0 1 + 20) else sI μ 10 s (mI μ 10 s + 1)
theorem wM_trb {μ : mS} {n s : Nat} (h : wM μ n) (hs : s < 6) : wM (eTrb μ s) n := by
  obtain ⟨⟨f, hf, hfl⟩, -⟩ := h.2.2.2.2.1 s hs
  unfold eTrb
  rw [hfl, nI_1]
  by_cases hq : nI (f + 1) = 3
  · rw [if_pos hq, sI_tw]
    exact wM_ir (wM_fl (f := 0) h (by omega)) (by unfold irr; omega)
  · rw [if_neg hq]
    have : f + 1 ≠ 3 := fun q => hq (by rw [q]; rfl)
    exact wM_fl h (by omega)
theorem eTrb_o {μ : mS} {s a b : Nat} (h : ¬ (b = s ∧ (a = 10 ∨ a = 11))) : mI (eTrb μ s) a b = mI μ a b := by
  unfold eTrb
  split <;> simp (disch := omega) only [oI]
theorem s_trouble {σ μ : mS} {n h s : Nat} {Q : mS → Prop} (R : R0 σ μ n h) (hs : s < 6) (hQ : ∀ σ', R0 σ' (eTrb μ s) n h → Q σ') : w_X1_noteTrouble (3 + 3 * s) (mI σ 0 3) σ Q := by
  obtain ⟨v1, v2, v3, v4, v5, v6, v7, v8, v9, v10, v11, v12, v13⟩ := R.2.2.1 s hs
  obtain ⟨⟨f, hf, hfl⟩, -⟩ := R.1.2.2.2.2.1 s hs
  have hT := R.now
  unfold w_X1_noteTrouble
  refine ⟨kS hs, ?_⟩
  rintro _ rfl
  rw [nIi, v10, hT]
  have hM := wM_trb R.1 hs
  have hb3 : mI μ 10 s + 1 < 3 ↔ ¬ mI μ 10 s + 1 = 3 := by
    rw [hfl, nI_1, i_lt3 (by omega), show (nI (f + 1) = 3) ↔ f + 1 = 3 from nI_eq (b := 3) (by omega) (by omega)]
    omega
  refine ⟨fun h3 => ?_, fun h3 => ?_⟩
  · have hne := hb3.mp h3
    have hE : eTrb μ s = sI μ 10 s (mI μ 10 s + 1) := if_neg hne
    refine hQ _ (R0_sv R hs rfl (fun _ _ => rfl) (fun a b ha => oI (by omega)) hM (fun a b ha => eTrb_o (by omega)) (oI (by omega)) (oI (by omega)) ?_)
    rw [hE]
    simp (disch := omega) only [oI, nIi]
    exact ⟨v3, v4, v5, v6, v7, v8, v9, trivial, v11⟩
  · have heq : mI μ 10 s + 1 = 3 := Classical.byContradiction fun q => h3 (hb3.mpr q)
    have hE : eTrb μ s = sI (sI (sI μ 10 s (mI μ 10 s + 1)) 10 s 0) 11 s (mI μ 0 1 + 20) := if_pos heq
    rintro _ rfl _ rfl
    refine hQ _ (R0_sv R hs rfl (fun _ _ => rfl) (fun a b ha => by rw [oI (by omega), oI (by omega), oI (by omega)]) hM (fun a b ha => eTrb_o (by omega)) (by simp (disch := omega) only [oI]) (by simp (disch := omega) only [oI]) ?_)
    rw [hE]
    simp (disch := omega) only [oI, nIi]
    exact ⟨v3, v4, v5, v6, v7, v8, v9, trivial, trivial⟩
