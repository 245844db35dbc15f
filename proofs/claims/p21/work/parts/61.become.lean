/-! one call's state changes: the counts of its service -/
theorem b_K {μ : mS} {n c s w s' k : Nat} {x : Int32} (hn : n ≤ 200) (hc : c < n) (hs : s < 6) (hs' : s' < 6) (hk : k < 8) (hsv : mI μ 12 c = nI s) (hw : w < 8)
    (h1 : mI μ 15 c = -1 → x = nI (cnt n (fK μ s' k)) + (if s' = s ∧ k = w then 1 else 0)) (h2 : ∀ q, q < 8 → mI μ 15 c = nI q → x = nI (cnt n (fK μ s' k)) - (if s' = s ∧ k = q then 1 else 0) + (if s' = s ∧ k = w then 1 else 0))
    (hst : mI μ 15 c = -1 ∨ ∃ q, q < 8 ∧ mI μ 15 c = nI q) : x = nI (cnt n (fK (sI μ 15 c (nI w)) s' k)) := by
  have hle := cnt_le n (fK (sI μ 15 c (nI w)) s' k)
  have hle0 := cnt_le n (fK μ s' k)
  have hu := cnt_upd (f := fK μ s' k) (g := fK (sI μ 15 c (nI w)) s' k) hc (fun d _ hd => by simp only [fK]; rw [oI (by omega), oI (by omega)])
  have hg : fK (sI μ 15 c (nI w)) s' k c = decide (s' = s ∧ k = w) := by
    simp only [fK]
    rw [oI (by omega), nIi, hsv]
    rw [decide_eq_decide, nI_eq (by omega) (by omega), nI_eq (by omega) (by omega)]
    exact ⟨fun q => ⟨q.1.symm, q.2.symm⟩, fun q => ⟨q.1.symm, q.2.symm⟩⟩
  rw [hg] at hu
  rcases hst with hst | ⟨q, hq, hst⟩
  · have hf : fK μ s' k c = false := by
      simp only [fK, decide_eq_false_iff_not, hst]
      exact fun z => i_ne1 (by omega) z.2.symm
    rw [hf] at hu
    rw [h1 hst]
    by_cases hb : s' = s ∧ k = w
    · simp only [hb, and_self, decide_true, if_true] at hu ⊢
      simp only [Bool.false_eq_true, if_false, Nat.add_zero] at hu
      rw [nI_1, ← hu]
    · simp only [hb, decide_false, Bool.false_eq_true, if_false, Nat.add_zero] at hu ⊢
      rw [hu, Int32.add_zero]
  · have hf : fK μ s' k c = decide (s' = s ∧ k = q) := by
      simp only [fK]
      rw [hsv, hst, decide_eq_decide, nI_eq (by omega) (by omega), nI_eq (by omega) (by omega)]
      exact ⟨fun q => ⟨q.1.symm, q.2.symm⟩, fun q => ⟨q.1.symm, q.2.symm⟩⟩
    rw [hf] at hu
    rw [h2 q hq hst]
    by_cases hb : s' = s ∧ k = w <;> by_cases hb2 : s' = s ∧ k = q
    · have hp : 0 < cnt n (fK μ s' k) := cnt_pos hc (by rw [hf, decide_eq_true hb2])
      rw [if_pos hb, if_pos hb2, i_sub1 hp, nI_1]
      rw [if_pos (decide_eq_true hb), if_pos (decide_eq_true hb2)] at hu
      congr 1; omega
    · rw [if_pos hb, if_neg hb2, Int32.sub_zero, nI_1]
      rw [if_pos (decide_eq_true hb), if_neg (by simp [hb2])] at hu
      congr 1
    · have hp : 0 < cnt n (fK μ s' k) := cnt_pos hc (by rw [hf, decide_eq_true hb2])
      rw [if_neg hb, if_pos hb2, i_sub1 hp, Int32.add_zero]
      rw [if_neg (by simp [hb]), if_pos (decide_eq_true hb2)] at hu
      congr 1; omega
    · rw [if_neg hb, if_neg hb2, Int32.sub_zero, Int32.add_zero]
      rw [if_neg (by simp [hb]), if_neg (by simp [hb2])] at hu
      congr 1
theorem s_become {σ μ : mS} {n h c s w : Nat} {Q : mS → Prop} (R : R0 σ μ n h) (hc : c < n) (hs : s < 6) (hsv : mI μ 12 c = nI s) (hw : w < 8)
    (hQ : ∀ σ', mN σ' = mN σ → (∀ a b, mR σ' a b = mR σ a b) → (∀ a b, a ≠ 5 + 3 * s → ¬ (a = 21 + c ∧ b = 4) → mI σ' a b = mI σ a b) → mI σ' (21 + c) 4 = nI w → (∀ s', s' < 6 → ∀ k, k < 8 → mI σ' (5 + 3 * s') k = nI (cnt n (fK (sI μ 15 c (nI w)) s' k))) → Q σ') : w_X0_become (21 + c) (nI w) σ Q := by
  obtain ⟨hM, hG, hV, hK, hC, hO, hA, hL⟩ := R
  obtain ⟨-, -, -, hn, -, hwC, -, -⟩ := hM
  obtain ⟨-, -, hst⟩ := hwC c hc
  obtain ⟨-, -, hsr, -, -, -, h4, -, -⟩ := hC c hc
  have hOc := kO (σ := σ) hc hG.1
  have hwp : ¬ nI w < 0 := nI_pos (by omega)
  have hw8 : ¬ (8 : Int32) ≤ nI w := nI_ge hw (by decide)
  unfold w_X0_become
  refine ⟨hOc, ?_⟩
  rintro _ rfl
  refine ⟨3 + 3 * s, hsr s hs hsv, kS hs, ?_⟩
  have e5 : 3 + 3 * s + 2 = 5 + 3 * s := by omega
  rw [e5]
  refine ⟨fun σ1 => mN σ1 = mN σ ∧ (∀ a b, mR σ1 a b = mR σ a b) ∧ (mI μ 15 c = -1 → σ1 = σ) ∧ ∀ q, q < 8 → mI μ 15 c = nI q → σ1 = sI σ (5 + 3 * s) q (mI σ (5 + 3 * s) q - 1), ?_, ?_, ?_⟩
  · intro σ1 ⟨hN1, hR1, hq1, hq2⟩
    refine ⟨fun q => absurd q hwp, fun _ => ⟨fun q => absurd q hw8, fun _ => ⟨w, rfl, hw, w, rfl, hw, ?_⟩⟩⟩
    rintro _ rfl
    refine ⟨kO hc (by rw [mN_sI, hN1]; exact hG.1), ?_⟩
    rintro _ rfl
    refine hQ _ (by rw [mN_sI, mN_sI, hN1]) (fun a b => hR1 a b) (fun a b h1 h2 => ?_) nIi (fun s' hs' k hk => ?_)
    · rw [oI h2, oI (by omega)]
      rcases hst with hst | ⟨q, hq, hst⟩
      · rw [hq1 hst]
      · rw [hq2 q hq hst, oI (by omega)]
    · rw [oI (by omega)]
      refine b_K hn hc hs hs' hk hsv hw (fun z => ?_) (fun q hq z => ?_) hst
      · rw [hq1 z, ← hK s' hs' k hk]
        by_cases hb : s' = s ∧ k = w
        · obtain ⟨rfl, rfl⟩ := hb
          rw [nIi, if_pos ⟨rfl, rfl⟩]
        · rw [oI (by omega), if_neg hb, Int32.add_zero]
      · rw [hq2 q hq z, ← hK s' hs' k hk]
        by_cases hb : s' = s ∧ k = w
        · obtain ⟨rfl, rfl⟩ := hb
          rw [nIi, if_pos (show s' = s' ∧ k = k from ⟨rfl, rfl⟩)]
          by_cases hb2 : k = q
          · subst hb2; rw [nIi, if_pos ⟨rfl, rfl⟩]
          · rw [oI (by omega), if_neg (by omega), Int32.sub_zero]
        · rw [oI (by omega), if_neg hb, Int32.add_zero]
          by_cases hb2 : s' = s ∧ k = q
          · obtain ⟨rfl, rfl⟩ := hb2; rw [nIi, if_pos ⟨rfl, rfl⟩]
          · rw [oI (by omega), if_neg hb2, Int32.sub_zero]
  · rw [h4]
    intro hneg
    refine ⟨rfl, fun _ _ => rfl, fun _ => rfl, fun q hq z => absurd (show nI q < 0 by rw [← z]; exact hneg) (nI_pos (by omega))⟩
  · rw [h4]
    intro hneg
    rcases hst with hst | ⟨q, hq, hst⟩
    · rw [hst] at hneg; exact absurd (by decide) hneg
    · rw [hst]
      refine ⟨fun z => absurd z (nI_ge hq (by decide)), fun _ => ⟨q, rfl, hq, q, rfl, hq, ?_⟩⟩
      rintro _ rfl
      refine ⟨rfl, fun _ _ => rfl, fun z => absurd z (i_ne1 (by omega)), fun q2 hq2 z => ?_⟩
      have := i_inj (by omega) (by omega) z
      subst this
      rfl
