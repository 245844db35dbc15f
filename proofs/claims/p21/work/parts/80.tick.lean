abbrev FQ (μ : mS) (n s : Nat) (x : Int32) : Prop := (x = -1 ∧ ∀ c, c < n → ¬ qQd μ s c) ∨ ∃ c, c < n ∧ x = nI c ∧ qQd μ s c ∧ ∀ d, d < c → ¬ qQd μ s d
/-- the chain's head is cut off -/
theorem s_cut {σ μ : mS} {n h : Nat} {Q : mS → Prop} (R : R0 σ μ n h) (hQ : ∀ σ' h', R0 σ' μ n h' → Q σ') : w_X2_cutOffHead σ Q := by
  have hh := R.hn
  have R' := id R
  obtain ⟨hM, ⟨g1, g2, g3, g4, g5, g6⟩, hV, hK, hC, hO, hA, l1, l2, l3, l4, l5, l6, l7, l8⟩ := R'
  have mk : ∀ σ' d, h ≤ d → d ≤ n → (∀ c, c < d → ¬ mI μ 15 c < 3) → mN σ' = mN σ → rR σ' → (∀ a b, mI σ' a b = mI σ a b) → (∀ a b, ¬ (a = 0 ∧ (b = 5 ∨ b = 6)) → ¬ (a = 21 + d ∧ b = 7) → mR σ' a b = mR σ a b) → mR σ' 0 5 = nx d n → mR σ' 0 6 = (if d < n then some (20 + n) else none) → (d < n → mR σ' (21 + d) 7 = none) → R0 σ' μ n d := by
    intro σ' d hd1 hd2 hov hN hr hI hR r5 r6 r7
    refine ⟨hM, ⟨by rw [hN]; exact g1, hr, by rw [hI]; exact g3, by rw [hI]; exact g4, by rw [hI]; exact g5, fun c h1 h2 => by rw [hR _ _ (by omega) (by omega)]; exact g6 c h1 h2⟩, fun s hs => ?_, fun s hs k hk => by rw [hI]; exact hK s hs k hk, fun c hc => ?_, fun p hp => ?_, fun p hp => ?_, hov, hd2, r5, r6, fun c h1 h2 => ?_, fun c h1 h2 => ?_, r7, fun c hc => ?_⟩
    · have := hV s hs
      unfold rV at this ⊢
      simp (disch := omega) only [hI, hR]; exact this
    · have := hC c hc
      unfold rC at this ⊢
      simp (disch := omega) only [hI, hR]; exact this
    · have := hO p hp
      unfold rO at this ⊢
      simp only [hI]; exact this
    · have := hA p hp
      unfold rA at this ⊢
      simp (disch := omega) only [hI, hR]; exact this
    · rw [hR _ _ (by omega) (by omega)]; exact l5 c (by omega) h2
    · rw [hR _ _ (by omega) (by omega)]; exact l6 c (by omega) h2
    · rw [hR _ _ (by omega) (by omega)]
      by_cases hch : c < h
      · exact l8 c hch
      · rw [l5 c (by omega) (by omega)]
        by_cases hcn : c + 1 < n
        · exact Or.inr ⟨by rw [nx_t hcn]; exact congrArg some (by omega), hcn⟩
        · exact Or.inl (nx_f hcn)
  unfold w_X2_cutOffHead
  rintro _ rfl
  rw [l3]
  refine ⟨fun k r σ' => ∃ d, h ≤ d ∧ d ≤ n ∧ k = n - d ∧ r = nx d n ∧ σ' = σ ∧ ∀ c, c < d → ¬ mI μ 15 c < 3, ?_, n - h, h, by omega, hh, rfl, rfl, rfl, l1⟩
  intro k r σ' ⟨d, hd1, hd2, hk, hr, hσ, hov⟩
  rw [hk, hr, hσ]
  refine ⟨fun r σ' => σ' = σ ∧ ∃ d, h ≤ d ∧ d ≤ n ∧ r = nx d n ∧ ∀ c, c < d → ¬ mI μ 15 c < 3, ?_, ?_, ?_⟩
  · intro r σ' ⟨hσ, d, hd1, hd2, hr, hov⟩
    rw [hσ, hr]
    rintro _ rfl
    refine ⟨fun hnone => ?_, fun i hi => ?_⟩
    · have h1 := nx_none hnone
      rintro _ rfl
      refine hQ _ d (mk _ d hd1 hd2 hov rfl ?_ (fun _ _ => rfl) (fun a b q1 q2 => by rw [oR (by omega), oR (by omega)]) ?_ ?_ (fun q => by omega))
      · exact rR.R (rR.R g2 (fun j hj => by rw [hnone] at hj; cases hj)) (fun j hj => by cases hj)
      · rw [oR (by omega), nR]
      · rw [nR, if_neg (by omega)]
    · obtain ⟨hdn, rfl⟩ := nx_some hi
      refine ⟨kO hdn g1, ?_⟩
      rintro _ rfl
      refine hQ _ d (mk _ d hd1 hd2 hov rfl ?_ (fun _ _ => rfl) (fun a b q1 q2 => by rw [oR (by omega), oR (by omega)]) ?_ ?_ (fun q => nR))
      · refine rR.R (rR.R g2 (fun j hj => ?_)) (fun j hj => by cases hj)
        rw [hi] at hj; cases hj; omega
      · rw [oR (by omega), nR]
      · rw [oR (by omega), oR (by omega), l4, if_pos (by omega), if_pos hdn]
  · intro hnone
    exact ⟨rfl, d, hd1, hd2, hnone.symm, hov⟩
  · intro i hi
    obtain ⟨hdn, rfl⟩ := nx_some hi
    refine ⟨R.mo hdn, s_isOver R hdn (fun ho => ⟨fun _ => ⟨rfl, d, hd1, hd2, hi.symm, hov⟩, fun q => absurd rfl q⟩) (fun ho => ⟨fun q => absurd q (by decide), fun _ => ⟨R.mo hdn, ?_⟩⟩)⟩
    rintro _ rfl
    refine ⟨n - (d + 1), by omega, d + 1, by omega, by omega, rfl, l5 d hd1 hdn, rfl, fun c hc => ?_⟩
    by_cases hcd : c = d
    · rw [hcd]; exact ho
    · exact hov c (by omega)
