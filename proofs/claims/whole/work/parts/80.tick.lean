abbrev FQ (μ : mS) (n s : Nat) (x : Int32) : Prop := (x = -1 ∧ ∀ c, c < n → ¬ qQd μ s c) ∨ ∃ c, c < n ∧ x = nI c ∧ qQd μ s c ∧ ∀ d, d < c → ¬ qQd μ s d
theorem m_firstQueued {μ : mS} {n s : Nat} {Q : Int32 → mS → Prop} (h13 : mI μ 0 13 = nI n) (hn : n ≤ 200) (hQ : ∀ x, FQ μ n s x → Q x μ) : w_X3_firstQueued (nI s) μ Q := by
  unfold w_X3_firstQueued
  rw [h13]
  refine ⟨fun k x2 x3 μ' => ∃ d, x3 = nI d - 1 ∧ d ≤ n ∧ k = d ∧ μ' = μ ∧ ((x2 = -1 ∧ ∀ c, d ≤ c → c < n → ¬ qQd μ s c) ∨ ∃ c, d ≤ c ∧ c < n ∧ x2 = nI c ∧ qQd μ s c ∧ ∀ e, d ≤ e → e < c → ¬ qQd μ s e), ?_, n, n, rfl, Nat.le_refl _, rfl, rfl, Or.inl ⟨rfl, fun c h1 h2 => by omega⟩⟩
  intro k x2 x3 μ' ⟨d, hx, hdn, hk, hμ, hP⟩
  rw [hx, hk, hμ]
  cases d with
  | zero =>
    refine ⟨fun _ => hQ _ ?_, fun q => absurd (by decide) q⟩
    rcases hP with ⟨h1, h2⟩ | ⟨c, h1, h2, h3, h4, h5⟩
    · exact Or.inl ⟨h1, fun c hc => h2 c (Nat.zero_le _) hc⟩
    · exact Or.inr ⟨c, h2, h3, h4, fun e he => h5 e (Nat.zero_le _) he⟩
  | succ d =>
    rw [nI_pred]
    have hm1 : nI d + (-1) = nI d - 1 := by rw [Int32.sub_eq_add_neg]
    have keep : ¬ qQd μ s d → ∃ k, k < d + 1 ∧ ∃ d', nI d + (-1) = nI d' - 1 ∧ d' ≤ n ∧ k = d' ∧ μ = μ ∧ ((x2 = -1 ∧ ∀ c, d' ≤ c → c < n → ¬ qQd μ s c) ∨ ∃ c, d' ≤ c ∧ c < n ∧ x2 = nI c ∧ qQd μ s c ∧ ∀ e, d' ≤ e → e < c → ¬ qQd μ s e) := fun hne => by
      refine ⟨d, by omega, d, hm1, by omega, rfl, rfl, ?_⟩
      rcases hP with ⟨h1, h2⟩ | ⟨c, h1, h2, h3, h4, h5⟩
      · refine Or.inl ⟨h1, fun c hc1 hc2 => ?_⟩
        by_cases hcd : c = d
        · rw [hcd]; exact hne
        · exact h2 c (by omega) hc2
      · refine Or.inr ⟨c, by omega, h2, h3, h4, fun e he1 he2 => ?_⟩
        by_cases hcd : e = d
        · rw [hcd]; exact hne
        · exact h5 e (by omega) he2
    refine ⟨fun q => absurd q (nI_pos (by omega)), fun _ => ⟨d, rfl, by omega, fun hne => keep (fun q => hne q.1), fun he => ⟨d, rfl, by omega, fun hne => keep (fun q => hne q.2), fun he2 => ⟨d, by omega, d, hm1, by omega, rfl, rfl, ?_⟩⟩⟩⟩
    exact Or.inr ⟨d, Nat.le_refl _, by omega, rfl, ⟨he, he2⟩, fun e h1 h2 => by omega⟩
theorem m_takesQueued {μ : mS} {n s : Nat} {Q : mS → Prop} (h : wM μ n) (hs : s < 6) (hQ : Q (eTQ μ s)) : w_X3_takesQueued (nI s) μ Q := by
  have hn := h.2.2.2.1
  have hqn := qN_e h
  unfold eTQ at hQ
  rw [hqn] at hQ
  unfold w_X3_takesQueued
  refine m_firstQueued h.2.2.1 hn (fun x hx => ?_)
  refine ⟨fun k y μ' => ∃ d, d ≤ n ∧ k = n - d ∧ wM μ' n ∧ (∀ c, c < d → ¬ qQd μ' s c) ∧ FQ μ' n s y ∧ upL (eTq s) (n - d) d μ' = upL (eTq s) n 0 μ, ?_, n, 0, by omega, rfl, h, fun c hc => by omega, hx, rfl⟩
  intro k y μ' ⟨d, hdn, hk, hM, hbel, hF, e1⟩
  have hqn' := qN_e hM
  rw [hk]
  refine ⟨fun hy => ?_, fun hy => ?_⟩
  · have hno : ∀ c, c < n → ¬ qQd μ' s c := by
      rcases hF with ⟨-, h2⟩ | ⟨c, h1, h2, -⟩
      · exact h2
      · rw [h2] at hy; exact absurd hy (i_ne1 (by omega))
    rw [upL_stay (n - d) d (fun e h1 h2 => if_neg (fun q => hno e (by omega) q.1))] at e1
    rw [e1]; exact hQ
  · obtain ⟨f, hf, hyf, hqf, hfb⟩ : ∃ c, c < n ∧ y = nI c ∧ qQd μ' s c ∧ ∀ d, d < c → ¬ qQd μ' s d := by
      rcases hF with ⟨h1, -⟩ | h2
      · exact absurd h1 hy
      · exact h2
    rw [hyf]
    refine m_manyOf (y2 := nI 1) hM.2.2.1 hn ⟨s, rfl, hs, fun hfr => ?_, fun hfr => ⟨f, rfl, by omega, s, rfl, hs, ?_⟩⟩
    · have hfr' : ¬ nI (cnt n (fK μ' s 1)) < mI μ' 6 s := Int32.not_lt.mpr hfr
      rw [upL_stay (n - d) d (fun e h1 h2 => if_neg (fun q => hfr' (by have := q.2; rw [hqn'] at this; exact this)))] at e1
      rw [e1]; exact hQ
    · have hfr' : nI (cnt n (fK μ' s 1)) < mI μ' 6 s := Int32.not_le.mp hfr
      have hdf : d ≤ f := Nat.not_lt.mp fun q => hbel f q hqf
      rw [upL_to (f - d) (by omega) (fun e h1 h2 => if_neg (fun q => hfb e (by omega) q.1)), show d + (f - d) = f by omega, upL_s hf] at e1
      have hop : mI μ' 15 f < 3 := by rw [hqf.2]; decide
      have hE := wM_tq (s := s) hM hf
      have hEq : eTq s μ' f = if mI μ' 13 f - mI μ' 0 1 < mI μ' 1 s then eFin μ' f 6 else eWrk μ' f := if_pos ⟨hqf, by rw [hqn']; exact hfr'⟩
      rw [hEq] at e1 hE
      refine ⟨fun hcb => ?_, fun hcb => ?_⟩
      · rw [if_neg (Int32.not_lt.mpr hcb)] at e1 hE
        refine m_works hM hf (m_firstQueued hE.2.2.1 hn (fun x2 hx2 => ⟨n - (f + 1), by omega, f + 1, by omega, rfl, hE, fun c hc q => ?_, hx2, e1⟩))
        unfold eWrk at q
        by_cases hcf : c = f
        · rw [hcf] at q
          have := q.2
          rw [oI (by omega), nIi] at this
          exact absurd this (by decide)
        · have h1 := q.1
          have h2 := q.2
          rw [oI (by omega), oI (by omega)] at h1 h2
          exact hfb c (by omega) ⟨h1, h2⟩
      · rw [if_pos (Int32.not_le.mp hcb)] at e1 hE
        refine m_ends (w := 6) hM hf (by omega) (by omega) (m_firstQueued hE.2.2.1 hn (fun x2 hx2 => ⟨n - (f + 1), by omega, f + 1, by omega, rfl, hE, fun c hc q => ?_, hx2, e1⟩))
        by_cases hcf : c = f
        · rw [hcf] at q
          have := q.2
          rw [eFin_self] at this
          exact absurd (i_inj (a := 6) (b := 0) (by omega) (by omega) this) (by omega)
        · have h1 := q.1
          have h2 := q.2
          rw [eFin_o (by omega) (by omega) (by omega) (by omega)] at h1
          rw [eFin_lt (by omega)] at h2
          exact hfb c (by omega) ⟨h1, h2⟩
/-- the chain's head is cut off -/
theorem s_cut {σ μ : mS} {n h : Nat} {Q : mS → Prop} (R : R0 σ μ n h) (hQ : ∀ σ' h', R0 σ' μ n h' → Q σ') : w_X2_cutOffHead σ Q := by
  have hh := R.hn
  have R' := id R
  obtain ⟨hM, ⟨g1, g2, g3, g4, g5, g6⟩, hV, hK, hC, hO, hA, l1, l2, l3, l4, l5, l6, l7, l8⟩ := R'
  have mk : ∀ σ' d, h ≤ d → d ≤ n → (∀ c, c < d → ¬ mI μ 15 c < 3) → mN σ' = mN σ → rR σ' → (∀ a b, mI σ' a b = mI σ a b) → (∀ a b, ¬ (a = 0 ∧ (b = 5 ∨ b = 6)) → ¬ (a = 21 + d ∧ b = 7) → mR σ' a b = mR σ a b) → mR σ' 0 5 = nx d n → mR σ' 0 6 = (if d < n then some (20 + n) else none) → (d < n → mR σ' (21 + d) 7 = none) → R0 σ' μ n d := by
    intro σ' d hd1 hd2 hov hN hr hI hR r5 r6 r7
    refine ⟨hM, ⟨by rw [hN]; exact g1, hr, by rw [hI]; exact g3, by rw [hI]; exact g4, by rw [hI]; exact g5, fun c h1 h2 => by rw [hR _ _ (by omega) (by omega)]; exact g6 c h1 h2⟩, fun s hs => ?_, fun s hs k hk => by rw [hI]; exact hK s hs k hk, fun c hc => ?_, fun p hp => ?_, fun p hp => ?_, hov, hd2, r5, r6, fun c h1 h2 => ?_, fun c h1 h2 => ?_, r7, fun c hc => ?_⟩
    · have := hV s hs
      unfold rV at this ⊢
      simp (disch := omega) only [hI, hR]; exact this
    · have := hC c hc
      unfold rC at this ⊢
      simp (disch := omega) only [hI, hR]; exact this
    · have := hO p hp
      unfold rO at this ⊢
      simp only [hI]; exact this
    · have := hA p hp
      unfold rA at this ⊢
      simp (disch := omega) only [hI, hR]; exact this
    · rw [hR _ _ (by omega) (by omega)]; exact l5 c (by omega) h2
    · rw [hR _ _ (by omega) (by omega)]; exact l6 c (by omega) h2
    · rw [hR _ _ (by omega) (by omega)]
      by_cases hch : c < h
      · exact l8 c hch
      · rw [l5 c (by omega) (by omega)]
        by_cases hcn : c + 1 < n
        · exact Or.inr ⟨by rw [nx_t hcn]; exact congrArg some (by omega), hcn⟩
        · exact Or.inl (nx_f hcn)
  unfold w_X2_cutOffHead
  rintro _ rfl
  rw [l3]
  refine ⟨fun k r σ' => ∃ d, h ≤ d ∧ d ≤ n ∧ k = n - d ∧ r = nx d n ∧ σ' = σ ∧ ∀ c, c < d → ¬ mI μ 15 c < 3, ?_, n - h, h, by omega, hh, rfl, rfl, rfl, l1⟩
  intro k r σ' ⟨d, hd1, hd2, hk, hr, hσ, hov⟩
  rw [hk, hr, hσ]
  refine ⟨fun r σ' => σ' = σ ∧ ∃ d, h ≤ d ∧ d ≤ n ∧ r = nx d n ∧ ∀ c, c < d → ¬ mI μ 15 c < 3, ?_, ?_, ?_⟩
  · intro r σ' ⟨hσ, d, hd1, hd2, hr, hov⟩
    rw [hσ, hr]
    rintro _ rfl
    refine ⟨fun hnone => ?_, fun i hi => ?_⟩
    · have h1 := nx_none hnone
      rintro _ rfl
      refine hQ _ d (mk _ d hd1 hd2 hov rfl ?_ (fun _ _ => rfl) (fun a b q1 q2 => by rw [oR (by omega), oR (by omega)]) ?_ ?_ (fun q => by omega))
      · exact rR.R (rR.R g2 (fun j hj => by rw [hnone] at hj; cases hj)) (fun j hj => by cases hj)
      · rw [oR (by omega), nR]
      · rw [nR, if_neg (by omega)]
    · obtain ⟨hdn, rfl⟩ := nx_some hi
      refine ⟨kO hdn g1, ?_⟩
      rintro _ rfl
      refine hQ _ d (mk _ d hd1 hd2 hov rfl ?_ (fun _ _ => rfl) (fun a b q1 q2 => by rw [oR (by omega), oR (by omega)]) ?_ ?_ (fun q => nR))
      · refine rR.R (rR.R g2 (fun j hj => ?_)) (fun j hj => by cases hj)
        rw [hi] at hj; cases hj; omega
      · rw [oR (by omega), nR]
      · rw [oR (by omega), oR (by omega), l4, if_pos (by omega), if_pos hdn]
  · intro hnone
    exact ⟨rfl, d, hd1, hd2, hnone.symm, hov⟩
  · intro i hi
    obtain ⟨hdn, rfl⟩ := nx_some hi
    refine ⟨R.mo hdn, s_isOver R hdn (fun ho => ⟨fun _ => ⟨rfl, d, hd1, hd2, hi.symm, hov⟩, fun q => absurd rfl q⟩) (fun ho => ⟨fun q => absurd q (by decide), fun _ => ⟨R.mo hdn, ?_⟩⟩)⟩
    rintro _ rfl
    refine ⟨n - (d + 1), by omega, d + 1, by omega, by omega, rfl, l5 d hd1 hdn, rfl, fun c hc => ?_⟩
    by_cases hcd : c = d
    · rw [hcd]; exact ho
    · exact hov c (by omega)
