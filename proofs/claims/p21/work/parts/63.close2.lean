theorem nIb {a b : Nat} (ha : a < 2 ^ 31) (hb : b < 2 ^ 31) : (nI a = nI b) = (a = b) := propext (nI_eq ha hb)
/-- the reference's side of a close: the counts of what is open below a call, and of the roots that are over -/
theorem c_O {μ : mS} {n c w p : Nat} (hc : c < n) (ho : mI μ 15 c < 3) (hw3 : 3 ≤ w) (hw : w < 8) : cnt n (fO (eClose μ c w) p) + (if mI μ 14 c = nI p then 1 else 0) = cnt n (fO μ p) := by
  have hu := cnt_upd (f := fO (eClose μ c w) p) (g := fO μ p) hc (fun d _ hd => by simp only [fO]; rw [eC_o (by omega) (by omega) (by omega), eC_o (by omega) (by omega) (by omega)])
  have h1 : fO (eClose μ c w) p c = false := by
    simp only [fO, decide_eq_false_iff_not, eC_15]
    intro q
    have := (i_lt3 (by omega)).mp q.2
    omega
  have h2 : fO μ p c = decide (mI μ 14 c = nI p) := by
    simp only [fO, ho, and_true]
  rw [h1, h2] at hu
  by_cases hq : mI μ 14 c = nI p
  · simp [hq] at hu ⊢; omega
  · simp [hq] at hu ⊢; omega
theorem c_R {μ : mS} {n c w : Nat} (hc : c < n) (ho : mI μ 15 c < 3) (hw3 : 3 ≤ w) (hw : w < 8) : cnt n (fR (eClose μ c w)) = cnt n (fR μ) + (if mI μ 14 c = -1 then 1 else 0) := by
  have hu := cnt_upd (f := fR (eClose μ c w)) (g := fR μ) hc (fun d _ hd => by simp only [fR]; rw [eC_o (by omega) (by omega) (by omega), eC_o (by omega) (by omega) (by omega)])
  have h1 : fR (eClose μ c w) c = decide (mI μ 14 c = -1) := by
    simp only [fR]
    rw [eC_15, eC_o (by omega) (by omega) (by omega)]
    have : ¬ nI w < 3 := fun q => by have := (i_lt3 (by omega)).mp q; omega
    simp [this]
  have h2 : fR μ c = false := by simp [fR, ho]
  rw [h1, h2] at hu
  by_cases hq : mI μ 14 c = -1
  · simp [hq] at hu ⊢; omega
  · simp [hq] at hu ⊢; omega
theorem eC_T {μ : mS} {c w p d : Nat} : qTry (eClose μ c w) p d ↔ qTry μ p d := by
  unfold qTry
  rw [eC_o (by omega) (by omega) (by omega), eC_o (by omega) (by omega) (by omega), eC_o (by omega) (by omega) (by omega)]
theorem eC_fT {μ : mS} {c w p : Nat} : fT (eClose μ c w) p = fT μ p := by
  funext d
  simp only [fT]
  exact decide_eq_decide.mpr eC_T
/-- a call is closed: from the moment that its parent is told -/
theorem c_fin {σ σ' μ : mS} {n h c s w : Nat} (R : R0 σ μ n h) (hc : c < n) (hs : s < 6) (hsv : mI μ 12 c = nI s) (ho : mI μ 15 c < 3) (hw3 : 3 ≤ w) (hw : w < 8) (hN : mN σ' = mN σ) (hR : ∀ a b, mR σ' a b = mR σ a b)
    (e : ∀ a b, a ≠ 5 + 3 * s → ¬ (a = 21 + c ∧ (b = 4 ∨ b = 5)) → ¬ (w = 3 ∧ a = 3 + 3 * s ∧ (b = 7 ∨ b = 8)) → ¬ (a = 0 ∧ b = 4) → ¬ (21 ≤ a ∧ (b = 15 ∨ b = 13)) → mI σ' a b = mI σ a b)
    (e4 : mI σ' (21 + c) 4 = nI w) (e5 : mI σ' (21 + c) 5 = mI μ 0 1) (eK : ∀ s', s' < 6 → ∀ k, k < 8 → mI σ' (5 + 3 * s') k = nI (cnt n (fK (sI μ 15 c (nI w)) s' k))) (e7 : w = 3 → mI σ' (3 + 3 * s) 7 = mI (eClose μ c w) 9 s ∧ mI σ' (3 + 3 * s) 8 = mI (eClose μ c w) 10 s)
    (er : mI σ' 0 4 = mI σ 0 4 + if mI μ 14 c = -1 then 1 else 0) (eo : ∀ p, p < n → mI σ' (21 + p) 15 = mI σ (21 + p) 15 - if mI μ 14 c = nI p then 1 else 0) (ea : ∀ p, p < n → mI σ' (21 + p) 13 = if w = 3 ∧ mI μ 14 c = nI p then 1 else mI σ (21 + p) 13) : R0 σ' (eClose μ c w) n h := by
  obtain ⟨x1, x2, x3, x4⟩ := c_com R hc hs hsv ho hw3 hw hR e e4 e5 eK e7
  obtain ⟨hM, hG, hV, hK, hC, hO, hA, hL⟩ := R
  obtain ⟨g1, g2, g3, g4, g5, g6⟩ := hG
  have hn := hM.2.2.2.1
  refine ⟨wM_close hM hc hw3 hw, ⟨by rw [hN]; exact g1, fun a b j hj => by rw [hR] at hj; rw [hN]; exact g2 a b j hj, ?_, ?_, ?_, fun d h1 h2 => by rw [hR]; exact g6 d h1 h2⟩, x1, x2, x3, fun p hp hst => ?_, fun p hp hst => ?_, x4⟩
  · rw [e _ _ (by omega) (by omega) (by omega) (by omega) (by omega)]; exact g3
  · rw [e _ _ (by omega) (by omega) (by omega) (by omega) (by omega), eC_o (by omega) (by omega) (by omega)]; exact g4
  · rw [er, g5, c_R hc ho hw3 hw]
    split
    · rw [nI_1]
    · rw [Int32.add_zero, Nat.add_zero]
  · have hpc : p ≠ c := fun q => by
      subst q
      rw [eC_15] at hst
      have := (i_lt3 (by omega)).mp hst
      omega
    rw [eC_o (by omega) (by omega) (by omega)] at hst
    have hb := hO p hp hst
    rw [eo p hp, hb]
    have hq := c_O (p := p) hc ho hw3 hw
    by_cases hz : mI μ 14 c = nI p
    · rw [if_pos hz] at hq ⊢
      rw [i_sub1 (by omega)]
      congr 1; omega
    · rw [if_neg hz] at hq ⊢
      rw [Int32.sub_zero]
      congr 1; omega
  · have hpc : p ≠ c := fun q => by
      subst q
      rw [eC_15] at hst
      have := i_inj (b := 2) (by omega) (by omega) hst
      omega
    rw [eC_o (by omega) (by omega) (by omega)] at hst
    obtain ⟨a1, a2, a3, a4, a5, a6, a7, a8⟩ := hA p hp hst
    have hwa := hM.2.2.2.2.2.2.1 p hp hst
    refine ⟨?_, ?_, ?_, ?_, ?_, ?_, ?_, ?_⟩
    · rw [e _ _ (by omega) (by omega) (by omega) (by omega) (by omega), eC_o (by omega) (by omega) (by omega)]; exact a1
    · rw [e _ _ (by omega) (by omega) (by omega) (by omega) (by omega), eC_o (by omega) (by omega) (by omega)]; exact a2
    · intro k r hk hr h1 h2
      rw [eC_o (by omega) (by omega) (by omega)] at h1 h2
      rw [hR]; exact a3 k r hk hr h1 h2
    · rw [e _ _ (by omega) (by omega) (by omega) (by omega) (by omega), eC_o (by omega) (by omega) (by omega)]; exact a4
    · rw [ea p hp]
      by_cases hz : w = 3 ∧ mI μ 14 c = nI p
      · rw [if_pos hz]
        refine ⟨fun q => absurd q (by decide), fun q => absurd ?_ (q c hc ?_)⟩
        · rw [eC_15, hz.1]; rfl
        · rw [eC_T]
          obtain ⟨k, z, a, s9, q1, q2, q3, q4, q5, q6, q7, q8, q9, q10⟩ := hwa
          obtain ⟨j, j1, j2, j3⟩ := q10 c hc hz.2
          exact ⟨hz.2, by rw [j2, q5, j3 ho]⟩
      · rw [if_neg hz, a5]
        refine ⟨fun q d hd ht => ?_, fun q d hd ht => ?_⟩
        · rw [eC_T] at ht
          by_cases hdc : d = c
          · subst hdc
            rw [eC_15]
            intro q3
            exact hz ⟨i_inj (b := 3) (by omega) (by omega) q3, ht.1⟩
          · rw [eC_o (by omega) (by omega) (by omega)]; exact q d hd ht
        · by_cases hdc : d = c
          · subst hdc
            intro q3
            rw [q3] at ho
            exact absurd ho (by decide)
          · have := q d hd (eC_T.mpr ht)
            rw [eC_o (by omega) (by omega) (by omega)] at this; exact this
    · rw [e _ _ (by omega) (by omega) (by omega) (by omega) (by omega), eC_fT]; exact a6
    · rw [e _ _ (by omega) (by omega) (by omega) (by omega) (by omega), eC_o (by omega) (by omega) (by omega)]; exact a7
    · intro d hd ht h1
      rw [e _ _ (by omega) (by omega) (by omega) (by omega) (by omega)] at h1 ⊢
      rw [eC_o (by omega) (by omega) (by omega)]
      exact a8 d hd (eC_T.mp ht) h1
theorem s_close {σ μ : mS} {n h c w : Nat} {Q : mS → Prop} (R : R0 σ μ n h) (hc : c < n) (ho : mI μ 15 c < 3) (hw3 : 3 ≤ w) (hw : w < 8) (hQ : ∀ σ', R0 σ' (eClose μ c w) n h → Q σ') : w_X2_close (some (21 + c)) (nI w) σ Q := by
  have R' := id R
  obtain ⟨hM, hG, hV, hK, hC, hO, hA, hL⟩ := R'
  obtain ⟨g1, g2, g3, g4, g5, g6⟩ := hG
  have hn := hM.2.2.2.1
  obtain ⟨⟨s, hs, hsv⟩, hpar, -⟩ := hM.2.2.2.2.2.1 c hc
  obtain ⟨v1, v2, v3, v4, v5, v6, v7, v8, v9⟩ := hC c hc
  have hVs := hV s hs
  have hw9 : (nI w = 3) ↔ w = 3 := nI_eq (b := 3) (by omega) (by omega)
  unfold w_X2_close
  refine ⟨21 + c, rfl, kO hc g1, s_become R hc hs hsv hw (fun σ3 n3 r3 e3 e34 k3 => ⟨kO hc (by rw [n3]; exact g1), ?_⟩)⟩
  rintro _ rfl
  have hT : mI σ3 0 3 = mI μ 0 1 := by rw [e3 _ _ (by omega) (by omega)]; exact g4
  rw [hT]
  refine ⟨fun σ25 => mN σ25 = mN σ ∧ (∀ a b, mR σ25 a b = mR σ a b) ∧ (∀ a b, a ≠ 5 + 3 * s → ¬ (a = 21 + c ∧ (b = 4 ∨ b = 5)) → ¬ (w = 3 ∧ a = 3 + 3 * s ∧ (b = 7 ∨ b = 8)) → mI σ25 a b = mI σ a b) ∧ mI σ25 (21 + c) 4 = nI w ∧ mI σ25 (21 + c) 5 = mI μ 0 1 ∧ (∀ s', s' < 6 → ∀ k, k < 8 → mI σ25 (5 + 3 * s') k = nI (cnt n (fK (sI μ 15 c (nI w)) s' k))) ∧ (w = 3 → mI σ25 (3 + 3 * s) 7 = mI (eClose μ c w) 9 s ∧ mI σ25 (3 + 3 * s) 8 = mI (eClose μ c w) 10 s), ?_, ?_, ?_⟩
  · intro σ25 ⟨n5, r5, f1, f4, f5, fK, f7⟩
    refine ⟨kO hc (by rw [n5]; exact g1), ?_⟩
    rintro _ rfl
    rw [r5]
    rcases hpar with hpar | ⟨p, hp, hpar⟩
    · rw [v4 hpar]
      refine ⟨fun _ => ?_, fun i q => by cases q⟩
      rintro _ rfl
      refine hQ _ (c_fin R hc hs hsv ho hw3 hw n5 r5 (fun a b h1 h2 h3 h4 h5 => ?_) ?_ ?_ (fun s' hs' k hk => ?_) (fun q => ?_) ?_ (fun p hp => ?_) (fun p hp => ?_))
      · rw [oI h4]; exact f1 a b h1 h2 h3
      · rw [oI (by omega)]; exact f4
      · rw [oI (by omega)]; exact f5
      · rw [oI (by omega)]; exact fK s' hs' k hk
      · rw [oI (by omega), oI (by omega)]; exact f7 q
      · rw [nIi, f1 _ _ (by omega) (by omega) (by omega), if_pos hpar]
      · rw [oI (by omega), f1 _ _ (by omega) (by omega) (by omega), if_neg (by rw [hpar]; exact fun q => i_ne1 (by omega) q.symm), Int32.sub_zero]
      · rw [oI (by omega), f1 _ _ (by omega) (by omega) (by omega), if_neg (by rw [hpar]; exact fun q => i_ne1 (by omega) q.2.symm)]
    · rw [v5 p hp hpar]
      refine ⟨fun q => (by cases q), ?_⟩
      rintro _ ⟨⟩ _ rfl
      refine ⟨21 + p, rfl, kO (n := n) (by omega) (by rw [n5]; exact g1), kO (n := n) (by omega) (by rw [n5]; exact g1), ?_⟩
      have hne : ¬ mI μ 14 c = -1 := by rw [hpar]; exact i_ne1 (by omega)
      rintro _ rfl
      refine ⟨fun hw' => ?_, fun hw' => ?_⟩
      · have hw3' : w ≠ 3 := fun q => hw' (hw9.mpr q)
        refine hQ _ (c_fin R hc hs hsv ho hw3 hw n5 r5 (fun a b h1 h2 h3 h4 h5 => ?_) ?_ ?_ (fun s' hs' k hk => ?_) (fun q => ?_) ?_ (fun p' hp' => ?_) (fun p' hp' => ?_))
        · rw [oI (by omega)]; exact f1 a b h1 h2 h3
        · rw [oI (by omega)]; exact f4
        · rw [oI (by omega)]; exact f5
        · rw [oI (by omega)]; exact fK s' hs' k hk
        · exact absurd q hw3'
        · rw [oI (by omega), f1 _ _ (by omega) (by omega) (by omega), if_neg hne, Int32.add_zero]
        · rw [hpar]
          by_cases hpp : p = p'
          · subst hpp
            rw [nIi, f1 _ _ (by omega) (by omega) (by omega), if_pos rfl]
          · rw [oI (by omega), f1 _ _ (by omega) (by omega) (by omega), if_neg (fun q => hpp (i_inj (by omega) (by omega) q)), Int32.sub_zero]
        · rw [oI (by omega), f1 _ _ (by omega) (by omega) (by omega), if_neg (fun q => hw3' q.1)]
      · have hw3' : w = 3 := hw9.mp hw'
        rintro _ rfl
        refine hQ _ (c_fin R hc hs hsv ho hw3 hw n5 r5 (fun a b h1 h2 h3 h4 h5 => ?_) ?_ ?_ (fun s' hs' k hk => ?_) (fun q => ?_) ?_ (fun p' hp' => ?_) (fun p' hp' => ?_))
        · rw [oI (by omega), oI (by omega)]; exact f1 a b h1 h2 h3
        · rw [oI (by omega), oI (by omega)]; exact f4
        · rw [oI (by omega), oI (by omega)]; exact f5
        · rw [oI (by omega), oI (by omega)]; exact fK s' hs' k hk
        · rw [oI (by omega), oI (by omega), oI (by omega), oI (by omega)]; exact f7 q
        · rw [oI (by omega), oI (by omega), f1 _ _ (by omega) (by omega) (by omega), if_neg hne, Int32.add_zero]
        · rw [hpar, oI (by omega)]
          by_cases hpp : p = p'
          · subst hpp
            rw [nIi, f1 _ _ (by omega) (by omega) (by omega), if_pos rfl]
          · rw [oI (by omega), f1 _ _ (by omega) (by omega) (by omega), if_neg (fun q => hpp (i_inj (by omega) (by omega) q)), Int32.sub_zero]
        · rw [hpar]
          by_cases hpp : p = p'
          · subst hpp
            rw [nIi, if_pos ⟨hw3', rfl⟩]
          · rw [oI (by omega), oI (by omega), f1 _ _ (by omega) (by omega) (by omega), if_neg (fun q => hpp (i_inj (by omega) (by omega) q.2))]
  · intro hw'
    have hw3' : w ≠ 3 := fun q => hw' (hw9.mpr q)
    refine ⟨n3, r3, fun a b h1 h2 h3 => ?_, ?_, nIi, fun s' hs' k hk => ?_, fun q => absurd q hw3'⟩
    · rw [oI (by omega)]; exact e3 a b h1 (by omega)
    · rw [oI (by omega)]; exact e34
    · rw [oI (by omega)]; exact k3 s' hs' k hk
  · intro hw'
    have hw3' : w = 3 := hw9.mp hw'
    rintro _ rfl
    refine ⟨3 + 3 * s, by show mR σ3 _ _ = _; rw [r3]; exact v3 s hs hsv, kS hs, kS hs, ?_⟩
    have ht : mI (sI σ3 (21 + c) 5 (mI μ 0 1)) (3 + 3 * s) 7 = mI μ 9 s := by rw [oI (by omega), e3 _ _ (by omega) (by omega)]; exact hVs.2.2.2.2.2.2.2.2.1
    rw [ht]
    have hcl : mI (eClose μ c w) 9 s = mI μ 9 s + (if (50 : Int32) ≤ mI μ 9 s then 0 else 1) ∧ mI (eClose μ c w) 10 s = 0 := by
      unfold eClose eTok eEnd
      rw [if_pos hw3', qS_e hsv hs]
      simp (disch := omega) only [oI, nIi, and_self]
    refine ⟨fun h50 => ?_, fun h50 => ?_⟩
    · rintro _ rfl
      refine ⟨n3, r3, fun a b h1 h2 h3 => ?_, ?_, ?_, fun s' hs' k hk => ?_, fun _ => ⟨?_, ?_⟩⟩
      · rw [oI (by omega), oI (by omega)]; exact e3 a b h1 (by omega)
      · rw [oI (by omega), oI (by omega)]; exact e34
      · rw [oI (by omega), nIi]
      · rw [oI (by omega), oI (by omega)]; exact k3 s' hs' k hk
      · rw [oI (by omega), ht, hcl.1, if_pos h50, Int32.add_zero]
      · rw [nIi, hcl.2]
    · rintro _ rfl _ rfl
      refine ⟨n3, r3, fun a b h1 h2 h3 => ?_, ?_, ?_, fun s' hs' k hk => ?_, fun _ => ⟨?_, ?_⟩⟩
      · rw [oI (by omega), oI (by omega), oI (by omega)]; exact e3 a b h1 (by omega)
      · rw [oI (by omega), oI (by omega), oI (by omega)]; exact e34
      · rw [oI (by omega), oI (by omega), nIi]
      · rw [oI (by omega), oI (by omega), oI (by omega)]; exact k3 s' hs' k hk
      · rw [oI (by omega), nIi, hcl.1, if_neg h50]
      · rw [nIi, hcl.2]
