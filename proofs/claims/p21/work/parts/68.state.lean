/-- an open call's state (and what goes with it) changes to another open one -/
theorem R0_st {σ σ' μ μ' : mS} {n h c s w : Nat} (R : R0 σ μ n h) (hc : c < n) (hs : s < 6) (ho : mI μ 15 c < 3) (hw : w < 3) (hN : mN σ' = mN σ) (hR' : ∀ a b, ¬ (a = 21 + c ∧ b = 11) → mR σ' a b = mR σ a b) (hrr : rR σ')
    (e : ∀ a b, a ≠ 5 + 3 * s → ¬ (a = 21 + c ∧ (b = 4 ∨ b = 6 ∨ (9 ≤ b ∧ b ≤ 17 ∧ b ≠ 15))) → mI σ' a b = mI σ a b)
    (e4 : mI σ' (21 + c) 4 = nI w) (eK : ∀ s', s' < 6 → ∀ k, k < 8 → mI σ' (5 + 3 * s') k = nI (cnt n (fK (sI μ 15 c (nI w)) s' k)))
    (e6 : w = 1 → mI σ' (21 + c) 6 = mI μ' 16 c) (hM : wM μ' n) (m15 : mI μ' 15 c = nI w)
    (em : ∀ a b, ¬ ((a = 15 ∨ a = 16 ∨ a = 21 ∨ a = 22 ∨ a = 23 ∨ a = 24) ∧ b = c) → ¬ (a = 20 ∧ 3 * c ≤ b ∧ b < 3 * c + 3) → mI μ' a b = mI μ a b)
    (hA' : w = 2 → rA σ' μ' n c) : R0 σ' μ' n h := by
  have hn := R.n2
  have hh := R.h_le ho
  have hop : mI μ' 15 c < 3 := by rw [m15]; exact (i_lt3 (by omega)).mpr hw
  have h3' : mI μ' 15 c ≠ 3 := fun q => by rw [q] at hop; exact absurd hop (by decide)
  have h3 : mI μ 15 c ≠ 3 := fun q => by rw [q] at ho; exact absurd ho (by decide)
  have lt3 : ∀ d, mI μ' 15 d < 3 ↔ mI μ 15 d < 3 := fun d => by
    by_cases hd : d = c
    · subst hd; exact ⟨fun _ => ho, fun _ => hop⟩
    · rw [em 15 d (by omega) (by omega)]
  obtain ⟨-, ⟨g1, g2, g3, g4, g5, g6⟩, hV, hK, hC, hO, hA, hL⟩ := R
  refine ⟨hM, ⟨by rw [hN]; exact g1, hrr, ?_, ?_, ?_, fun d h1 h2 => by rw [hR' _ _ (by omega)]; exact g6 d h1 h2⟩, fun s' hs' => ?_, fun s' hs' k hk => ?_, fun d hd => ?_, fun p hp => ?_, fun p hp hst => ?_, ?_⟩
  · rw [e _ _ (by omega) (by omega)]; exact g3
  · rw [e _ _ (by omega) (by omega), em _ _ (by omega) (by omega)]; exact g4
  · rw [e _ _ (by omega) (by omega), show fR μ' = fR μ from funext fun d => decide_eq_decide.mpr (by rw [em 14 d (by omega) (by omega), lt3 d])]; exact g5
  · have := hV s' hs'
    unfold rV at this ⊢
    simp (disch := omega) only [e, em, hR']; exact this
  · rw [eK s' hs' k hk]
    congr 2
    funext d
    simp only [fK]
    rw [em 12 d (by omega) (by omega), oI (a := 12) (by omega)]
    by_cases hd : d = c
    · subst hd; rw [m15, nIi]
    · rw [em 15 d (by omega) (by omega), oI (by omega)]
  · obtain ⟨v1, v2, v3, v4, v5, v6, v7, v8, v9⟩ := hC d hd
    unfold rC
    refine ⟨by rw [hR' _ _ (by omega)]; exact v1, by rw [e _ _ (by omega) (by omega)]; exact v2, by rw [em _ _ (by omega) (by omega), hR' _ _ (by omega)]; exact v3, by rw [em _ _ (by omega) (by omega), hR' _ _ (by omega)]; exact v4, by rw [em _ _ (by omega) (by omega), hR' _ _ (by omega)]; exact v5, by rw [e _ _ (by omega) (by omega), em _ _ (by omega) (by omega)]; exact v6, ?_, by rw [e _ _ (by omega) (by omega), em _ _ (by omega) (by omega)]; exact v8, ?_⟩
    · by_cases hdc : d = c
      · subst hdc; rw [e4, m15]
      · rw [e _ _ (by omega) (by omega), em _ _ (by omega) (by omega)]; exact v7
    · by_cases hdc : d = c
      · subst hdc
        rw [m15]
        exact fun q => e6 (i_inj (b := 1) (by omega) (by omega) q)
      · rw [e _ _ (by omega) (by omega), em _ _ (by omega) (by omega), em _ _ (by omega) (by omega)]; exact v9
  · have := hO p hp
    unfold rO at this ⊢
    rw [lt3 p, e _ _ (by omega) (by omega), show fO μ' p = fO μ p from funext fun d => decide_eq_decide.mpr (by rw [em 14 d (by omega) (by omega), lt3 d])]
    exact this
  · by_cases hpc : p = c
    · subst hpc
      rw [m15] at hst
      exact hA' (i_inj (b := 2) (by omega) (by omega) hst) (by rw [m15]; exact hst)
    · rw [em 15 p (by omega) (by omega)] at hst
      obtain ⟨a1, a2, a3, a4, a5, a6, a7, a8⟩ := hA p hp hst
      have ht : ∀ d, qTry μ' p d ↔ qTry μ p d := fun d => by unfold qTry; rw [em 14 d (by omega) (by omega), em 19 d (by omega) (by omega), em 22 p (by omega) (by omega)]
      refine ⟨by rw [e _ _ (by omega) (by omega), em _ _ (by omega) (by omega)]; exact a1, by rw [e _ _ (by omega) (by omega), em _ _ (by omega) (by omega)]; exact a2, ?_, by rw [e _ _ (by omega) (by omega), em _ _ (by omega) (by omega)]; exact a4, ?_, ?_, by rw [e _ _ (by omega) (by omega), em _ _ (by omega) (by omega)]; exact a7, ?_⟩
      · intro k r hk hr h1 h2
        rw [em _ _ (by omega) (by omega)] at h1 h2
        rw [hR' _ _ (by omega)]; exact a3 k r hk hr h1 h2
      · rw [e _ _ (by omega) (by omega), a5]
        refine ⟨fun q d hd h1 => ?_, fun q d hd h1 => ?_⟩
        · by_cases hdc : d = c
          · subst hdc; exact h3'
          · rw [em 15 d (by omega) (by omega)]; exact q d hd ((ht d).mp h1)
        · by_cases hdc : d = c
          · subst hdc; exact h3
          · have := q d hd ((ht d).mpr h1)
            rw [em 15 d (by omega) (by omega)] at this; exact this
      · rw [e _ _ (by omega) (by omega), show fT μ' p = fT μ p from funext fun d => decide_eq_decide.mpr (ht d)]; exact a6
      · intro d hd h1
        rw [e _ _ (by omega) (by omega), e _ _ (by omega) (by omega), em 18 d (by omega) (by omega)]
        exact a8 d hd ((ht d).mp h1)
  · obtain ⟨l1, l2, l3, l4, l5, l6, l7, l8⟩ := hL
    refine ⟨fun d hd => by rw [lt3 d]; exact l1 d hd, l2, by rw [hR' _ _ (by omega)]; exact l3, by rw [hR' _ _ (by omega)]; exact l4, fun d h1 h2 => by rw [hR' _ _ (by omega)]; exact l5 d h1 h2, fun d h1 h2 => by rw [hR' _ _ (by omega)]; exact l6 d h1 h2, by rw [hR' _ _ (by omega)]; exact l7, fun d hd => by rw [hR' _ _ (by omega)]; exact l8 d hd⟩
def eWrk (μ : mS) (c : Nat) : mS := sI (sI μ 15 c 1) 16 c (mI μ 0 1 + mI μ 1 (qS μ c))
theorem wM_wrk {μ : mS} {n c : Nat} (h : wM μ n) (hc : c < n) (ho : mI μ 15 c < 3) (hch : ∀ d, d < n → mI μ 14 d ≠ nI c) : wM (eWrk μ c) n := wM_ir (wM_st (w := 1) h hc (by omega) (by omega) (fun _ => hch) (fun _ => ho)) (by unfold irr; omega)
theorem s_work {σ μ : mS} {n h c : Nat} {Q : mS → Prop} (R : R0 σ μ n h) (hc : c < n) (ho : mI μ 15 c < 3) (hch : ∀ d, d < n → mI μ 14 d ≠ nI c) (hQ : ∀ σ', R0 σ' (eWrk μ c) n h → Q σ') : w_X2_startWork (some (21 + c)) σ Q := by
  obtain ⟨s, hs, hsv, hr⟩ := R.svc hc
  have hq := qS_e hsv hs
  have hV := R.2.2.1 s hs
  unfold w_X2_startWork
  refine ⟨21 + c, rfl, R.mo hc, s_become (w := 1) R hc hs hsv (by omega) (fun σ1 n1 r1 e1 e4 eK => ⟨kO hc (by rw [n1]; exact R.2.1.1), ?_⟩)⟩
  rintro _ rfl
  rw [r1, hr]
  refine ⟨3 + 3 * s, rfl, kS hs, ?_⟩
  rintro _ rfl
  have h3 : mI σ1 0 3 = mI μ 0 1 := by rw [e1 _ _ (by omega) (by omega)]; exact R.now
  have hwk : mI σ1 (3 + 3 * s) 1 = mI μ 1 s := by rw [e1 _ _ (by omega) (by omega)]; exact hV.2.2.1
  rw [h3, hwk]
  refine hQ _ (R0_st (w := 1) R hc hs ho (by omega) n1 (fun a b _ => r1 a b) (fun a b j hj => ?_) (fun a b h1 h2 => ?_) ?_ (fun s' hs' k hk => ?_) (fun _ => ?_) (wM_wrk R.1 hc ho hch) ?_ (fun a b h1 h2 => ?_) (fun q => by omega))
  · have hj : mR σ1 a b = some j := hj
    rw [r1] at hj
    show j < mN σ1
    rw [n1]
    exact R.2.1.2.1 a b j hj
  · rw [oI (by omega)]; exact e1 a b h1 (by omega)
  · rw [oI (by omega)]; exact e4
  · rw [oI (by omega)]; exact eK s' hs' k hk
  · unfold eWrk; rw [nIi, nIi, hq]
  · unfold eWrk; rw [oI (by omega), nIi]; rfl
  · unfold eWrk; rw [oI (by omega), oI (by omega)]
def eQue (μ : mS) (c : Nat) : mS := sI μ 15 c 0
theorem wM_que {μ : mS} {n c : Nat} (h : wM μ n) (hc : c < n) (ho : mI μ 15 c < 3) (hch : ∀ d, d < n → mI μ 14 d ≠ nI c) : wM (eQue μ c) n := wM_st (w := 0) h hc (by omega) (by omega) (fun _ => hch) (fun _ => ho)
theorem s_queue {σ μ : mS} {n h c : Nat} {Q : mS → Prop} (R : R0 σ μ n h) (hc : c < n) (ho : mI μ 15 c < 3) (hch : ∀ d, d < n → mI μ 14 d ≠ nI c) (hQ : ∀ σ', R0 σ' (eQue μ c) n h → Q σ') : w_X0_become (21 + c) (0 : Int32) σ Q := by
  obtain ⟨s, hs, hsv, hr⟩ := R.svc hc
  refine s_become (w := 0) R hc hs hsv (by omega) (fun σ1 n1 r1 e1 e4 eK => hQ _ (R0_st (w := 0) R hc hs ho (by omega) n1 (fun a b _ => r1 a b) (fun a b j hj => ?_) (fun a b h1 h2 => e1 a b h1 (by omega)) e4 eK (fun q => by omega) (wM_que R.1 hc ho hch) nIi (fun a b h1 h2 => oI (by omega)) (fun q => by omega)))
  rw [r1] at hj
  rw [n1]
  exact R.2.1.2.1 a b j hj
