def eCan (p : Nat) (μ : mS) (d : Nat) : mS := if qTry μ p d ∧ mI μ 15 d < 3 then eFin μ d 7 else μ
def eNxt (μ : mS) (p : Nat) : mS := if mI μ 22 p + 1 = mI μ 21 p then sI (sI (eFin μ p 3) 22 p (mI μ 22 p + 1)) 23 p 0 else sI (sI (sI μ 22 p (mI μ 22 p + 1)) 23 p 0) 24 p 1
def eGoL (μ : mS) (p : Nat) : mS := upL (eCan p) (qN μ - (p + 1)) (p + 1) μ
def eGo (μ : mS) (p : Nat) : mS := eNxt (eGoL μ p) p
theorem wM_can {p : Nat} {μ : mS} {n d : Nat} (h : wM μ n) (hd : d < n) : wM (eCan p μ d) n := by
  unfold eCan
  split
  · exact wM_fin (w := 7) h hd (by omega) (by omega)
  · exact h
theorem eCan_lt {p : Nat} {μ : mS} {d b : Nat} (h : b < d) : mI (eCan p μ d) 15 b = mI μ 15 b := by
  unfold eCan
  split
  · exact eFin_lt h
  · rfl
theorem eCan_o {p : Nat} {μ : mS} {d a b : Nat} (h : a ≠ 15) (h2 : a ≠ 17) (h3 : a ≠ 9) (h4 : a ≠ 10) : mI (eCan p μ d) a b = mI μ a b := by
  unfold eCan
  split
  · exact eFin_o h h2 h3 h4
  · rfl
theorem upL_can_o {p a b : Nat} (h : a ≠ 15) (h2 : a ≠ 17) (h3 : a ≠ 9) (h4 : a ≠ 10) : ∀ (k c : Nat) (μ : mS), mI (upL (eCan p) k c μ) a b = mI μ a b := by
  intro k
  induction k with
  | zero => intro c μ; rfl
  | succ k ih => intro c μ; exact (ih (c + 1) (eCan p μ c)).trans (eCan_o h h2 h3 h4)
/-- where p asks: its open calls are its present tries -/
theorem wM_try {μ : mS} {n p d : Nat} (h : wM μ n) (hp : p < n) (hst : mI μ 15 p = 2) (hd : d < n) (ho : mI μ 15 d < 3) (hpar : mI μ 14 d = nI p) : qTry μ p d := by
  obtain ⟨k, z, a, s, q1, q2, q3, q4, q5, q6, q7, q8, q9, q10⟩ := h.2.2.2.2.2.2.1 p hp hst
  obtain ⟨j, j1, j2, j3⟩ := q10 d hd hpar
  exact ⟨hpar, by rw [j2, q5, j3 ho]⟩
/-- behind the loop all calls of p are over, and p still asks -/
theorem can_all {p n : Nat} : ∀ (k c : Nat) (μ : mS), c + k = n → p < c → wM μ n → mI μ 15 p = 2 → (∀ d, d < c → mI μ 14 d = nI p → ¬ mI μ 15 d < 3) → wM (upL (eCan p) k c μ) n ∧ mI (upL (eCan p) k c μ) 15 p = 2 ∧ ∀ d, d < n → mI (upL (eCan p) k c μ) 14 d = nI p → ¬ mI (upL (eCan p) k c μ) 15 d < 3 := by
  intro k
  induction k with
  | zero =>
    intro c μ hc hpc hM hst ha
    have hc : c = n := hc
    subst hc
    exact ⟨hM, hst, ha⟩
  | succ k ih =>
    intro c μ hc hpc hM hst ha
    refine ih (c + 1) (eCan p μ c) (by omega) (by omega) (wM_can hM (by omega)) (by rw [eCan_lt hpc]; exact hst) (fun d hd hpar => ?_)
    rw [eCan_o (by omega) (by omega) (by omega) (by omega)] at hpar
    by_cases hdc : d = c
    · subst hdc
      unfold eCan
      by_cases hq : qTry μ p d ∧ mI μ 15 d < 3
      · rw [if_pos hq, eFin_self]; exact i_nlt3 (by omega) (by omega)
      · rw [if_neg hq]
        exact fun ho => hq ⟨wM_try hM (by omega) hst (by omega) ho hpar, ho⟩
    · rw [eCan_lt (by omega)]
      exact ha d (by omega) hpar
theorem wM_par_gt {μ : mS} {n d p : Nat} (h : wM μ n) (hd : d < n) (hp : p < 200) (hpar : mI μ 14 d = nI p) : p < d := by
  have hn := h.2.2.2.1
  rcases wM_par h hd with q | ⟨p', h1, h2⟩
  · exact absurd (hpar.symm.trans q) (i_ne1 (by omega))
  · rw [i_inj (by omega) (by omega) (hpar.symm.trans h2)]; exact h1
theorem goL_all {μ : mS} {n p : Nat} (h : wM μ n) (hp : p < n) (hst : mI μ 15 p = 2) : wM (eGoL μ p) n ∧ mI (eGoL μ p) 15 p = 2 ∧ ∀ d, d < n → mI (eGoL μ p) 14 d = nI p → ¬ mI (eGoL μ p) 15 d < 3 := by
  unfold eGoL
  rw [qN_e h]
  refine can_all _ _ _ (by omega) (by omega) h hst (fun d hd hpar => ?_)
  have := wM_par_gt h (by omega) (by have := h.2.2.2.1; omega) hpar
  omega
theorem s_cancelTries {σ μ : mS} {n h p : Nat} {Q : mS → Prop} (R : R0 σ μ n h) (hp : p < n) (hst : mI μ 15 p = 2) (hQ : ∀ σ', R0 σ' (eGoL μ p) n h → Q σ') : w_X2_cancelTries (some (21 + p)) σ Q := by
  have hhp := R.h_le (c := p) (by rw [hst]; decide)
  have hqn := qN_e R.1
  have hn := R.n2
  unfold w_X2_cancelTries
  refine ⟨21 + p, rfl, R.mo hp, ?_⟩
  rintro _ rfl
  rw [R.nxt hhp hp]
  refine ⟨fun k r σ' => ∃ d μ', p < d ∧ d ≤ n ∧ k = n - d ∧ r = nx d n ∧ R0 σ' μ' n h ∧ mI μ' 15 p = 2 ∧ upL (eCan p) (n - d) d μ' = eGoL μ p, ?_, n - (p + 1), p + 1, μ, by omega, by omega, rfl, rfl, R, hst, by unfold eGoL; rw [hqn]⟩
  rintro k r σ' ⟨d, μ', hcd, hdn, rfl, rfl, R', hst', e1⟩
  refine ⟨fun hr => ?_, fun i hi => ?_⟩
  · have h1 := nx_none hr
    rw [show n - d = 0 by omega] at e1
    have e1 : μ' = _ := e1
    exact hQ _ (by rw [← e1]; exact R')
  · obtain ⟨hd, rfl⟩ := nx_some hi
    rw [upL_s hd] at e1
    have keep : ¬ (qTry μ' p d ∧ mI μ' 15 d < 3) → ∃ k, k < n - d ∧ ∃ d' μ'', p < d' ∧ d' ≤ n ∧ k = n - d' ∧ mR σ' (21 + d) 8 = nx d' n ∧ R0 σ' μ'' n h ∧ mI μ'' 15 p = 2 ∧ upL (eCan p) (n - d') d' μ'' = eGoL μ p := fun hne => by
      rw [show eCan p μ' d = μ' from if_neg hne] at e1
      exact ⟨n - (d + 1), by omega, d + 1, μ', by omega, by omega, rfl, R'.nxt (by omega) hd, R', hst', e1⟩
    refine ⟨R'.mo hd, ?_⟩
    rintro _ rfl
    obtain ⟨-, -, -, v4, v5, -⟩ := R'.2.2.2.2.1 d hd
    have hpr : mR σ' (21 + d) 2 = some (21 + p) ↔ mI μ' 14 d = nI p := by
      rcases wM_par R'.1 hd with q | ⟨p', h1, h2⟩
      · rw [v4 q, q]
        exact ⟨fun z => (by cases z), fun z => absurd z.symm (i_ne1 (by omega))⟩
      · rw [v5 p' h1 h2, h2]
        exact ⟨fun z => by rw [show p' = p by have := Option.some.inj z; omega], fun z => by rw [i_inj (by omega) (by omega) z]⟩
    refine ⟨fun hne => ?_, fun heq => ?_⟩
    · rintro _ rfl
      exact keep (fun q => hne (hpr.mpr q.1.1))
    · have hpar := hpr.mp heq
      refine s_isOver R' hd (fun ho => ⟨fun q => absurd rfl q, fun _ => ?_⟩) (fun hov => ⟨fun _ => ⟨R'.mo hd, ?_⟩, fun q => absurd q (by decide)⟩)
      · have hT := wM_try R'.1 hp hst' hd ho hpar
        rw [show eCan p μ' d = _ from if_pos ⟨hT, ho⟩] at e1
        refine s_finish (w := 7) R' hd ho (by omega) (by omega) (fun σ1 R1 => ⟨R1.mo hd, ?_⟩)
        rintro _ rfl
        exact ⟨n - (d + 1), by omega, d + 1, _, by omega, by omega, rfl, R1.nxt (by omega) hd, R1, by rw [eFin_lt hcd]; exact hst', e1⟩
      · rintro _ rfl
        exact keep (fun q => hov q.2)
theorem eNxt_f {μ : mS} {p a b : Nat} (hne : ¬ mI μ 22 p + 1 = mI μ 21 p) (h : ¬ ((a = 22 ∨ a = 23 ∨ a = 24) ∧ b = p)) : mI (eNxt μ p) a b = mI μ a b := by
  unfold eNxt
  rw [if_neg hne, oI (by omega), oI (by omega), oI (by omega)]
theorem wM_nxt {μ : mS} {n p : Nat} (h : wM μ n) (hp : p < n) (hst : mI μ 15 p = 2) (hall : ∀ d, d < n → mI μ 14 d = nI p → ¬ mI μ 15 d < 3) : wM (eNxt μ p) n := by
  by_cases hq : mI μ 22 p + 1 = mI μ 21 p
  · unfold eNxt
    rw [if_pos hq]
    refine wM_ir (wM_22 (wM_fin (w := 3) h hp (by omega) (by omega)) ?_) (by unfold irr; omega)
    rw [eFin_self]; decide
  · have f := fun a b => eNxt_f (a := a) (b := b) hq
    have f22 : mI (eNxt μ p) 22 p = mI μ 22 p + 1 := by unfold eNxt; rw [if_neg hq, oI (by omega), oI (by omega), nIi]
    obtain ⟨w1, w2, w3, w4, w5, w6, w7, w8⟩ := h
    have hN : mN (eNxt μ p) = mN μ ∧ ∀ a b, mR (eNxt μ p) a b = mR μ a b := by unfold eNxt; rw [if_neg hq]; exact ⟨rfl, fun _ _ => rfl⟩
    refine ⟨by rw [hN.1]; exact w1, ?_, by rw [f _ _ (by omega)]; exact w3, w4, fun s' hs' => ?_, fun d hd => ?_, fun q hq2 hst2 => ?_, fun q hq2 hst2 d hd => ?_⟩
    · unfold eNxt; rw [if_neg hq]; exact w2
    · have := w5 s' hs'
      unfold wS at this ⊢
      simp (disch := omega) only [f]; exact this
    · have := w6 d hd
      unfold wC at this ⊢
      simp (disch := omega) only [f]; exact this
    · rw [f _ _ (by omega)] at hst2
      obtain ⟨k, z, a, s, q1, q2, q3, q4, q5, q6, q7, q8, q9, q10⟩ := w7 q hq2 hst2
      by_cases hqp : q = p
      · subst hqp
        have hkz : k + 1 ≠ z := fun y => hq (by rw [q5, q6, nI_1, y])
        refine ⟨k + 1, z, a, s, by omega, q2, q3, q4, by rw [f22, q5, nI_1], ?_⟩
        simp (disch := omega) only [f]
        refine ⟨q6, q7, q8, q9, fun e he hpe => ?_⟩
        obtain ⟨j, j1, j2, j3⟩ := q10 e he hpe
        exact ⟨j, by omega, j2, fun y => absurd y (hall e he hpe)⟩
      · refine ⟨k, z, a, s, q1, q2, q3, q4, ?_⟩
        simp (disch := omega) only [f]
        exact ⟨q5, q6, q7, q8, q9, q10⟩
    · rw [f _ _ (by omega)] at hst2
      rw [f _ _ (by omega)]
      exact w8 q hq2 hst2 d hd
theorem wM_go {μ : mS} {n p : Nat} (h : wM μ n) (hp : p < n) (hst : mI μ 15 p = 2) : wM (eGo μ p) n := by
  obtain ⟨h1, h2, h3⟩ := goL_all h hp hst
  exact wM_nxt h1 hp h2 h3
theorem s_goesOn {σ μ : mS} {n h p : Nat} {Q : mS → Prop} (R : R0 σ μ n h) (hp : p < n) (hst : mI μ 15 p = 2) (hall : ∀ d, d < n → mI μ 14 d = nI p → ¬ mI μ 15 d < 3) (hQ : ∀ σ', R0 σ' (eNxt μ p) n h → Q σ') : w_X2_askAt (some (21 + p)) (mI σ (21 + p) 10 + 1) σ Q := by
  have hn := R.n2
  have hop : mI μ 15 p < 3 := by rw [hst]; decide
  obtain ⟨a1, a2, a3, a4, a5, a6, a7, a8⟩ := R.2.2.2.2.2.2.1 p hp hst
  obtain ⟨k, z, a, s, q1, q2, q3, q4, q5, q6, q7, q8, q9, q10⟩ := R.1.2.2.2.2.2.2.1 p hp hst
  rw [a2, q5, nI_1]
  unfold w_X2_askAt
  refine ⟨21 + p, rfl, R.mo hp, s_rowAt (k := k + 1) R hp q4 q7 (a1.trans q6) q8 q2 q3 (by omega) (fun h0 => ⟨fun _ => ?_, fun i q => (by cases q)⟩) (fun h0 r hr6 hrv => ⟨fun q => (by cases q), ?_⟩)⟩
  · have hz : k + 1 = z := by omega
    refine s_finish (w := 3) R hp hop (by omega) (by omega) (fun σ1 R1 => hQ _ ?_)
    unfold eNxt
    rw [if_pos (by rw [q5, q6, nI_1, hz])]
    exact R0_22 R1 (by rw [eFin_self]; decide)
  · rintro _ ⟨⟩
    have hne : ¬ mI μ 22 p + 1 = mI μ 21 p := fun y => by
      rw [q5, q6, nI_1] at y
      have := i_inj (by omega) (by omega) y
      omega
    have f := fun a b => eNxt_f (a := a) (b := b) hne
    have f22 : mI (eNxt μ p) 22 p = nI (k + 1) := by unfold eNxt; rw [if_neg hne, oI (by omega), oI (by omega), nIi, q5, nI_1]
    refine ⟨R.mo hp, s_askNow (k := k + 1) (μ' := eNxt μ p) R hp hop hr6 (wM_nxt R.1 hp hst hall) ?_ (fun a b h1 h2 => f a b (by omega)) ?_ f22 (by omega) ?_ ?_ ?_ (fun e he hq => ?_) hQ⟩
    · rw [f _ _ (by omega)]; exact hst
    · rw [f _ _ (by omega)]; exact a1
    · rw [f _ _ (by omega), q9 (k + 1) h0]; exact hrv
    · unfold eNxt; rw [if_neg hne, oI (by omega), nIi]
    · unfold eNxt; rw [if_neg hne, nIi]
    · have h5 := hq.1
      rw [f _ _ (by omega)] at h5
      obtain ⟨j, j1, j2, j3⟩ := q10 e he h5
      have h6 := hq.2
      rw [f _ _ (by omega), f22, j2] at h6
      have := i_inj (by omega) (by omega) h6
      omega
