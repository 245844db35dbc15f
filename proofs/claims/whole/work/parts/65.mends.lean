theorem m_isOver {μ : mS} {d : Nat} {Q : Int32 → mS → Prop} (hd : d < 200) (h1 : mI μ 15 d < 3 → Q 0 μ) (h2 : ¬ mI μ 15 d < 3 → Q 1 μ) : w_X3_isOver (nI d) μ Q := by
  unfold w_X3_isOver
  exact ⟨d, rfl, hd, h1, h2⟩
theorem wM_n {μ : mS} {n d : Nat} (h : wM μ n) (hd : d < 2 ^ 31) : mI μ 0 13 ≤ nI d ↔ n ≤ d := by
  rw [h.2.2.1]
  exact nI_leI (by have := h.2.2.2.1; omega) hd
theorem wM_svc {μ : mS} {n c : Nat} (h : wM μ n) (hc : c < n) : ∃ s, s < 6 ∧ mI μ 12 c = nI s := (h.2.2.2.2.2.1 c hc).1
theorem wM_par {μ : mS} {n c : Nat} (h : wM μ n) (hc : c < n) : mI μ 14 c = -1 ∨ ∃ p, p < c ∧ mI μ 14 c = nI p := (h.2.2.2.2.2.1 c hc).2.1
theorem m_endsE {μ : mS} {n c w : Nat} {Q : Int32 → mS → Prop} (hE : wM (eEnd μ c w) n) (hc : c < n) (hw3 : 3 ≤ w) (hw : w < 8) (hQ : Q (eFcn μ c w) (eFin μ c w)) : w_X3_ends (nI c) (nI w) μ Q := by
  have hn := hE.2.2.2.1
  obtain ⟨s, hs, hsv⟩ := wM_svc hE hc
  rw [show mI (eEnd μ c w) 12 c = mI μ 12 c from by unfold eEnd; rw [oI (by omega), oI (by omega)]] at hsv
  have hqn : qN μ = n := by
    have h13 := hE.2.2.1
    rw [show mI (eEnd μ c w) 0 13 = mI μ 0 13 from by unfold eEnd; rw [oI (by omega), oI (by omega)]] at h13
    unfold qN; rw [h13, nI_clamp (by omega)]
  have hw9 : (nI w = 3) ↔ w = 3 := nI_eq (b := 3) (by omega) (by omega)
  unfold w_X3_ends
  refine ⟨c, rfl, by omega, ?_⟩
  rintro _ rfl
  refine ⟨c, rfl, by omega, ?_⟩
  rintro _ rfl
  rw [show sI (sI μ 15 c (nI w)) 17 c (mI (sI μ 15 c (nI w)) 0 1) = eEnd μ c w from by unfold eEnd; rw [oI (by omega)]]
  refine ⟨fun k x y μ' => ∃ d, y = nI d ∧ c < d ∧ d ≤ n ∧ k = n - d ∧ wM μ' n ∧ mI μ' 12 c = nI s ∧ eLoop (n - d) d μ' = eLoop (n - (c + 1)) (c + 1) (eEnd μ c w) ∧ eLcnt (n - d) d x μ' = eLcnt (n - (c + 1)) (c + 1) 0 (eEnd μ c w), ?_, n - (c + 1), c + 1, ?_, by omega, by omega, rfl, hE, ?_, rfl, rfl⟩
  · rintro k x y μ' ⟨d, rfl, hcd, hdn, rfl, hM, hsv', e1, e2⟩
    refine ⟨fun hle => ?_, fun hnle => ?_⟩
    · have h1 := (wM_n hM (by omega)).mp hle
      rw [show n - d = 0 by omega] at e1 e2
      have e1 : μ' = _ := e1
      have e2 : x = _ := e2
      subst e2
      refine ⟨c, rfl, by omega, fun hw' => ?_, fun hw' => ?_⟩
      · have h3 : ¬ w = 3 := fun q => hw' (hw9.mpr q)
        unfold eFin eFcn eClose at hQ
        rw [if_neg h3, hqn, ← e1] at hQ
        exact hQ
      · have h3 : w = 3 := hw9.mp hw'
        unfold eFin eFcn eClose at hQ
        rw [if_pos h3, hqn, eLoop_tok, eLcnt_tok, qS_e hsv hs, ← e1] at hQ
        unfold eTok at hQ
        refine ⟨s, hsv', hs, s, hsv', hs, fun h50 => ⟨s, hsv', hs, ?_⟩, fun h50 => ⟨s, hsv', hs, ?_⟩⟩
        · rintro _ rfl
          refine ⟨s, hsv', hs, ?_⟩
          rintro _ rfl
          rw [if_pos h50] at hQ
          exact hQ
        · rintro _ rfl
          refine ⟨s, hsv', hs, ?_⟩
          rintro _ rfl
          rw [if_neg h50] at hQ
          exact hQ
    · have hd : d < n := Nat.not_le.mp fun q => hnle ((wM_n hM (by omega)).mpr q)
      rw [eLoop_s hd] at e1
      rw [eLcnt_s hd] at e2
      have keep : ¬ eCond μ' d → ∃ k, k < n - d ∧ ∃ d', nI d + 1 = nI d' ∧ c < d' ∧ d' ≤ n ∧ k = n - d' ∧ wM μ' n ∧ mI μ' 12 c = nI s ∧ eLoop (n - d') d' μ' = eLoop (n - (c + 1)) (c + 1) (eEnd μ c w) ∧ eLcnt (n - d') d' x μ' = eLcnt (n - (c + 1)) (c + 1) 0 (eEnd μ c w) := fun hne => by
        rw [if_neg hne] at e2
        rw [show eStep μ' d = μ' from if_neg hne] at e1 e2
        exact ⟨n - (d + 1), by omega, d + 1, nI_1 d, by omega, by omega, rfl, hM, hsv', e1, e2⟩
      refine m_isOver (by omega) (fun ho' => ⟨fun q => absurd rfl q, fun _ => ⟨d, rfl, by omega, fun hp => keep (fun q => q.2.1 hp), fun hp => ⟨d, rfl, by omega, ?_⟩⟩⟩) (fun hov => ⟨fun _ => keep (fun q => hov q.1), fun q => absurd q (by decide)⟩)
      rcases wM_par hM hd with hpar | ⟨p, hp2, hpar⟩
      · exact absurd hpar hp
      · have hqp := qP_e hpar (by omega)
        rw [hpar]
        refine m_isOver (by omega) (fun hpo => ⟨fun _ => keep (fun q => q.2.2 (by rw [hqp]; exact hpo)), fun q => absurd rfl q⟩) (fun hpo => ⟨fun q => absurd q (by decide), fun _ => ⟨d, rfl, by omega, ?_⟩⟩)
        rintro _ rfl
        refine ⟨d, rfl, by omega, ?_⟩
        rintro _ rfl
        have hcond : eCond μ' d := ⟨ho', hp, by rw [hqp]; exact hpo⟩
        rw [if_pos hcond] at e2
        rw [show eStep μ' d = eEnd μ' d 7 from if_pos hcond] at e1 e2
        refine ⟨n - (d + 1), by omega, d + 1, nI_1 d, by omega, by omega, rfl, ?_⟩
        rw [show sI (sI μ' 15 d 7) 17 d (mI (sI μ' 15 d 7) 0 1) = eEnd μ' d 7 from by unfold eEnd; rw [oI (by omega)]; rfl]
        exact ⟨wM_end hM hd (by omega) (by omega), by unfold eEnd; rw [oI (by omega), oI (by omega)]; exact hsv', e1, e2⟩
  · rw [← nI_1]
  · unfold eEnd; rw [oI (by omega), oI (by omega)]; exact hsv
theorem m_ends {μ : mS} {n c w : Nat} {Q : Int32 → mS → Prop} (h : wM μ n) (hc : c < n) (hw3 : 3 ≤ w) (hw : w < 8) (hQ : Q (eFcn μ c w) (eFin μ c w)) : w_X3_ends (nI c) (nI w) μ Q := m_endsE (wM_end h hc hw3 hw) hc hw3 hw hQ
theorem wM_loop {n : Nat} : ∀ (k c : Nat) (μ : mS), wM μ n → c + k ≤ n → wM (eLoop k c μ) n := by
  intro k
  induction k with
  | zero => intro c μ h _; exact h
  | succ k ih => intro c μ h hk; exact ih (c + 1) _ (wM_step h (by omega)) (by omega)
theorem wM_fin {μ : mS} {n c w : Nat} (h : wM μ n) (hc : c < n) (hw3 : 3 ≤ w) (hw : w < 8) : wM (eFin μ c w) n := by
  unfold eFin
  rw [qN_e h]
  exact wM_loop _ _ _ (wM_close h hc hw3 hw) (by omega)
theorem eFin_o {μ : mS} {c w a b : Nat} (h : a ≠ 15) (h2 : a ≠ 17) (h3 : a ≠ 9) (h4 : a ≠ 10) : mI (eFin μ c w) a b = mI μ a b := by
  unfold eFin
  rw [eLoop_o h h2, eC_o (by omega) (by omega) (by omega)]
