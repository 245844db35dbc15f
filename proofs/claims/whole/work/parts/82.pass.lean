theorem R0_tick {σ μ : mS} {n h : Nat} (R : R0 σ μ n h) : R0 (sI σ 0 3 (mI σ 0 3 + 1)) (eT0 μ) n h := by
  have hT := R.now
  obtain ⟨hM, ⟨g1, g2, g3, g4, g5, g6⟩, hV, hK, hC, hO, hA, hL⟩ := R
  unfold eT0
  have f1 : ∀ s k, fK (sI μ 0 1 (mI μ 0 1 + 1)) s k = fK μ s k := fun s k => fK_c (fun b => by rw [oI (by omega)]) (fun b => by rw [oI (by omega)])
  have f2 : ∀ q, fO (sI μ 0 1 (mI μ 0 1 + 1)) q = fO μ q := fun q => fO_c (fun b => by rw [oI (by omega)]) (fun b => by rw [oI (by omega)])
  have f3 : fR (sI μ 0 1 (mI μ 0 1 + 1)) = fR μ := fR_c (fun b => by rw [oI (by omega)]) (fun b => by rw [oI (by omega)])
  have f4 : ∀ q, fT (sI μ 0 1 (mI μ 0 1 + 1)) q = fT μ q := fun q => fT_c (fun b => by rw [oI (by omega)]) (fun b => by rw [oI (by omega)]) (by rw [oI (by omega)])
  refine ⟨wM_ir hM (by unfold irr; omega), ⟨g1, g2, by rw [oI (by omega)]; exact g3, by rw [nIi, nIi, hT], by rw [f3, oI (by omega)]; exact g5, g6⟩, fun s hs => ?_, fun s hs k hk => by rw [f1, oI (by omega)]; exact hK s hs k hk, fun c hc => ?_, fun q hq => ?_, fun q hq => ?_, ?_⟩
  · have := hV s hs
    unfold rV at this ⊢
    simp (disch := omega) only [oI, mR_sI]; exact this
  · have := hC c hc
    unfold rC at this ⊢
    simp (disch := omega) only [oI, mR_sI]; exact this
  · have := hO q hq
    unfold rO at this ⊢
    rw [f2]
    simp (disch := omega) only [oI]; exact this
  · have := hA q hq
    unfold rA at this ⊢
    rw [f4]
    simp (disch := omega) only [oI, mR_sI, qTry] at this ⊢; exact this
  · unfold rL at hL ⊢
    simp (disch := omega) only [oI, mR_sI]; exact hL
theorem s_tick {σ μ : mS} {n h : Nat} {b u : Nat} {Q : Nat → mS → Prop} (R : R0 σ μ n h) (hb : u + (qN (eMks (eT4 μ)) - n) ≤ b) (hQ : ∀ σ' h', R0 σ' (eTick μ) (qN (eMks (eT4 μ))) h' → Q (qN (eMks (eT4 μ)) - n) σ') :
    w_X2_cutOffHead (sI σ 0 3 (mI σ 0 3 + 1)) (fun σ10 => w_X2_endLate σ10 (fun σ13 => w_X2_endWork σ13 (fun σ16 => w_X2_judgeAsking σ16 (fun σ19 => (∃ k22, u + k22 ≤ b ∧ w_X2_makeTries σ19 k22 (fun σ23 => w_X2_startQueued σ23 (fun σ26 => Q k22 σ26))))))) := by
  have hqn := qN_e R.1
  unfold eTick eT4 at hQ
  unfold eT4 at hb
  rw [hqn] at hb hQ
  refine s_cut (R0_tick R) (fun σ1 h1 R1 => s_endLate R1 (fun σ2 R2 => s_endWork R2 (fun σ3 R3 => s_judgeAsking R3 (fun σ4 R4 => ⟨_, hb, s_makeTries R4 (by omega) (fun σ5 R5 => s_startQueued R5 (fun σ6 R6 => hQ σ6 h1 R6))⟩))))
theorem m_ticks {μ : mS} {n : Nat} {Q : mS → Prop} (h : wM μ n) (hQ : Q (eTick μ)) : w_X3_ticks μ Q := by
  have hn := h.2.2.2.1
  have hqn := qN_e h
  unfold eTick eT4 at hQ
  rw [hqn] at hQ
  have h0 : wM (eT0 μ) n := wM_ir h (by unfold irr; omega)
  have h1 : wM (upL eLate n 0 (eT0 μ)) n := upL_keep (P := fun μ => wM μ n) (fun μ c hc q => wM_late q hc) n 0 _ (by omega) h0
  have h2 : wM (upL eWork n 0 (upL eLate n 0 (eT0 μ))) n := upL_keep (P := fun μ => wM μ n) (fun μ c hc q => wM_work q hc) n 0 _ (by omega) h1
  unfold w_X3_ticks
  rintro _ rfl
  rw [show sI μ 0 1 (mI μ 0 1 + 1) = eT0 μ from rfl]
  refine m_late h0 (m_worksOut h1 ?_)
  generalize upL eWork n 0 (upL eLate n 0 (eT0 μ)) = μ3 at h2 hQ
  rw [h2.2.2.1]
  refine ⟨fun k y μ' => ∃ d, y = nI d - 1 ∧ d ≤ n ∧ k = d ∧ wM μ' n ∧ dnL eJdg d μ' = dnL eJdg n μ3, ?_, n, n, rfl, Nat.le_refl _, rfl, h2, rfl⟩
  intro k y μ' ⟨d, hy, hdn, hk, hM, e1⟩
  rw [hy, hk]
  cases d with
  | zero =>
    have e1 : μ' = _ := e1
    refine ⟨fun _ => ?_, fun q => absurd (by decide) q⟩
    rw [e1]
    rw [e1] at hM
    generalize dnL eJdg n μ3 = μ4 at hM hQ
    refine m_makesTries hM ?_
    obtain ⟨n', hn', hM'⟩ := wM_mks hM
    generalize eMks μ4 = μ5 at hM' hQ
    refine ⟨fun k x μ' => ∃ d, x = nI d ∧ d ≤ 6 ∧ k = 6 - d ∧ wM μ' n' ∧ upL eTQ (6 - d) d μ' = upL eTQ 6 0 μ5, ?_, 6, 0, rfl, by omega, rfl, hM', rfl⟩
    intro k x μ' ⟨d, hx, hd6, hk, hM6, e2⟩
    rw [hx, hk]
    have hle : ((6 : Int32) ≤ nI d) ↔ 6 ≤ d := nI_leI (a := 6) (by omega) (by omega)
    refine ⟨fun hl => ?_, fun hl => ?_⟩
    · have h9 := hle.mp hl
      rw [show 6 - d = 0 by omega] at e2
      have e2 : μ' = _ := e2
      rw [e2]; exact hQ
    · have hd : d < 6 := Nat.not_le.mp fun q => hl (hle.mpr q)
      rw [upL_s hd] at e2
      exact m_takesQueued hM6 hd ⟨6 - (d + 1), by omega, d + 1, nI_1 d, by omega, rfl, wM_TQ hM6, e2⟩
  | succ d =>
    rw [nI_pred]
    have hd : d < n := by omega
    have hm1 : nI d + (-1) = nI d - 1 := by rw [Int32.sub_eq_add_neg]
    have e1 : dnL eJdg d (eJdg μ' d) = dnL eJdg n μ3 := e1
    have keep : ¬ (mI μ' 15 d = 2 ∧ mI μ' 24 d = 0) → ∃ k, k < d + 1 ∧ ∃ d', nI d + (-1) = nI d' - 1 ∧ d' ≤ n ∧ k = d' ∧ wM μ' n ∧ dnL eJdg d' μ' = dnL eJdg n μ3 := fun hne => by
      rw [show eJdg μ' d = μ' from if_neg hne] at e1
      exact ⟨d, by omega, d, hm1, by omega, rfl, hM, e1⟩
    refine ⟨fun q => absurd q (nI_pos (by omega)), fun _ => ⟨d, rfl, by omega, fun hne => keep (fun q => hne q.1), fun hst => ⟨d, rfl, by omega, fun hw => keep (fun q => hw q.2), fun hw => ?_⟩⟩⟩
    have hW := wM_jdg hM hd
    rw [show eJdg μ' d = _ from if_pos ⟨hst, hw⟩] at e1 hW
    exact m_looks hM hd hst ⟨d, by omega, d, hm1, by omega, rfl, hW, e1⟩
theorem m_rootsOver {μ : mS} {n : Nat} {Q : Int32 → mS → Prop} (h : wM μ n) (hQ : Q (nI (cnt n (fR μ))) μ) : w_X3_rootsOver μ Q := by
  have hn := h.2.2.2.1
  unfold w_X3_rootsOver
  refine ⟨fun k x y μ' => ∃ d, y = nI d ∧ d ≤ n ∧ k = n - d ∧ μ' = μ ∧ x = nI (cnt d (fR μ)), ?_, n, 0, rfl, by omega, rfl, rfl, rfl⟩
  intro k x y μ' ⟨d, hy, hdn, hk, hμ, hx⟩
  rw [hy, hk, hμ, hx]
  refine ⟨fun hle => ?_, fun hnle => ?_⟩
  · have h1 := (wM_n h (by omega)).mp hle
    have : d = n := by omega
    rw [this]; exact hQ
  · have hd : d < n := Nat.not_le.mp fun q => hnle ((wM_n h (by omega)).mpr q)
    refine ⟨d, rfl, by omega, fun hne => ⟨n - (d + 1), by omega, d + 1, nI_1 d, by omega, rfl, rfl, ?_⟩, fun he => m_isOver (by omega) (fun ho => ⟨fun _ => ⟨n - (d + 1), by omega, d + 1, nI_1 d, by omega, rfl, rfl, ?_⟩, fun q => absurd rfl q⟩) (fun ho => ⟨fun q => absurd q (by decide), fun _ => ⟨n - (d + 1), by omega, d + 1, nI_1 d, by omega, rfl, rfl, ?_⟩⟩)⟩
    · rw [cnt_succ, if_neg (by simp [hne]), Int32.add_zero, Nat.add_zero]
    · rw [cnt_succ, if_neg (by simp [ho]), Int32.add_zero, Nat.add_zero]
    · rw [cnt_succ, if_pos (by simp [he, ho]), nI_1]
