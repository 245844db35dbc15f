theorem o_cancel : lO_cancel rel := by
  rintro σ μ ⟨n, h, R, C⟩ y x0
  have hn := R.n2
  refine ⟨2, mN σ, by omega, Nat.le_refl _, R.N, ?_⟩
  have bad : ∀ c, c < n → y = nI c → (¬ mI μ 15 c < 3 ∨ mI μ 14 c ≠ -1) → lQ_cancel rel (mN σ) μ y 2 x0 σ := fun c hc hy hbad => by
    refine ⟨Nat.le_refl _, ?_⟩
    rw [hy]
    unfold w_X3_cancel
    refine m_call1 R.1 hc ⟨fun xk σ1 => xk = 2 ∧ σ1 = μ, ?_, fun _ => m_isOver (by omega) (fun ho => ⟨fun σ1 => σ1 = μ, fun σ1 hσ => ⟨rfl, hσ⟩, fun q => absurd rfl q, fun _ => ⟨c, rfl, by omega, fun q => ?_, fun _ => rfl⟩⟩) (fun ho => ⟨fun σ1 => σ1 = μ, fun σ1 hσ => ⟨rfl, hσ⟩, fun _ => rfl, fun q => absurd q (by decide)⟩), fun q => absurd q (by decide)⟩
    · intro xk σ1 ⟨hxk, hσ⟩
      rw [hxk, hσ]
      rintro _ rfl
      rw [nIi]
      exact ⟨fun q => absurd q (by decide), fun _ => fin1 R C (by decide)⟩
    · rcases hbad with z | z
      · exact absurd ho z
      · exact absurd q z
  unfold w_X2_cancel
  refine ⟨1, by omega, s_callAt R (Nat.le_refl 1) (fun c hc hy => ⟨21 + c, rfl, R.mo hc, s_isOver R hc (fun ho => ⟨fun q => absurd rfl q, fun _ => ⟨R.mo hc, ?_⟩⟩) (fun ho => ⟨fun _ => ⟨by omega, Or.inr ⟨rfl, bad c hc hy (Or.inl ho)⟩⟩, fun q => absurd q (by decide)⟩)⟩) (fun hno => Or.inl ⟨rfl, Nat.le_refl _, ?_⟩)⟩
  · rintro _ rfl
    obtain ⟨-, -, -, v4, v5, -⟩ := R.2.2.2.2.1 c hc
    rcases wM_par R.1 hc with hpar | ⟨p, hp, hpar⟩
    · rw [v4 hpar]
      refine ⟨fun _ => ?_, fun i q => (by cases q)⟩
      have R1 := R0_mu (v := 0) R (Or.inr ⟨rfl, rfl⟩ : 0 = 25 ∨ 0 = 0 ∧ 0 = 0)
      have ho1 : mI (sI μ 0 0 0) 15 c < 3 := by rw [oI (by omega)]; exact ho
      refine s_finish (w := 7) R1 hc ho1 (by omega) (by omega) (fun σ1 R2 => ⟨by rw [R2.2.1.1, R.2.1.1]; exact Nat.le_refl _, ?_⟩)
      rw [hy]
      unfold w_X3_cancel
      refine m_call1 R.1 hc ⟨fun xk σ1 => xk = 0 ∧ σ1 = μ, ?_, fun _ => m_isOver (by omega) (fun _ => ⟨fun σ1 => False, fun σ1 hσ => hσ.elim, fun q => absurd rfl q, fun _ => ⟨c, rfl, by omega, fun _ => ⟨rfl, rfl⟩, fun q => absurd hpar q⟩⟩) (fun q => absurd ho q), fun q => absurd q (by decide)⟩
      intro xk σ2 ⟨hxk, hσ⟩
      rw [hxk, hσ]
      rintro _ rfl
      rw [nIi]
      refine ⟨fun _ => m_ends (w := 7) R1.1 hc (by omega) (by omega) (fin2 R2 (cz_fin (w := 7) R1.1 (cz_0 C) hc (by omega) (by omega)) ?_), fun q => absurd (by decide) q⟩
      exact Int32.add_comm _ _
    · rw [v5 p hp hpar]
      refine ⟨fun q => (by cases q), fun i _ => ⟨by omega, Or.inr ⟨rfl, bad c hc hy (Or.inr (by rw [hpar]; exact i_ne1 (by omega)))⟩⟩⟩
  · unfold w_X3_cancel
    refine m_call0 R.1 hno ⟨fun xk σ1 => xk = 1 ∧ σ1 = μ, ?_, fun q => absurd rfl q, fun _ => ⟨rfl, rfl⟩⟩
    intro xk σ1 ⟨hxk, hσ⟩
    rw [hxk, hσ]
    rintro _ rfl
    rw [nIi]
    exact ⟨fun q => absurd q (by decide), fun _ => fin1 R C (by decide)⟩
theorem o_call : lO_call rel := by
  rintro σ μ ⟨n, h, R, C⟩ y y2 x0
  have hn := R.n2
  refine ⟨3, mN σ, by omega, Nat.le_refl _, R.N, ?_⟩
  have R1 := R0_mu (v := 0) R (Or.inr ⟨rfl, rfl⟩ : 0 = 25 ∨ 0 = 0 ∧ 0 = 0)
  have h2 : mI σ 0 2 = nI n := R.2.1.2.2.1
  have h13 : mI μ 0 13 = nI n := R.1.2.2.1
  unfold w_X2_call
  refine ⟨1, by omega, s_serviceAt R (Nat.le_refl 1) (fun s hs hy => ⟨1, by omega, s_range (Nat.le_refl 1) (fun q1 q2 => ?_) (fun q => Or.inr (Or.inl ⟨rfl, Nat.le_refl _, ?_⟩))⟩) (fun hno => Or.inl ⟨rfl, Nat.le_refl _, ?_⟩)⟩
  · unfold w_X2_isFull
    rw [h2]
    refine ⟨fun hlt => ⟨fun _ => ⟨1, by omega, ?_⟩, fun q => absurd rfl q⟩, fun hlt => ⟨fun q => absurd q (by decide), fun _ => ⟨by omega, Or.inr (Or.inr ⟨rfl, Nat.le_refl _, ?_⟩)⟩⟩⟩
    · have hn2 : n < 200 := (nI_ltI (b := 200) (by omega) (by omega)).mp hlt
      refine s_makeCall (par := none) R1 hn2 hs (fun p hp => by cases hp) rfl (fun _ _ => rfl) (fun a b hab => rfl) (fun p hp => by cases hp) (Nat.le_refl 1) (fun σ1 RB => ?_)
      obtain ⟨x12, -, -, x15, -⟩ := eBorn_x (μ := sI μ 0 0 0) (n := n) (s := s) (dl := mI σ 0 3 + y2) (par := none)
      refine s_begin RB (by omega) hs x12 (by rw [x15]; decide) (born_ch RB.1 hn2) (fun σ2 R2 => ⟨21 + n, rfl, R2.mo (by omega), by rw [R2.2.1.1, R.2.1.1]; omega, ?_⟩)
      rw [hy]
      unfold w_X3_call
      refine m_isSv1 hs ⟨fun xk σ1 => xk = 0 ∧ σ1 = μ, ?_, fun _ => m_in (fun _ _ => ⟨fun _ => ⟨fun _ => ⟨rfl, rfl⟩, fun q => ?_⟩, fun q => absurd q (by decide)⟩) (fun q => absurd q (fun z => z.elim q1 q2)), fun q => absurd q (by decide)⟩
      · intro xk σ3 ⟨hxk, hσ⟩
        rw [hxk, hσ]
        rintro _ rfl
        rw [nIi]
        refine ⟨fun _ => ?_, fun q => absurd (by decide) q⟩
        rw [show mI (sI μ 0 0 0) 0 1 + y2 = mI σ 0 3 + y2 from by rw [R1.now]]
        refine m_begins (par := none) R1.1 hn2 hs (fun p hp => by cases hp) (fin2 R2 (cz_beg RB.1 (cz_born R1.1 hn2 hs (cz_0 C) (fun p hp => by cases hp)) (by omega) (by rw [x15]; decide)) ?_)
        rw [(R2.2.2.2.2.1 n (by omega)).2.1, R2.1.2.2.1, nI_pred]
      · rw [h13] at q
        have := i_inj (b := 200) (by omega) (by omega) q
        omega
    · have hn2 : n = 200 := by
        have : ¬ n < 200 := fun q => hlt (nI_lt (b := 200) q (by omega))
        omega
      rw [hy]
      unfold w_X3_call
      refine m_isSv1 hs ⟨fun xk σ1 => xk = 3 ∧ σ1 = μ, ?_, fun _ => m_in (fun _ _ => ⟨fun _ => ⟨fun q => absurd (by rw [h13, hn2]; rfl) q, fun _ => ⟨rfl, rfl⟩⟩, fun q => absurd q (by decide)⟩) (fun q => absurd q (fun z => z.elim q1 q2)), fun q => absurd q (by decide)⟩
      intro xk σ1 ⟨hxk, hσ⟩
      rw [hxk, hσ]
      rintro _ rfl
      rw [nIi]
      exact ⟨fun q => absurd q (by decide), fun _ => fin1 R C (by decide)⟩
  · rw [hy]
    unfold w_X3_call
    refine m_isSv1 hs ⟨fun xk σ1 => xk = 2 ∧ σ1 = μ, ?_, fun _ => m_in (fun z1 z2 => absurd q (fun z => z.elim z1 z2)) (fun _ => ⟨fun q => absurd rfl q, fun _ => ⟨rfl, rfl⟩⟩), fun q => absurd q (by decide)⟩
    intro xk σ1 ⟨hxk, hσ⟩
    rw [hxk, hσ]
    rintro _ rfl
    rw [nIi]
    exact ⟨fun q => absurd q (by decide), fun _ => fin1 R C (by decide)⟩
  · unfold w_X3_call
    refine m_isSv0 hno ⟨fun xk σ1 => xk = 1 ∧ σ1 = μ, ?_, fun q => absurd rfl q, fun _ => ⟨rfl, rfl⟩⟩
    intro xk σ1 ⟨hxk, hσ⟩
    rw [hxk, hσ]
    rintro _ rfl
    rw [nIi]
    exact ⟨fun q => absurd q (by decide), fun _ => fin1 R C (by decide)⟩
theorem o_pass : lO_pass rel := by
  rintro σ μ ⟨n, h, R, C⟩ y x0
  have hn := R.n2
  have R1 := R0_mu (v := 0) R (Or.inr ⟨rfl, rfl⟩ : 0 = 25 ∨ 0 = 0 ∧ 0 = 0)
  by_cases hr : y < 1 ∨ 100 < y
  · refine ⟨1, mN σ, by omega, Nat.le_refl _, R.N, ?_⟩
    unfold w_X2_pass
    refine ⟨1, by omega, s_range (Nat.le_refl 1) (fun q1 q2 => absurd hr (fun z => z.elim q1 q2)) (fun _ => ⟨rfl, Nat.le_refl _, ?_⟩)⟩
    unfold w_X3_pass
    refine m_in (fun q1 q2 => absurd hr (fun z => z.elim q1 q2)) (fun _ => ⟨fun xk σ1 => xk = 1 ∧ σ1 = μ, ?_, fun _ => ⟨rfl, rfl⟩, fun q => absurd rfl q⟩)
    intro xk σ1 ⟨hxk, hσ⟩
    rw [hxk, hσ]
    rintro _ rfl
    rw [nIi]
    exact ⟨fun q => absurd q (by decide), fun _ => fin1 R C (by decide)⟩
  · obtain ⟨t, ht, hyt⟩ : ∃ t, t ≤ 100 ∧ y = nI t := nI_of2 (M := 100) (n := 100) rfl (fun q => hr (Or.inl (Int32.lt_trans q (by decide)))) (Int32.not_lt.mp (fun q => hr (Or.inr q)))
    rw [hyt] at hr ⊢
    obtain ⟨nf, hnf, hMf, hCf⟩ := itT_keep t n (sI μ 0 0 0) R1.1 (cz_0 C)
    have hnf2 := hMf.2.2.2.1
    have hN := R.2.1.1
    have hle : ∀ d, d ≤ 100 → ((nI t ≤ nI d) ↔ t ≤ d) := fun d hd => nI_leI (by omega) (by omega)
    refine ⟨1 + (nf - n), 21 + nf, by omega, by omega, by omega, ?_⟩
    unfold w_X2_pass
    refine ⟨1, by omega, s_range (Nat.le_refl 1) (fun _ _ => ⟨fun k x u σ' => ∃ d μ' n' h', x = nI d ∧ d ≤ t ∧ k = t - d ∧ n ≤ n' ∧ u = 1 + (n' - n) ∧ R0 σ' μ' n' h' ∧ CZ 0 n' μ' ∧ itT (t - d) μ' = itT t (sI μ 0 0 0), ?_, t, 0, sI μ 0 0 0, n, h, rfl, by omega, rfl, Nat.le_refl _, by omega, R1, cz_0 C, rfl⟩) (fun q => absurd q hr)⟩
    intro k x u σ' ⟨d, μ', n', h', hx, hd, hk, hnn, hu, R', C', e1⟩
    rw [hx, hk, hu]
    refine ⟨fun hl => ?_, fun hl => ?_⟩
    · have hdt := (hle d (by omega)).mp hl
      rw [show t - d = 0 by omega] at e1
      have e1 : μ' = itT t (sI μ 0 0 0) := e1
      rw [e1] at R' C'
      have hnq : n' = nf := (qN_e R'.1).symm.trans (qN_e hMf)
      rw [hnq] at R' C'
      refine ⟨by rw [R'.2.1.1]; exact Nat.le_refl _, ?_⟩
      unfold w_X3_pass
      refine m_in (fun _ _ => ⟨fun xk σ1 => xk = 0 ∧ σ1 = μ, ?_, fun q => absurd q (by decide), fun _ => ⟨rfl, rfl⟩⟩) (fun q => absurd q hr)
      intro xk σ1 ⟨hxk, hσ⟩
      rw [hxk, hσ]
      rintro _ rfl
      rw [nIi]
      refine ⟨fun _ => m_rootsOver R1.1 ⟨fun k x μ' => ∃ d n', x = nI d ∧ d ≤ t ∧ k = t - d ∧ wM μ' n' ∧ CZ 0 n' μ' ∧ itT (t - d) μ' = itT t (sI μ 0 0 0), ?_, t, 0, n, rfl, by omega, rfl, R1.1, cz_0 C, rfl⟩, fun q => absurd (by decide) q⟩
      intro k x μ2 ⟨d2, n2, hx2, hd2, hk2, hM2, hC2, e2⟩
      rw [hx2, hk2]
      refine ⟨fun hl2 => ?_, fun hl2 => ?_⟩
      · have hdt2 := (hle d2 (by omega)).mp hl2
        rw [show t - d2 = 0 by omega] at e2
        have e2 : μ2 = itT t (sI μ 0 0 0) := e2
        rw [e2]
        refine m_rootsOver hMf (fin2 R' hCf ?_)
        rw [R'.2.1.2.2.2.2.1, R1.2.1.2.2.2.2.1]
      · have hdt2 : d2 < t := Nat.not_le.mp (fun q => hl2 ((hle d2 (by omega)).mpr q))
        obtain ⟨n3, h3, -, h5, h6⟩ := tick_keep hM2 hC2
        rw [show t - d2 = (t - (d2 + 1)) + 1 by omega] at e2
        have e2 : itT (t - (d2 + 1)) (eTick μ2) = itT t (sI μ 0 0 0) := e2
        exact m_ticks hM2 ⟨t - (d2 + 1), by omega, d2 + 1, n3, nI_1 d2, by omega, rfl, h5, h6, e2⟩
    · have hdt : d < t := Nat.not_le.mp (fun q => hl ((hle d (by omega)).mpr q))
      rintro _ rfl
      obtain ⟨n3, h3, h4, h5, h6⟩ := tick_keep R'.1 C'
      rw [show t - d = (t - (d + 1)) + 1 by omega] at e1
      have e1 : itT (t - (d + 1)) (eTick μ') = itT t (sI μ 0 0 0) := e1
      obtain ⟨n4, h7, h8, h9⟩ := itT_keep (t - (d + 1)) n3 (eTick μ') h5 h6
      have hnq : n4 = nf := by
        rw [e1] at h8
        exact (qN_e h8).symm.trans (qN_e hMf)
      refine s_tick R' (by rw [h4]; omega) (fun σ2 h2 R2 => ?_)
      rw [h4] at R2 ⊢
      exact ⟨t - (d + 1), by omega, d + 1, eTick μ', n3, h2, nI_1 d, by omega, rfl, by omega, by omega, R2, h6, e1⟩
