theorem cz_0 {μ : mS} {n : Nat} (C : wCl μ n) : CZ 0 n (sI μ 0 0 0) := by
  refine ⟨fun c p hc hp hpar hov => ?_, nIi⟩
  rw [oI (by omega)] at hpar hov ⊢
  exact C c p hc hp hpar hov
theorem fin2 {σ μ : mS} {n h : Nat} {r r2 : Int32} (R : R0 σ μ n h) (C : CZ 0 n μ) (hv : r = r2) : mI μ 0 0 = 0 ∧ ((0 : Int32) = 0 → r.toInt64 = r2.toInt64) ∧ rel σ μ := ⟨C.2, fun _ => by rw [hv], n, h, R, C.1⟩
theorem o_setWork : lO_setWork rel := by
  rintro σ μ ⟨n, h, R, C⟩ y y2 y3 x0
  refine ⟨3, mN σ, by omega, Nat.le_refl _, R.N, ?_⟩
  have bad : ∀ s, s < 6 → y = nI s → (y2 < 1 ∨ 20 < y2) ∨ (y3 < 0 ∨ 20 < y3) → lQ_setWork rel (mN σ) μ y y2 y3 2 x0 σ := fun s hs hy hbad => by
    refine ⟨Nat.le_refl _, ?_⟩
    rw [hy]
    unfold w_X3_setWork
    refine m_isSv1 hs ⟨fun xk σ1 => xk = 2 ∧ σ1 = μ, ?_, fun _ => ?_, fun q => absurd q (by decide)⟩
    · intro xk σ1 ⟨hxk, hσ⟩
      rw [hxk, hσ]
      rintro _ rfl
      rw [nIi]
      exact ⟨fun q => absurd q (by decide), fun _ => fin1 R C (by decide)⟩
    · refine m_in (fun a1 a2 => ⟨fun σ1 => σ1 = μ, fun σ1 hσ => ⟨rfl, hσ⟩, fun _ => rfl, fun _ => m_in (fun b1 b2 => ?_) (fun _ => ⟨fun _ => rfl, fun q => absurd rfl q⟩)⟩) (fun _ => ⟨fun σ1 => σ1 = μ, fun σ1 hσ => ⟨rfl, hσ⟩, fun _ => rfl, fun q => absurd rfl q⟩)
      rcases hbad with (q | q) | (q | q)
      · exact absurd q a1
      · exact absurd q a2
      · exact absurd q b1
      · exact absurd q b2
  unfold w_X2_setWork
  refine ⟨1, by omega, s_serviceAt R (Nat.le_refl 1) (fun s hs hy => ⟨1, by omega, s_range (Nat.le_refl 1) (fun a1 a2 => ⟨1, by omega, s_range (Nat.le_refl 1) (fun b1 b2 => ⟨3 + 3 * s, rfl, kS hs, ?_⟩) (fun q => Or.inr ⟨rfl, bad s hs hy (Or.inr q)⟩)⟩) (fun q => Or.inr ⟨rfl, bad s hs hy (Or.inl q)⟩)⟩) (fun hno => Or.inl ⟨rfl, Nat.le_refl _, ?_⟩)⟩
  · rintro _ rfl _ rfl _ rfl
    refine ⟨Nat.le_refl _, ?_⟩
    rw [hy]
    obtain ⟨v1, v2, v3, v4, v5, v6, v7, v8, v9, v10, v11, v12, v13⟩ := R.2.2.1 s hs
    have R1 := R0_mu (v := 0) R (Or.inr ⟨rfl, rfl⟩ : 0 = 25 ∨ 0 = 0 ∧ 0 = 0)
    unfold w_X3_setWork
    refine m_isSv1 hs ⟨fun xk σ1 => xk = 0 ∧ σ1 = μ, ?_, fun _ => m_in (fun _ _ => ⟨fun σ1 => False, fun σ1 hσ => hσ.elim, fun q => absurd q (by decide), fun _ => m_in (fun _ _ => ⟨fun q => absurd q (by decide), fun _ => ⟨rfl, rfl⟩⟩) (fun q => absurd q (fun z => z.elim b1 b2))⟩) (fun q => absurd q (fun z => z.elim a1 a2)), fun q => absurd q (by decide)⟩
    intro xk σ1 ⟨hxk, hσ⟩
    rw [hxk, hσ]
    rintro _ rfl
    rw [nIi]
    refine ⟨fun _ => ⟨s, rfl, hs, s, rfl, hs, ?_⟩, fun q => absurd (by decide) q⟩
    rintro _ rfl
    refine ⟨s, rfl, hs, ?_⟩
    rintro _ rfl
    refine ⟨s, rfl, hs, ?_⟩
    rintro _ rfl
    refine fin2 (n := n) (h := h) (R0_sv R1 hs rfl (fun _ _ => rfl) (fun a b ha => by rw [oI (by omega), oI (by omega), oI (by omega)]) (wM_ir (wM_ir (wM_ir R1.1 (by unfold irr; omega)) (by unfold irr; omega)) (by unfold irr; omega)) (fun a b ha => by rw [oI (by omega), oI (by omega), oI (by omega)]) (by simp (disch := omega) only [oI]) (by simp (disch := omega) only [oI]) ?_) ?_ ?_
    · simp (disch := omega) only [oI, nIi]
      exact ⟨trivial, trivial, trivial, v6, v7, v8, v9, v10, v11⟩
    · exact cz_c (cz_0 C) (fun d _ => by rw [oI (by omega), oI (by omega), oI (by omega)]) (fun d _ => by rw [oI (by omega), oI (by omega), oI (by omega)]) (by rw [oI (by omega), oI (by omega), oI (by omega)])
    · rw [oI (by omega)]; exact v3
  · unfold w_X3_setWork
    refine m_isSv0 hno ⟨fun xk σ1 => xk = 1 ∧ σ1 = μ, ?_, fun q => absurd rfl q, fun _ => ⟨rfl, rfl⟩⟩
    intro xk σ1 ⟨hxk, hσ⟩
    rw [hxk, hσ]
    rintro _ rfl
    rw [nIi]
    exact ⟨fun q => absurd q (by decide), fun _ => fin1 R C (by decide)⟩
theorem o_setRoom : lO_setRoom rel := by
  rintro σ μ ⟨n, h, R, C⟩ y y2 y3 y4 x0
  refine ⟨4, mN σ, by omega, Nat.le_refl _, R.N, ?_⟩
  have bad : ∀ s, s < 6 → y = nI s → (y2 < 1 ∨ 5 < y2) ∨ (y3 < 0 ∨ 8 < y3) ∨ (y4 < 0 ∨ 50 < y4) → lQ_setRoom rel (mN σ) μ y y2 y3 y4 2 x0 σ := fun s hs hy hbad => by
    refine ⟨Nat.le_refl _, ?_⟩
    rw [hy]
    have fin : ∀ σ1 : mS, σ1 = μ → w_X3_isService (nI s) σ1 (fun x9 σ6 => (∃ J59 : Int32 → mS → Prop, (∀ (xk0_59 : Int32) (σ_59 : mS), J59 xk0_59 σ_59 → (∀ σ11, σ11 = sI σ_59 0 0 xk0_59 → (((mI σ11 0 0) ≤ 0 → (∃ j13, nI s = nI j13 ∧ (j13 < 6 ∧ (∃ j16, nI s = nI j16 ∧ (j16 < 6 ∧ (∀ σ19, σ19 = sI σ11 6 j16 y2 → (∃ j20, nI s = nI j20 ∧ (j20 < 6 ∧ (∀ σ23, σ23 = sI σ19 7 j20 y3 → (∃ j24, nI s = nI j24 ∧ (j24 < 6 ∧ (∀ σ27, σ27 = sI σ23 8 j24 y4 → (mI σ27 0 0 = 2 ∧ ((2 : Int32) = 0 → x0 = (mI σ11 6 j13).toInt64) ∧ rel σ σ27))))))))))))) ∧ (¬ (mI σ11 0 0) ≤ 0 → (mI σ11 0 0 = 2 ∧ ((2 : Int32) = 0 → x0 = (0 : Int32).toInt64) ∧ rel σ σ11))))) ∧ ((¬ x9 = 0 → (((0 : Int32) = 0 → (J59 (2 : Int32) σ6)) ∧ (¬ (0 : Int32) = 0 → (J59 (0 : Int32) σ6)))) ∧ (x9 = 0 → (J59 (1 : Int32) σ6))))) := fun σ1 hσ1 => by
      refine m_isSv1 hs ⟨fun xk σ1 => xk = 2 ∧ σ1 = μ, ?_, fun _ => ⟨fun _ => ⟨rfl, hσ1⟩, fun q => absurd rfl q⟩, fun q => absurd q (by decide)⟩
      intro xk σ1 ⟨hxk, hσ⟩
      rw [hxk, hσ]
      rintro _ rfl
      rw [nIi]
      exact ⟨fun q => absurd q (by decide), fun _ => fin1 R C (by decide)⟩
    unfold w_X3_setRoom
    refine m_in (fun a1 a2 => ⟨fun xk σ1 => xk = 0 ∧ σ1 = μ, ?_, fun σ1 => σ1 = μ, fun σ1 hσ => ⟨rfl, hσ⟩, fun _ => rfl, fun _ => m_in (fun b1 b2 => ⟨fun _ => rfl, fun _ => m_in (fun c1 c2 => ?_) (fun _ => ⟨fun _ => rfl, fun q => absurd rfl q⟩)⟩) (fun _ => ⟨fun _ => rfl, fun q => absurd rfl q⟩)⟩) (fun _ => ⟨fun xk σ1 => xk = 0 ∧ σ1 = μ, ?_, fun σ1 => σ1 = μ, fun σ1 hσ => ⟨rfl, hσ⟩, fun _ => rfl, fun q => absurd rfl q⟩)
    · intro xk σ1 ⟨hxk, hσ⟩
      rw [hxk]
      exact fin σ1 hσ
    · rcases hbad with (q | q) | (q | q) | (q | q)
      · exact absurd q a1
      · exact absurd q a2
      · exact absurd q b1
      · exact absurd q b2
      · exact absurd q c1
      · exact absurd q c2
    · intro xk σ1 ⟨hxk, hσ⟩
      rw [hxk]
      exact fin σ1 hσ
  unfold w_X2_setRoom
  refine ⟨1, by omega, s_serviceAt R (Nat.le_refl 1) (fun s hs hy => ⟨1, by omega, s_range (Nat.le_refl 1) (fun a1 a2 => ⟨1, by omega, s_range (Nat.le_refl 1) (fun b1 b2 => ⟨1, by omega, s_range (Nat.le_refl 1) (fun c1 c2 => ⟨3 + 3 * s, rfl, kS hs, ?_⟩) (fun q => Or.inr ⟨rfl, bad s hs hy (Or.inr (Or.inr q))⟩)⟩) (fun q => Or.inr ⟨rfl, bad s hs hy (Or.inr (Or.inl q))⟩)⟩) (fun q => Or.inr ⟨rfl, bad s hs hy (Or.inl q)⟩)⟩) (fun hno => Or.inl ⟨rfl, Nat.le_refl _, ?_⟩)⟩
  · rintro _ rfl _ rfl _ rfl
    refine ⟨Nat.le_refl _, ?_⟩
    rw [hy]
    obtain ⟨v1, v2, v3, v4, v5, v6, v7, v8, v9, v10, v11, v12, v13⟩ := R.2.2.1 s hs
    have R1 := R0_mu (v := 0) R (Or.inr ⟨rfl, rfl⟩ : 0 = 25 ∨ 0 = 0 ∧ 0 = 0)
    unfold w_X3_setRoom
    refine m_in (fun _ _ => ⟨fun xk σ1 => xk = 1 ∧ σ1 = μ, ?_, fun σ1 => False, fun σ1 hσ => hσ.elim, fun q => absurd q (by decide), fun _ => m_in (fun _ _ => ⟨fun q => absurd q (by decide), fun _ => m_in (fun _ _ => ⟨fun q => absurd q (by decide), fun _ => ⟨rfl, rfl⟩⟩) (fun q => absurd q (fun z => z.elim c1 c2))⟩) (fun q => absurd q (fun z => z.elim b1 b2))⟩) (fun q => absurd q (fun z => z.elim a1 a2))
    intro xk σ1 ⟨hxk, hσ⟩
    rw [hxk, hσ]
    refine m_isSv1 hs ⟨fun xk σ1 => xk = 0 ∧ σ1 = μ, ?_, fun _ => ⟨fun q => absurd q (by decide), fun _ => ⟨rfl, rfl⟩⟩, fun q => absurd q (by decide)⟩
    intro xk σ1 ⟨hxk, hσ⟩
    rw [hxk, hσ]
    rintro _ rfl
    rw [nIi]
    refine ⟨fun _ => ⟨s, rfl, hs, s, rfl, hs, ?_⟩, fun q => absurd (by decide) q⟩
    rintro _ rfl
    refine ⟨s, rfl, hs, ?_⟩
    rintro _ rfl
    refine ⟨s, rfl, hs, ?_⟩
    rintro _ rfl
    refine fin2 (n := n) (h := h) (R0_sv R1 hs rfl (fun _ _ => rfl) (fun a b ha => by rw [oI (by omega), oI (by omega), oI (by omega)]) (wM_ir (wM_ir (wM_ir R1.1 (by unfold irr; omega)) (by unfold irr; omega)) (by unfold irr; omega)) (fun a b ha => by rw [oI (by omega), oI (by omega), oI (by omega)]) (by simp (disch := omega) only [oI]) (by simp (disch := omega) only [oI]) ?_) ?_ ?_
    · simp (disch := omega) only [oI, nIi]
      exact ⟨v3, v4, v5, trivial, trivial, trivial, v9, v10, v11⟩
    · exact cz_c (cz_0 C) (fun d _ => by rw [oI (by omega), oI (by omega), oI (by omega)]) (fun d _ => by rw [oI (by omega), oI (by omega), oI (by omega)]) (by rw [oI (by omega), oI (by omega), oI (by omega)])
    · rw [oI (by omega)]; exact v6
  · unfold w_X3_setRoom
    have fin : ∀ xk (σ1 : mS), σ1 = μ → w_X3_isService y σ1 (fun x9 σ6 => (∃ J59 : Int32 → mS → Prop, (∀ (xk0_59 : Int32) (σ_59 : mS), J59 xk0_59 σ_59 → (∀ σ11, σ11 = sI σ_59 0 0 xk0_59 → (((mI σ11 0 0) ≤ 0 → (∃ j13, y = nI j13 ∧ (j13 < 6 ∧ (∃ j16, y = nI j16 ∧ (j16 < 6 ∧ (∀ σ19, σ19 = sI σ11 6 j16 y2 → (∃ j20, y = nI j20 ∧ (j20 < 6 ∧ (∀ σ23, σ23 = sI σ19 7 j20 y3 → (∃ j24, y = nI j24 ∧ (j24 < 6 ∧ (∀ σ27, σ27 = sI σ23 8 j24 y4 → (mI σ27 0 0 = 1 ∧ ((1 : Int32) = 0 → x0 = (mI σ11 6 j13).toInt64) ∧ rel σ σ27))))))))))))) ∧ (¬ (mI σ11 0 0) ≤ 0 → (mI σ11 0 0 = 1 ∧ ((1 : Int32) = 0 → x0 = (0 : Int32).toInt64) ∧ rel σ σ11))))) ∧ ((¬ x9 = 0 → ((xk = (0 : Int32) → (J59 (2 : Int32) σ6)) ∧ (¬ xk = (0 : Int32) → (J59 (0 : Int32) σ6)))) ∧ (x9 = 0 → (J59 (1 : Int32) σ6))))) := fun xk σ1 hσ1 => by
      rw [hσ1]
      refine m_isSv0 hno ⟨fun xk σ1 => xk = 1 ∧ σ1 = μ, ?_, fun q => absurd rfl q, fun _ => ⟨rfl, rfl⟩⟩
      intro xk σ1 ⟨hxk, hσ⟩
      rw [hxk, hσ]
      rintro _ rfl
      rw [nIi]
      exact ⟨fun q => absurd q (by decide), fun _ => fin1 R C (by decide)⟩
    refine m_in (fun a1 a2 => ⟨fun xk σ1 => σ1 = μ, fun xk σ1 hσ => fin xk σ1 hσ, fun σ1 => σ1 = μ, fun σ1 hσ => hσ, fun _ => rfl, fun _ => m_in (fun b1 b2 => ⟨fun _ => rfl, fun _ => m_in (fun c1 c2 => ⟨fun _ => rfl, fun _ => rfl⟩) (fun _ => ⟨fun _ => rfl, fun _ => rfl⟩)⟩) (fun _ => ⟨fun _ => rfl, fun q => absurd rfl q⟩)⟩) (fun _ => ⟨fun xk σ1 => σ1 = μ, fun xk σ1 hσ => fin xk σ1 hσ, fun σ1 => σ1 = μ, fun σ1 hσ => hσ, fun _ => rfl, fun q => absurd rfl q⟩)
