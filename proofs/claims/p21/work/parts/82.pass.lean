theorem R0_tick {σ μ : mS} {n h : Nat} (R : R0 σ μ n h) : R0 (sI σ 0 3 (mI σ 0 3 + 1)) (eT0 μ) n h := by
  have hT := R.now
  obtain ⟨hM, ⟨g1, g2, g3, g4, g5, g6⟩, hV, hK, hC, hO, hA, hL⟩ := R
  unfold eT0
  have f1 : ∀ s k, fK (sI μ 0 1 (mI μ 0 1 + 1)) s k = fK μ s k := fun s k => fK_c (fun b => by rw [oI (by omega)]) (fun b => by rw [oI (by omega)])
  have f2 : ∀ q, fO (sI μ 0 1 (mI μ 0 1 + 1)) q = fO μ q := fun q => fO_c (fun b => by rw [oI (by omega)]) (fun b => by rw [oI (by omega)])
  have f3 : fR (sI μ 0 1 (mI μ 0 1 + 1)) = fR μ := fR_c (fun b => by rw [oI (by omega)]) (fun b => by rw [oI (by omega)])
  have f4 : ∀ q, fT (sI μ 0 1 (mI μ 0 1 + 1)) q = fT μ q := fun q => fT_c (fun b => by rw [oI (by omega)]) (fun b => by rw [oI (by omega)]) (by rw [oI (by omega)])
  refine ⟨wM_ir hM (by unfold irr; omega), ⟨g1, g2, by rw [oI (by omega)]; exact g3, by rw [nIi, nIi, hT], by rw [f3, oI (by omega)]; exact g5, g6⟩, fun s hs => ?_, fun s hs k hk => by rw [f1, oI (by omega)]; exact hK s hs k hk, fun c hc => ?_, fun q hq => ?_, fun q hq => ?_, ?_⟩
  · have := hV s hs
    unfold rV at this ⊢
    simp (disch := omega) only [oI, mR_sI]; exact this
  · have := hC c hc
    unfold rC at this ⊢
    simp (disch := omega) only [oI, mR_sI]; exact this
  · have := hO q hq
    unfold rO at this ⊢
    rw [f2]
    simp (disch := omega) only [oI]; exact this
  · have := hA q hq
    unfold rA at this ⊢
    rw [f4]
    simp (disch := omega) only [oI, mR_sI, qTry] at this ⊢; exact this
  · unfold rL at hL ⊢
    simp (disch := omega) only [oI, mR_sI]; exact hL
theorem s_tick {σ μ : mS} {n h : Nat} {b u : Nat} {Q : Nat → mS → Prop} (R : R0 σ μ n h) (hb : u + (qN (eMks (eT4 μ)) - n) ≤ b) (hQ : ∀ σ' h', R0 σ' (eTick μ) (qN (eMks (eT4 μ))) h' → Q (qN (eMks (eT4 μ)) - n) σ') :
    w_X2_cutOffHead (sI σ 0 3 (mI σ 0 3 + 1)) (fun σ10 => w_X2_endLate σ10 (fun σ13 => w_X2_endWork σ13 (fun σ16 => w_X2_judgeAsking σ16 (fun σ19 => (∃ k22, u + k22 ≤ b ∧ w_X2_makeTries σ19 k22 (fun σ23 => w_X2_startQueued σ23 (fun σ26 => Q k22 σ26))))))) := by
  have hqn := qN_e R.1
  unfold eTick eT4 at hQ
  unfold eT4 at hb
  rw [hqn] at hb hQ
  refine s_cut (R0_tick R) (fun σ1 h1 R1 => s_endLate R1 (fun σ2 R2 => s_endWork R2 (fun σ3 R3 => s_judgeAsking R3 (fun σ4 R4 => ⟨_, hb, s_makeTries R4 (by omega) (fun σ5 R5 => s_startQueued R5 (fun σ6 R6 => hQ σ6 h1 R6))⟩))))
