theorem eStep_2 {μ : mS} {c d : Nat} (h : mI (eStep μ c) 15 d = 2) : mI μ 15 d = 2 := by
  unfold eStep at h
  split at h
  · unfold eEnd at h
    by_cases hd : d = c
    · subst hd; rw [oI (by omega), nIi] at h; exact absurd h (by decide)
    · rw [oI (by omega), oI (by omega)] at h; exact h
  · exact h
theorem eLoop_2 {d : Nat} : ∀ (k c : Nat) (μ : mS), mI (eLoop k c μ) 15 d = 2 → mI μ 15 d = 2 := by
  intro k
  induction k with
  | zero => intro c μ h; exact h
  | succ k ih => intro c μ h; exact eStep_2 (ih (c + 1) _ h)
theorem eFin_2 {μ : mS} {c w d : Nat} (hw3 : 3 ≤ w) (hw : w < 8) (h : mI (eFin μ c w) 15 d = 2) : mI μ 15 d = 2 := by
  have h1 := eLoop_2 _ _ _ h
  by_cases hd : d = c
  · subst hd; rw [eC_15] at h1; have := i_inj (b := 2) (by omega) (by omega) h1; omega
  · rw [eC_o (by omega) (by omega) (by omega)] at h1; exact h1
theorem eFin_25 {μ : mS} {c w a b : Nat} (h : a = 24 ∨ a = 25) : mI (eFin μ c w) a b = mI μ a b := eFin_o (by omega) (by omega) (by omega) (by omega)
theorem eBeg_25 {μ : mS} {n c s a b : Nat} (h : a = 24 ∨ a = 25) : mI (eBeg μ n c s) a b = mI μ a b := by
  unfold eBeg
  split
  · exact eFin_25 h
  · split
    · exact eFin_25 h
    · split
      · unfold eWrk; rw [oI (by omega), oI (by omega)]
      · split
        · unfold eQue; rw [oI (by omega)]
        · exact eFin_25 h
theorem eBeg_2 {μ : mS} {n c s d : Nat} (h : mI (eBeg μ n c s) 15 d = 2) : d ≠ c ∧ mI μ 15 d = 2 := by
  have key : ∀ w, 3 ≤ w → w < 8 → mI (eFin μ c w) 15 d = 2 → d ≠ c ∧ mI μ 15 d = 2 := fun w h3 h8 h => ⟨fun q => by
    subst q; rw [eFin_self] at h; have := i_inj (b := 2) (by omega) (by omega) h; omega, eFin_2 h3 h8 h⟩
  unfold eBeg at h
  split at h
  · exact key 4 (by omega) (by omega) h
  · split at h
    · exact key 6 (by omega) (by omega) h
    · split at h
      · unfold eWrk at h
        by_cases hd : d = c
        · subst hd; rw [oI (by omega), nIi] at h; exact absurd h (by decide)
        · rw [oI (by omega), oI (by omega)] at h; exact ⟨hd, h⟩
      · split at h
        · unfold eQue at h
          by_cases hd : d = c
          · subst hd; rw [nIi] at h; exact absurd h (by decide)
          · rw [oI (by omega)] at h; exact ⟨hd, h⟩
        · exact key 6 (by omega) (by omega) h
def eMk1 (μ : mS) (c : Nat) : mS := if qN μ = 200 then eFin μ c 4 else eBeg (eBorn μ (qN μ) (qA μ c) (mI μ 13 c - 1) (some c)) (qN μ + 1) (qN μ) (qA μ c)
def eMkC (μ : mS) (c : Nat) : mS := if mI μ 24 c ≠ 0 ∧ mI μ 15 c = 2 then eMk1 (sI μ 24 c 0) c else μ
def eSn (μ : mS) (c : Nat) : mS := sI μ 25 c (if mI μ 15 c = 2 ∧ mI μ 24 c ≠ 0 then 1 else 0)
def eMks (μ : mS) : mS := upL eMkC (qN μ) 0 (upL eSn (qN μ) 0 μ)
theorem wM_mk1 {μ : mS} {n c : Nat} (h : wM μ n) (hc : c < n) (hst : mI μ 15 c = 2) : wM (eMk1 μ c) (if n = 200 then n else n + 1) := by
  have hn := h.2.2.2.1
  unfold eMk1
  rw [qN_e h]
  split
  · exact wM_fin (w := 4) h hc (by omega) (by omega)
  · obtain ⟨k, r, hk, hr, h22, h20, hqa⟩ := wM_asked h hc hst
    rw [hqa]
    have hb := wM_born (dl := mI μ 13 c - 1) (par := some c) h (by omega) hr (fun p hp => by cases hp; exact ⟨hc, hst⟩)
    exact wM_beg hb (by omega) (by rw [eBorn_x.2.2.2.1]; decide) (born_ch hb (by omega))
theorem mk1_2 {μ : mS} {n c d : Nat} (h : wM μ n) (hd : mI (eMk1 μ c) 15 d = 2) : (n < 200 → d ≠ n) ∧ mI μ 15 d = 2 := by
  have hn := h.2.2.2.1
  unfold eMk1 at hd
  rw [qN_e h] at hd
  split at hd
  · exact ⟨fun q => by omega, eFin_2 (by omega) (by omega) hd⟩
  · have h1 := eBeg_2 hd
    refine ⟨fun _ => h1.1, ?_⟩
    have := h1.2
    rw [eBorn_o (by omega) (by omega)] at this
    exact this
theorem mk1_o {μ : mS} {n c a b : Nat} (h : wM μ n) (ha : a = 24 ∨ a = 25) (hb : b ≠ n) : mI (eMk1 μ c) a b = mI μ a b := by
  unfold eMk1
  rw [qN_e h]
  split
  · exact eFin_25 ha
  · rw [eBeg_25 ha, eBorn_o (by omega) (by omega)]
theorem wM_24 {μ : mS} {n c : Nat} {v : Int32} (h : wM μ n) : wM (sI μ 24 c v) n := wM_ir h (by unfold irr; omega)
theorem wM_mkC {μ : mS} {n c : Nat} (h : wM μ n) (hc : c < n) : ∃ n', n ≤ n' ∧ wM (eMkC μ c) n' := by
  unfold eMkC
  split
  · next q =>
    refine ⟨_, ?_, wM_mk1 (wM_24 h) hc (by rw [oI (by omega)]; exact q.2)⟩
    split <;> omega
  · exact ⟨n, Nat.le_refl _, h⟩
theorem mks_mono : ∀ (k c n : Nat) (μ : mS), wM μ n → c + k ≤ n → ∃ n', n ≤ n' ∧ wM (upL eMkC k c μ) n' := by
  intro k
  induction k with
  | zero => intro c n μ h _; exact ⟨n, Nat.le_refl _, h⟩
  | succ k ih =>
    intro c n μ h hk
    obtain ⟨n1, h1, h2⟩ := wM_mkC h (c := c) (by omega)
    obtain ⟨n2, h3, h4⟩ := ih (c + 1) n1 _ h2 (by omega)
    exact ⟨n2, by omega, h4⟩
theorem sn_o {a b : Nat} (h : a ≠ 25) : ∀ (k c : Nat) (μ : mS), mI (upL eSn k c μ) a b = mI μ a b := by
  intro k
  induction k with
  | zero => intro c μ; rfl
  | succ k ih => intro c μ; exact (ih (c + 1) (eSn μ c)).trans (by unfold eSn; rw [oI (by omega)])
theorem sn_25 {b : Nat} : ∀ (k c : Nat) (μ : mS), (b < c → mI (upL eSn k c μ) 25 b = mI μ 25 b) ∧ (c ≤ b → b < c + k → mI (upL eSn k c μ) 25 b = if mI μ 15 b = 2 ∧ mI μ 24 b ≠ 0 then 1 else 0) := by
  intro k
  induction k with
  | zero => intro c μ; exact ⟨fun _ => rfl, fun h1 h2 => by omega⟩
  | succ k ih =>
    intro c μ
    obtain ⟨i1, i2⟩ := ih (c + 1) (eSn μ c)
    refine ⟨fun h => (i1 (by omega)).trans (by unfold eSn; rw [oI (by omega)]), fun h1 h2 => ?_⟩
    by_cases hbc : b = c
    · subst hbc
      refine (i1 (by omega)).trans ?_
      unfold eSn; rw [nIi]
    · refine (i2 (by omega) (by omega)).trans ?_
      unfold eSn; rw [oI (by omega), oI (by omega)]
theorem wM_sn {μ : mS} {n : Nat} : ∀ (k c : Nat) (μ : mS), wM μ n → wM (upL eSn k c μ) n := by
  intro k
  induction k with
  | zero => intro c μ h; exact h
  | succ k ih => intro c μ h; exact ih (c + 1) _ (wM_ir h (by unfold irr; omega))
theorem wM_mks {μ : mS} {n : Nat} (h : wM μ n) : ∃ n', n ≤ n' ∧ wM (eMks μ) n' := by
  unfold eMks
  rw [qN_e h]
  exact mks_mono n 0 n _ (wM_sn (μ := μ) _ _ _ h) (by omega)
/-- the relation does not speak of the reference's snapshot, nor of what it has thrown -/
theorem R0_mu {σ μ : mS} {n h a b : Nat} {v : Int32} (R : R0 σ μ n h) (ha : a = 25 ∨ a = 0 ∧ b = 0) : R0 σ (sI μ a b v) n h := by
  obtain ⟨hM, ⟨g1, g2, g3, g4, g5, g6⟩, hV, hK, hC, hO, hA, hL⟩ := R
  have f1 : ∀ s k, fK (sI μ a b v) s k = fK μ s k := fun s k => fK_c (fun b => by rw [oI (by omega)]) (fun b => by rw [oI (by omega)])
  have f2 : ∀ q, fO (sI μ a b v) q = fO μ q := fun q => fO_c (fun b => by rw [oI (by omega)]) (fun b => by rw [oI (by omega)])
  have f3 : fR (sI μ a b v) = fR μ := fR_c (fun b => by rw [oI (by omega)]) (fun b => by rw [oI (by omega)])
  have f4 : ∀ q, fT (sI μ a b v) q = fT μ q := fun q => fT_c (fun b => by rw [oI (by omega)]) (fun b => by rw [oI (by omega)]) (by rw [oI (by omega)])
  refine ⟨wM_ir hM (by unfold irr; omega), ⟨g1, g2, g3, by rw [oI (by omega)]; exact g4, by rw [f3]; exact g5, g6⟩, fun s hs => ?_, fun s hs k hk => by rw [f1]; exact hK s hs k hk, fun c hc => ?_, fun q hq => ?_, fun q hq => ?_, ?_⟩
  · have := hV s hs
    unfold rV at this ⊢
    simp (disch := omega) only [oI]; exact this
  · have := hC c hc
    unfold rC at this ⊢
    simp (disch := omega) only [oI]; exact this
  · have := hO q hq
    unfold rO at this ⊢
    rw [f2]
    simp (disch := omega) only [oI]; exact this
  · have := hA q hq
    unfold rA at this ⊢
    rw [f4]
    simp (disch := omega) only [oI, qTry] at this ⊢; exact this
  · unfold rL at hL ⊢
    simp (disch := omega) only [oI]; exact hL
theorem R0_sn {σ : mS} {n h : Nat} : ∀ (k c : Nat) (μ : mS), R0 σ μ n h → R0 σ (upL eSn k c μ) n h := by
  intro k
  induction k with
  | zero => intro c μ h; exact h
  | succ k ih => intro c μ h; exact ih (c + 1) _ (R0_mu h (Or.inl rfl))
theorem s_makeTry {σ μ : mS} {n h d b : Nat} {Q : mS → Prop} (R : R0 σ μ n h) (hd : d < n) (hst : mI μ 15 d = 2) (hb : n < 200 → 1 ≤ b) (hQ : ∀ σ', R0 σ' (eMk1 (sI μ 24 d 0) d) (if n = 200 then n else n + 1) h → Q σ') : w_X2_makeTry (some (21 + d)) (mR σ (21 + d) 11) σ b Q := by
  have hn := R.n2
  have hst1 : mI (sI μ 24 d 0) 15 d = 2 := by rw [oI (by omega)]; exact hst
  have A := R.2.2.2.2.2.2.1 d hd hst
  have R1 : R0 (sI σ (21 + d) 12 0) (sI μ 24 d 0) n h := by
    refine R0_cl (w := 2) R hd (by omega) hst rfl (fun _ _ _ => rfl) (fun i k j hj => R.2.1.2.1 i k j hj) (fun a b hab => oI (by omega)) (wM_24 R.1) (fun a b q1 q2 => oI (by omega)) (fun _ _ => ?_)
    obtain ⟨a1, a2, a3, a4, a5, a6, a7, a8⟩ := A
    have f4 : fT (sI μ 24 d 0) d = fT μ d := fT_c (fun b => oI (by omega)) (fun b => oI (by omega)) (oI (by omega))
    rw [f4]
    simp (disch := omega) only [oI, nIi, qTry, mR_sI] at a5 a8 ⊢
    exact ⟨a1, a2, a3, trivial, a5, a6, a7, a8⟩
  obtain ⟨k, r, hk, hr, h22, h20, hqa⟩ := wM_asked R1.1 hd hst1
  have h11 : mR σ (21 + d) 11 = some (3 + 3 * r) := (R1.2.2.2.2.2.2.1 d hd hst1).2.2.1 k r hk hr h22 h20
  have hqn := qN_e R1.1
  have h2 : mI (sI σ (21 + d) 12 0) 0 2 = nI n := R1.2.1.2.2.1
  have h3 : mI (sI σ (21 + d) 12 0) (21 + d) 3 = mI (sI μ 24 d 0) 13 d := (R1.2.2.2.2.1 d hd).2.2.2.2.2.1
  rw [h11]
  unfold eMk1 at hQ
  rw [hqn, hqa] at hQ
  unfold w_X2_makeTry
  refine ⟨21 + d, rfl, R.mo hd, ?_⟩
  rintro _ rfl
  unfold w_X2_isFull
  rw [h2]
  refine ⟨fun hlt => ⟨fun _ => ⟨R1.mo hd, ?_⟩, fun q => absurd rfl q⟩, fun hlt => ⟨fun q => absurd q (by decide), fun _ => ?_⟩⟩
  · have hn2 : n < 200 := (nI_ltI (b := 200) (by omega) (by omega)).mp hlt
    rw [if_neg (by omega), if_neg (by omega)] at hQ
    unfold w_X0_noteTry
    refine ⟨R1.mo hd, ?_⟩
    rintro _ rfl _ rfl _ rfl
    refine ⟨R1.mo hd, 1, by have := hb hn2; omega, ?_⟩
    rw [show mI (sI (sI (sI (sI σ (21 + d) 12 0) (21 + d) 14 (mI (sI σ (21 + d) 12 0) (21 + d) 14 + 1)) (21 + d) 15 (mI (sI (sI σ (21 + d) 12 0) (21 + d) 14 (mI (sI σ (21 + d) 12 0) (21 + d) 14 + 1)) (21 + d) 15 + 1)) (21 + d) 17 (mI (sI σ (21 + d) 12 0) 0 3)) (21 + d) 3 = mI (sI μ 24 d 0) 13 d from by rw [oI (by omega), oI (by omega), oI (by omega)]; exact h3]
    refine s_makeCall (par := some d) R1 hn2 hr (fun p hp => by cases hp; exact ⟨hd, hst1⟩) rfl (fun _ _ => rfl) (fun a b hab => ?_) (fun p hp => ?_) (Nat.le_refl 1) (fun σ1 RB => ?_)
    · have hne : ¬ (a = 21 + d ∧ (b = 14 ∨ b = 15 ∨ b = 17)) := fun q => hab ⟨by rw [q.1]; congr 1; omega, by omega, q.2⟩
      rw [oI (by omega), oI (by omega), oI (by omega)]
    · cases hp
      refine ⟨?_, ?_, ?_⟩
      · rw [oI (by omega), oI (by omega), nIi]
      · rw [oI (by omega), nIi, oI (by omega)]
      · rw [nIi]; exact R1.now
    · obtain ⟨x12, -, -, x15, -⟩ := eBorn_x (μ := sI μ 24 d 0) (n := n) (s := r) (dl := mI (sI μ 24 d 0) 13 d - 1) (par := some d)
      exact s_begin RB (by omega) hr x12 (by rw [x15]; decide) (born_ch RB.1 hn2) hQ
  · have hn2 : n = 200 := by
      have : ¬ n < 200 := fun q => hlt (nI_lt (b := 200) q (by omega))
      omega
    rw [if_pos hn2, if_pos hn2] at hQ
    exact s_finish (w := 4) R1 hd (by rw [hst1]; decide) (by omega) (by omega) (fun σ1 R2 => hQ _ R2)
theorem s_makeTries {σ μ : mS} {n h b : Nat} {Q : mS → Prop} (R : R0 σ μ n h) (hb : qN (eMks μ) ≤ n + b) (hQ : ∀ σ', R0 σ' (eMks μ) (qN (eMks μ)) h → Q σ') : w_X2_makeTries σ b Q := by
  have hh := R.hn
  have hqn := qN_e R.1
  have RS := R0_sn (qN μ) 0 μ R
  have hF : eMks μ = upL eMkC n 0 (upL eSn (qN μ) 0 μ) := by unfold eMks; rw [hqn]
  generalize upL eSn (qN μ) 0 μ = μs at RS hF
  rw [hF] at hb hQ
  have h6 := RS.2.2.2.2.2.2.2.2.2.2.1
  unfold w_X2_makeTries
  rintro _ rfl _ rfl
  rw [RS.old, h6]
  refine ⟨fun k r u σ' => ∃ d μ' n', h ≤ d ∧ d ≤ n ∧ n ≤ n' ∧ k = n - d ∧ r = nx d n ∧ R0 σ' μ' n' h ∧ u = n' - n ∧ upL eMkC (n - d) d μ' = upL eMkC n 0 μs, ?_, n - h, h, μs, n, by omega, hh, by omega, rfl, rfl, RS, by omega, (upL_skip h hh (fun d hd => if_neg (fun q => RS.ov d hd (by rw [q.2]; decide)))).symm⟩
  rintro k r u σ' ⟨d, μ', n', hhd, hdn, hnn, rfl, rfl, R', rfl, e1⟩
  have hn' := R'.n2
  refine ⟨fun hr => ?_, fun i hi => ?_⟩
  · have h1 := nx_none hr
    rw [show n - d = 0 by omega] at e1
    have e1 : μ' = _ := e1
    have h2 := qN_e R'.1
    rw [e1] at h2
    exact hQ _ (by rw [h2, ← e1]; exact R')
  · obtain ⟨hdn2, rfl⟩ := nx_some hi
    have hd : d < n' := by omega
    refine ⟨R'.mo hd, ?_⟩
    rintro _ rfl
    refine ⟨fun u σ2 => ∃ μ2 n2, n ≤ n2 ∧ R0 σ2 μ2 n2 h ∧ u = n2 - n ∧ upL eMkC (n - (d + 1)) (d + 1) μ2 = upL eMkC n 0 μs, ?_, ?_⟩
    · rintro u σ2 ⟨μ2, n2, hn2, R2, rfl, e2⟩
      refine ⟨fun hne => ⟨R2.mo (by omega), ?_⟩, fun heq => ?_⟩
      · rintro _ rfl
        have hd1 : d + 1 < n := Nat.lt_of_le_of_ne hdn2 (fun q => hne (by rw [if_pos (by omega)]; congr 1; omega))
        refine ⟨n - (d + 1), by omega, d + 1, μ2, n2, by omega, by omega, hn2, rfl, ?_, R2, rfl, e2⟩
        rw [R2.nxt hhd (by omega)]
        unfold nx
        rw [if_pos (by omega), if_pos hd1]
      · rw [if_pos (by omega)] at heq
        have h7 := Option.some.inj heq
        rw [show n - (d + 1) = 0 by omega] at e2
        have e2 : μ2 = _ := e2
        have h2 := qN_e R2.1
        rw [e2] at h2
        exact hQ _ (by rw [h2, ← e2]; exact R2)
    · have keep : ¬ (mI μ' 24 d ≠ 0 ∧ mI μ' 15 d = 2) → ∃ μ2 n2, n ≤ n2 ∧ R0 σ' μ2 n2 h ∧ n' - n = n2 - n ∧ upL eMkC (n - (d + 1)) (d + 1) μ2 = upL eMkC n 0 μs := fun hne => by
        rw [upL_s hdn2, show eMkC μ' d = μ' from if_neg hne] at e1
        exact ⟨μ', n', hnn, R', rfl, e1⟩
      rw [R'.st hd]
      refine ⟨fun hne => keep (fun q => hne q.2), fun hst => ?_⟩
      have A := R'.2.2.2.2.2.2.1 d hd hst
      rw [A.2.2.2.1]
      refine ⟨fun hw => keep (fun q => q.1 hw), fun hw => ?_⟩
      obtain ⟨k, r, hk, hr, h22, h20, hqa⟩ := wM_asked R'.1 hd hst
      have h11 := A.2.2.1 k r hk hr h22 h20
      refine ⟨fun q => absurd (h11.symm.trans q) (by simp), fun i hi => ?_⟩
      rw [← hi]
      rw [upL_s hdn2, show eMkC μ' d = _ from if_pos ⟨hw, hst⟩] at e1
      have hst1 : mI (sI μ' 24 d 0) 15 d = 2 := by rw [oI (by omega)]; exact hst
      have hw1 := wM_mk1 (wM_24 (c := d) (v := 0) R'.1) hd hst1
      obtain ⟨nF, hF1, hF2⟩ := mks_mono (n - (d + 1)) (d + 1) _ _ hw1 (by split <;> omega)
      rw [e1] at hF2
      have hqF := qN_e hF2
      refine ⟨if n' = 200 then 0 else 1, ?_, s_makeTry R' hd hst (fun q => by rw [if_neg (by omega)]; exact Nat.le_refl _) (fun σ2 R2 => ⟨_, _, by split <;> omega, R2, by split <;> omega, e1⟩)⟩
      rw [← hqF] at hF1
      split at hF1
      · next q => rw [if_pos q]; omega
      · next q => rw [if_neg q]; omega
