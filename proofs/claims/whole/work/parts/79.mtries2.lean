theorem upL_stay {f : mS → Nat → mS} {μ : mS} : ∀ (k c : Nat), (∀ d, c ≤ d → d < c + k → f μ d = μ) → upL f k c μ = μ := by
  intro k
  induction k with
  | zero => intro c _; rfl
  | succ k ih =>
    intro c hs
    show upL f k (c + 1) (f μ c) = μ
    rw [hs c (Nat.le_refl _) (by omega)]
    exact ih (c + 1) (fun d h1 h2 => hs d (by omega) (by omega))
theorem upL_to {f : mS → Nat → mS} {n d : Nat} {μ : mS} : ∀ k, d + k ≤ n → (∀ e, d ≤ e → e < d + k → f μ e = μ) → upL f (n - d) d μ = upL f (n - (d + k)) (d + k) μ := by
  intro k
  induction k with
  | zero => intro _ _; rfl
  | succ k ih =>
    intro hk hs
    rw [ih (by omega) (fun e h1 h2 => hs e h1 (by omega)), upL_s (by omega), hs (d + k) (by omega) (by omega)]
    rfl
theorem m_makesTries {μ : mS} {n : Nat} {Q : mS → Prop} (h : wM μ n) (hQ : Q (eMks μ)) : w_X3_makesTries μ Q := by
  have hn := h.2.2.2.1
  have h13 := h.2.2.1
  have hqn := qN_e h
  unfold eMks at hQ
  rw [hqn] at hQ
  have hsw : wM (upL eSn n 0 μ) n := wM_sn (μ := μ) _ _ _ h
  have hs25 : ∀ c, c < n → mI (upL eSn n 0 μ) 15 c = 2 → (mI (upL eSn n 0 μ) 25 c = 0 ↔ mI (upL eSn n 0 μ) 24 c = 0) := fun c hc hst => by
    rw [(sn_25 n 0 μ).2 (Nat.zero_le _) (by omega), sn_o (by omega)]
    rw [sn_o (by omega)] at hst
    by_cases hw : mI μ 24 c = 0
    · rw [if_neg (fun q => q.2 hw)]; exact ⟨fun _ => hw, fun _ => rfl⟩
    · rw [if_pos ⟨hst, hw⟩]; exact ⟨fun q => absurd q (by decide), fun q => absurd q hw⟩
  unfold w_X3_makesTries
  rw [h13]
  have hle : ∀ d, d < 2 ^ 31 → (nI n ≤ nI d ↔ n ≤ d) := fun d hd => nI_leI (by omega) hd
  refine ⟨fun k y μ' => ∃ d, y = nI d ∧ d ≤ n ∧ k = n - d ∧ upL eSn (n - d) d μ' = upL eSn n 0 μ, ?_, n, 0, rfl, by omega, rfl, rfl⟩
  intro k y μ' ⟨d, hy, hdn, hk, e1⟩
  rw [hy, hk]
  refine ⟨fun hl => ?_, fun hl => ?_⟩
  · have h1 := (hle d (by omega)).mp hl
    rw [show n - d = 0 by omega] at e1
    have e1 : μ' = _ := e1
    rw [e1]
    generalize upL eSn n 0 μ = μs at hsw hs25 hQ
    refine ⟨fun k y μ' => ∃ d n', y = nI d ∧ d ≤ n ∧ k = n - d ∧ n ≤ n' ∧ wM μ' n' ∧ (∀ c, d ≤ c → c < n → mI μ' 15 c = 2 → (mI μ' 25 c = 0 ↔ mI μ' 24 c = 0)) ∧ upL eMkC (n - d) d μ' = upL eMkC n 0 μs, ?_, n, 0, n, rfl, by omega, rfl, Nat.le_refl _, hsw, fun c _ hc => hs25 c hc, rfl⟩
    intro k y μ' ⟨d, n', hy, hdn, hk, hnn, hM, h25, e2⟩
    rw [hy, hk]
    refine ⟨fun hl => ?_, fun hl => ?_⟩
    · have h1 := (hle d (by omega)).mp hl
      rw [show n - d = 0 by omega] at e2
      have e2 : μ' = _ := e2
      rw [e2]; exact hQ
    · have hd : d < n := Nat.not_le.mp fun q => hl ((hle d (by omega)).mpr q)
      have hn' := hM.2.2.2.1
      rw [upL_s hd] at e2
      have keep : ¬ (mI μ' 24 d ≠ 0 ∧ mI μ' 15 d = 2) → ∃ k, k < n - d ∧ ∃ d' n', nI d + 1 = nI d' ∧ d' ≤ n ∧ k = n - d' ∧ n ≤ n' ∧ wM μ' n' ∧ (∀ c, d' ≤ c → c < n → mI μ' 15 c = 2 → (mI μ' 25 c = 0 ↔ mI μ' 24 c = 0)) ∧ upL eMkC (n - d') d' μ' = upL eMkC n 0 μs := fun hne => by
        rw [show eMkC μ' d = μ' from if_neg hne] at e2
        exact ⟨n - (d + 1), by omega, d + 1, n', nI_1 d, by omega, rfl, hnn, hM, fun c h1 h2 => h25 c (by omega) h2, e2⟩
      refine ⟨d, rfl, by omega, fun h0 => keep (fun q => q.1 ((h25 d (Nat.le_refl _) hd q.2).mp h0)), fun h0 => ⟨d, rfl, by omega, fun hne => keep (fun q => hne q.2), fun hst => ⟨d, rfl, by omega, ?_⟩⟩⟩
      have hw : mI μ' 24 d ≠ 0 := fun q => h0 ((h25 d (Nat.le_refl _) hd hst).mpr q)
      rw [show eMkC μ' d = _ from if_pos ⟨hw, hst⟩] at e2
      rintro _ rfl
      have hM1 : wM (sI μ' 24 d 0) n' := wM_24 hM
      have hst1 : mI (sI μ' 24 d 0) 15 d = 2 := by rw [oI (by omega)]; exact hst
      have hw1 := wM_mk1 hM1 (by omega) hst1
      have fin : ∃ k31, k31 < n - d ∧ ∃ d' n', nI d + 1 = nI d' ∧ d' ≤ n ∧ k31 = n - d' ∧ n ≤ n' ∧ wM (eMk1 (sI μ' 24 d 0) d) n' ∧ (∀ c, d' ≤ c → c < n → mI (eMk1 (sI μ' 24 d 0) d) 15 c = 2 → (mI (eMk1 (sI μ' 24 d 0) d) 25 c = 0 ↔ mI (eMk1 (sI μ' 24 d 0) d) 24 c = 0)) ∧ upL eMkC (n - d') d' (eMk1 (sI μ' 24 d 0) d) = upL eMkC n 0 μs := by
        refine ⟨n - (d + 1), by omega, d + 1, _, nI_1 d, by omega, rfl, ?_, hw1, fun c h1 h2 hc2 => ?_, e2⟩
        · split <;> omega
        · have h9 := (mk1_2 hM1 hc2).2
          rw [oI (by omega)] at h9
          rw [mk1_o hM1 (Or.inr rfl) (by omega), mk1_o hM1 (Or.inl rfl) (by omega), oI (by omega), oI (by omega)]
          exact h25 c (by omega) h2 h9
      obtain ⟨kk, r, hkk, hr, h22, h20, hqa⟩ := wM_asked hM1 (by omega) hst1
      have hq1 := qN_e hM1
      have h200 : (mI (sI μ' 24 d 0) 0 13 = 200) ↔ n' = 200 := by rw [hM1.2.2.1]; exact nI_eq (b := 200) (by omega) (by omega)
      rw [show sI μ' 24 d (vp_nar .boolean 0) = sI μ' 24 d 0 from rfl]
      refine ⟨fun hne => ⟨d, rfl, by omega, 3 * d + kk, by rw [h22, i3], by omega, d, rfl, by omega, ?_⟩, fun he => ?_⟩
      · have hn2 : n' ≠ 200 := fun q => hne (h200.mpr q)
        have hE : eMk1 (sI μ' 24 d 0) d = eBeg (eBorn (sI μ' 24 d 0) n' r (mI (sI μ' 24 d 0) 13 d - 1) (some d)) (n' + 1) n' r := by unfold eMk1; rw [hq1, hqa, if_neg hn2]
        rw [h20]
        refine m_begins (par := some d) hM1 (by omega) hr (fun p hp => by cases hp; exact ⟨by omega, hst1⟩) ?_
        rw [← hE]
        exact fin
      · have hn2 : n' = 200 := h200.mp he
        have hE : eMk1 (sI μ' 24 d 0) d = eFin (sI μ' 24 d 0) d 4 := by unfold eMk1; rw [hq1, if_pos hn2]
        refine m_ends (w := 4) hM1 (by omega) (by omega) (by omega) ?_
        rw [← hE]
        exact fin
  · have hd : d < n := Nat.not_le.mp fun q => hl ((hle d (by omega)).mpr q)
    rw [upL_s hd] at e1
    have nxt : ∀ μ'', μ'' = eSn μ' d → ∃ k, k < n - d ∧ ∃ d', nI d + 1 = nI d' ∧ d' ≤ n ∧ k = n - d' ∧ upL eSn (n - d') d' μ'' = upL eSn n 0 μ := fun μ'' hq => ⟨n - (d + 1), by omega, d + 1, nI_1 d, by omega, rfl, by rw [hq]; exact e1⟩
    refine ⟨d, rfl, by omega, fun hne => ⟨d, rfl, by omega, ?_⟩, fun hst => ⟨d, rfl, by omega, fun hw => ⟨d, rfl, by omega, ?_⟩, fun hw => ⟨d, rfl, by omega, ?_⟩⟩⟩
    · rintro _ rfl
      refine nxt _ ?_
      unfold eSn; rw [if_neg (fun q => hne q.1)]; rfl
    · rintro _ rfl
      refine nxt _ ?_
      unfold eSn; rw [if_neg (fun q => q.2 hw)]; rfl
    · rintro _ rfl
      refine nxt _ ?_
      unfold eSn; rw [if_pos ⟨hst, hw⟩]; rfl
/-- queued calls of a service begin -/
abbrev qQd (μ : mS) (s c : Nat) : Prop := mI μ 12 c = nI s ∧ mI μ 15 c = 0
def eTq (s : Nat) (μ : mS) (c : Nat) : mS := if qQd μ s c ∧ nI (cnt (qN μ) (fK μ s 1)) < mI μ 6 s then (if mI μ 13 c - mI μ 0 1 < mI μ 1 s then eFin μ c 6 else eWrk μ c) else μ
def eTQ (μ : mS) (s : Nat) : mS := upL (eTq s) (qN μ) 0 μ
theorem wM_tq {μ : mS} {n s c : Nat} (h : wM μ n) (hc : c < n) : wM (eTq s μ c) n := by
  unfold eTq
  split
  · next q =>
    split
    · exact wM_fin (w := 6) h hc (by omega) (by omega)
    · exact wM_wrk h hc (by rw [q.1.2]; decide) (h.2.2.2.2.2.2.2 c hc (by rw [q.1.2]; decide))
  · exact h
theorem wM_TQ {μ : mS} {n s : Nat} (h : wM μ n) : wM (eTQ μ s) n := by
  unfold eTQ
  rw [qN_e h]
  exact upL_keep (P := fun μ => wM μ n) (fun μ c hc h => wM_tq h hc) n 0 μ (by omega) h
theorem s_queuedOf {σ μ : mS} {n h s : Nat} {Q : mS → Prop} (R : R0 σ μ n h) (hs : s < 6) (hQ : ∀ σ', R0 σ' (eTQ μ s) n h → Q σ') : w_X2_startQueuedOf (some (3 + 3 * s)) σ Q := by
  have hh := R.hn
  have hn := R.n2
  have hqn := qN_e R.1
  unfold eTQ at hQ
  rw [hqn] at hQ
  unfold w_X2_startQueuedOf
  rintro _ rfl
  rw [R.old]
  refine ⟨fun k r σ' => ∃ d μ', h ≤ d ∧ d ≤ n ∧ k = n - d ∧ r = nx d n ∧ R0 σ' μ' n h ∧ upL (eTq s) (n - d) d μ' = upL (eTq s) n 0 μ, ?_, n - h, h, μ, by omega, by omega, rfl, rfl, R, (upL_skip h hh (fun d hd => if_neg (fun q => R.ov d hd (by rw [q.1.2]; decide)))).symm⟩
  rintro k r σ' ⟨d, μ', hcd, hdn, rfl, rfl, R', e1⟩
  have hqn' := qN_e R'.1
  refine ⟨fun hr => ?_, fun i hi => ?_⟩
  · have h1 := nx_none hr
    rw [show n - d = 0 by omega] at e1
    have e1 : μ' = _ := e1
    exact hQ _ (by rw [← e1]; exact R')
  · obtain ⟨hd, rfl⟩ := nx_some hi
    refine ⟨3 + 3 * s, rfl, kS hs, s_free R' hs (fun hfr => ⟨fun q => absurd q (by decide), fun _ => ⟨R'.mo hd, ?_⟩⟩) (fun hfr => ⟨fun _ => ?_, fun q => absurd rfl q⟩)⟩
    · rw [upL_s hd] at e1
      have keep : ¬ qQd μ' s d → ∃ k, k < n - d ∧ ∃ d' μ'', h ≤ d' ∧ d' ≤ n ∧ k = n - d' ∧ mR σ' (21 + d) 8 = nx d' n ∧ R0 σ' μ'' n h ∧ upL (eTq s) (n - d') d' μ'' = upL (eTq s) n 0 μ := fun hne => by
        rw [show eTq s μ' d = μ' from if_neg (fun q => hne q.1)] at e1
        exact ⟨n - (d + 1), by omega, d + 1, μ', by omega, by omega, rfl, R'.nxt hcd hd, R', e1⟩
      obtain ⟨s2, hs2, hsv2, hr2⟩ := R'.svc hd
      unfold w_X0_isOf
      refine ⟨R'.mo hd, ?_⟩
      rintro _ rfl
      rw [hr2, R'.st hd]
      refine ⟨fun hne => ⟨fun _ => ⟨R'.mo hd, ?_⟩, fun q => absurd rfl q⟩, fun heq => ⟨fun hne => ⟨fun _ => ⟨R'.mo hd, ?_⟩, fun q => absurd rfl q⟩, fun hst => ⟨fun q => absurd q (by decide), fun _ => ⟨R'.mo hd, ?_⟩⟩⟩⟩
      · rintro _ rfl
        exact keep (fun q => hne (by rw [i_inj (by omega) (by omega) (hsv2.symm.trans q.1)]))
      · rintro _ rfl
        exact keep (fun q => hne q.2)
      · have hss : s2 = s := by have := Option.some.inj heq; omega
        subst hss
        have hqd : qQd μ' s2 d := ⟨hsv2, hst⟩
        have hop : mI μ' 15 d < 3 := by rw [hst]; decide
        rw [show eTq s2 μ' d = _ from if_pos ⟨hqd, by rw [hqn']; exact hfr⟩] at e1
        refine s_canBe R' hd hs hsv2 (fun hcb => ⟨fun q => absurd q (by decide), fun _ => ?_⟩) (fun hcb => ⟨fun _ => ?_, fun q => absurd rfl q⟩)
        · rw [if_neg hcb] at e1
          refine s_work R' hd hop (R'.1.2.2.2.2.2.2.2 d hd (by rw [hst]; decide)) (fun σ1 R1 => ⟨R1.mo hd, ?_⟩)
          rintro _ rfl
          exact ⟨n - (d + 1), by omega, d + 1, _, by omega, by omega, rfl, R1.nxt hcd hd, R1, e1⟩
        · rw [if_pos hcb] at e1
          refine s_finish (w := 6) R' hd hop (by omega) (by omega) (fun σ1 R1 => ⟨R1.mo hd, ?_⟩)
          rintro _ rfl
          exact ⟨n - (d + 1), by omega, d + 1, _, by omega, by omega, rfl, R1.nxt hcd hd, R1, e1⟩
    · rw [upL_stay (n - d) d (fun e h1 h2 => if_neg (fun q => hfr (by have := q.2; rw [hqn'] at this; exact this)))] at e1
      exact hQ _ (by rw [← e1]; exact R')
theorem s_startQueued {σ μ : mS} {n h : Nat} {Q : mS → Prop} (R : R0 σ μ n h) (hQ : ∀ σ', R0 σ' (upL eTQ 6 0 μ) n h → Q σ') : w_X2_startQueued σ Q := by
  have hn := R.n2
  unfold w_X2_startQueued
  refine ⟨fun k x σ' => ∃ d μ', x = nI d ∧ d ≤ 6 ∧ k = 6 - d ∧ R0 σ' μ' n h ∧ upL eTQ (6 - d) d μ' = upL eTQ 6 0 μ, ?_, 6, 0, μ, rfl, by omega, rfl, R, rfl⟩
  intro k x σ' ⟨d, μ', hx, hd6, hk, R', e1⟩
  rw [hx, hk]
  have hle : ((6 : Int32) ≤ nI d) ↔ 6 ≤ d := nI_leI (a := 6) (by omega) (by omega)
  refine ⟨fun hl => ?_, fun hl => ?_⟩
  · have h1 := hle.mp hl
    rw [show 6 - d = 0 by omega] at e1
    have e1 : μ' = _ := e1
    exact hQ _ (by rw [← e1]; exact R')
  · have hd : d < 6 := Nat.not_le.mp fun q => hl (hle.mpr q)
    rw [upL_s hd] at e1
    refine ⟨d, rfl, hd, ?_⟩
    rintro _ rfl
    rw [(R'.2.2.1 d hd).1]
    refine ⟨fun q => absurd q (by simp), ?_⟩
    rintro _ ⟨⟩
    refine ⟨kS hd, s_countOf (k := 0) R' hd (by omega) ⟨fun h0 => ?_, fun h0 => ?_⟩⟩
    · have hz : cnt n (fK μ' d 0) = 0 := by
        have h1 := cnt_le n (fK μ' d 0)
        have := (nI_leI (b := 0) (by omega) (by omega)).mp h0
        omega
      have hno : eTQ μ' d = μ' := by
        unfold eTQ
        rw [qN_e R'.1]
        refine upL_stay n 0 (fun e _ he => if_neg (fun q => ?_))
        have := cnt_of0 hz e (by omega)
        rw [show fK μ' d 0 e = true from decide_eq_true q.1] at this
        cases this
      rw [hno] at e1
      exact ⟨6 - (d + 1), by omega, d + 1, μ', nI_1 d, by omega, rfl, R', e1⟩
    · exact s_queuedOf R' hd (fun σ1 R1 => ⟨6 - (d + 1), by omega, d + 1, _, nI_1 d, by omega, rfl, R1, e1⟩)
