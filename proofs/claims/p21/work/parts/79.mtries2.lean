theorem upL_stay {f : mS → Nat → mS} {μ : mS} : ∀ (k c : Nat), (∀ d, c ≤ d → d < c + k → f μ d = μ) → upL f k c μ = μ := by
  intro k
  induction k with
  | zero => intro c _; rfl
  | succ k ih =>
    intro c hs
    show upL f k (c + 1) (f μ c) = μ
    rw [hs c (Nat.le_refl _) (by omega)]
    exact ih (c + 1) (fun d h1 h2 => hs d (by omega) (by omega))
theorem upL_to {f : mS → Nat → mS} {n d : Nat} {μ : mS} : ∀ k, d + k ≤ n → (∀ e, d ≤ e → e < d + k → f μ e = μ) → upL f (n - d) d μ = upL f (n - (d + k)) (d + k) μ := by
  intro k
  induction k with
  | zero => intro _ _; rfl
  | succ k ih =>
    intro hk hs
    rw [ih (by omega) (fun e h1 h2 => hs e h1 (by omega)), upL_s (by omega), hs (d + k) (by omega) (by omega)]
    rfl
/-- queued calls of a service begin -/
abbrev qQd (μ : mS) (s c : Nat) : Prop := mI μ 12 c = nI s ∧ mI μ 15 c = 0
def eTq (s : Nat) (μ : mS) (c : Nat) : mS := if qQd μ s c ∧ nI (cnt (qN μ) (fK μ s 1)) < mI μ 6 s then (if mI μ 13 c - mI μ 0 1 < mI μ 1 s then eFin μ c 6 else eWrk μ c) else μ
def eTQ (μ : mS) (s : Nat) : mS := upL (eTq s) (qN μ) 0 μ
theorem wM_tq {μ : mS} {n s c : Nat} (h : wM μ n) (hc : c < n) : wM (eTq s μ c) n := by
  unfold eTq
  split
  · next q =>
    split
    · exact wM_fin (w := 6) h hc (by omega) (by omega)
    · exact wM_wrk h hc (by rw [q.1.2]; decide) (h.2.2.2.2.2.2.2 c hc (by rw [q.1.2]; decide))
  · exact h
theorem wM_TQ {μ : mS} {n s : Nat} (h : wM μ n) : wM (eTQ μ s) n := by
  unfold eTQ
  rw [qN_e h]
  exact upL_keep (P := fun μ => wM μ n) (fun μ c hc h => wM_tq h hc) n 0 μ (by omega) h
theorem s_queuedOf {σ μ : mS} {n h s : Nat} {Q : mS → Prop} (R : R0 σ μ n h) (hs : s < 6) (hQ : ∀ σ', R0 σ' (eTQ μ s) n h → Q σ') : w_X2_startQueuedOf (some (3 + 3 * s)) σ Q := by
  have hh := R.hn
  have hn := R.n2
  have hqn := qN_e R.1
  unfold eTQ at hQ
  rw [hqn] at hQ
  unfold w_X2_startQueuedOf
  rintro _ rfl
  rw [R.old]
  refine ⟨fun k r σ' => ∃ d μ', h ≤ d ∧ d ≤ n ∧ k = n - d ∧ r = nx d n ∧ R0 σ' μ' n h ∧ upL (eTq s) (n - d) d μ' = upL (eTq s) n 0 μ, ?_, n - h, h, μ, by omega, by omega, rfl, rfl, R, (upL_skip h hh (fun d hd => if_neg (fun q => R.ov d hd (by rw [q.1.2]; decide)))).symm⟩
  rintro k r σ' ⟨d, μ', hcd, hdn, rfl, rfl, R', e1⟩
  have hqn' := qN_e R'.1
  refine ⟨fun hr => ?_, fun i hi => ?_⟩
  · have h1 := nx_none hr
    rw [show n - d = 0 by omega] at e1
    have e1 : μ' = _ := e1
    exact hQ _ (by rw [← e1]; exact R')
  · obtain ⟨hd, rfl⟩ := nx_some hi
    refine ⟨3 + 3 * s, rfl, kS hs, s_free R' hs (fun hfr => ⟨fun q => absurd q (by decide), fun _ => ⟨R'.mo hd, ?_⟩⟩) (fun hfr => ⟨fun _ => ?_, fun q => absurd rfl q⟩)⟩
    · rw [upL_s hd] at e1
      have keep : ¬ qQd μ' s d → ∃ k, k < n - d ∧ ∃ d' μ'', h ≤ d' ∧ d' ≤ n ∧ k = n - d' ∧ mR σ' (21 + d) 8 = nx d' n ∧ R0 σ' μ'' n h ∧ upL (eTq s) (n - d') d' μ'' = upL (eTq s) n 0 μ := fun hne => by
        rw [show eTq s μ' d = μ' from if_neg (fun q => hne q.1)] at e1
        exact ⟨n - (d + 1), by omega, d + 1, μ', by omega, by omega, rfl, R'.nxt hcd hd, R', e1⟩
      obtain ⟨s2, hs2, hsv2, hr2⟩ := R'.svc hd
      unfold w_X0_isOf
      refine ⟨R'.mo hd, ?_⟩
      rintro _ rfl
      rw [hr2, R'.st hd]
      refine ⟨fun hne => ⟨fun _ => ⟨R'.mo hd, ?_⟩, fun q => absurd rfl q⟩, fun heq => ⟨fun hne => ⟨fun _ => ⟨R'.mo hd, ?_⟩, fun q => absurd rfl q⟩, fun hst => ⟨fun q => absurd q (by decide), fun _ => ⟨R'.mo hd, ?_⟩⟩⟩⟩
      · rintro _ rfl
        exact keep (fun q => hne (by rw [i_inj (by omega) (by omega) (hsv2.symm.trans q.1)]))
      · rintro _ rfl
        exact keep (fun q => hne q.2)
      · have hss : s2 = s := by have := Option.some.inj heq; omega
        subst hss
        have hqd : qQd μ' s2 d := ⟨hsv2, hst⟩
        have hop : mI μ' 15 d < 3 := by rw [hst]; decide
        rw [show eTq s2 μ' d = _ from if_pos ⟨hqd, by rw [hqn']; exact hfr⟩] at e1
        refine s_canBe R' hd hs hsv2 (fun hcb => ⟨fun q => absurd q (by decide), fun _ => ?_⟩) (fun hcb => ⟨fun _ => ?_, fun q => absurd rfl q⟩)
        · rw [if_neg hcb] at e1
          refine s_work R' hd hop (R'.1.2.2.2.2.2.2.2 d hd (by rw [hst]; decide)) (fun σ1 R1 => ⟨R1.mo hd, ?_⟩)
          rintro _ rfl
          exact ⟨n - (d + 1), by omega, d + 1, _, by omega, by omega, rfl, R1.nxt hcd hd, R1, e1⟩
        · rw [if_pos hcb] at e1
          refine s_finish (w := 6) R' hd hop (by omega) (by omega) (fun σ1 R1 => ⟨R1.mo hd, ?_⟩)
          rintro _ rfl
          exact ⟨n - (d + 1), by omega, d + 1, _, by omega, by omega, rfl, R1.nxt hcd hd, R1, e1⟩
    · rw [upL_stay (n - d) d (fun e h1 h2 => if_neg (fun q => hfr (by have := q.2; rw [hqn'] at this; exact this)))] at e1
      exact hQ _ (by rw [← e1]; exact R')
theorem s_startQueued {σ μ : mS} {n h : Nat} {Q : mS → Prop} (R : R0 σ μ n h) (hQ : ∀ σ', R0 σ' (upL eTQ 6 0 μ) n h → Q σ') : w_X2_startQueued σ Q := by
  have hn := R.n2
  unfold w_X2_startQueued
  refine ⟨fun k x σ' => ∃ d μ', x = nI d ∧ d ≤ 6 ∧ k = 6 - d ∧ R0 σ' μ' n h ∧ upL eTQ (6 - d) d μ' = upL eTQ 6 0 μ, ?_, 6, 0, μ, rfl, by omega, rfl, R, rfl⟩
  intro k x σ' ⟨d, μ', hx, hd6, hk, R', e1⟩
  rw [hx, hk]
  have hle : ((6 : Int32) ≤ nI d) ↔ 6 ≤ d := nI_leI (a := 6) (by omega) (by omega)
  refine ⟨fun hl => ?_, fun hl => ?_⟩
  · have h1 := hle.mp hl
    rw [show 6 - d = 0 by omega] at e1
    have e1 : μ' = _ := e1
    exact hQ _ (by rw [← e1]; exact R')
  · have hd : d < 6 := Nat.not_le.mp fun q => hl (hle.mpr q)
    rw [upL_s hd] at e1
    refine ⟨d, rfl, hd, ?_⟩
    rintro _ rfl
    rw [(R'.2.2.1 d hd).1]
    refine ⟨fun q => absurd q (by simp), ?_⟩
    rintro _ ⟨⟩
    refine ⟨kS hd, s_countOf (k := 0) R' hd (by omega) ⟨fun h0 => ?_, fun h0 => ?_⟩⟩
    · have hz : cnt n (fK μ' d 0) = 0 := by
        have h1 := cnt_le n (fK μ' d 0)
        have := (nI_leI (b := 0) (by omega) (by omega)).mp h0
        omega
      have hno : eTQ μ' d = μ' := by
        unfold eTQ
        rw [qN_e R'.1]
        refine upL_stay n 0 (fun e _ he => if_neg (fun q => ?_))
        have := cnt_of0 hz e (by omega)
        rw [show fK μ' d 0 e = true from decide_eq_true q.1] at this
        cases this
      rw [hno] at e1
      exact ⟨6 - (d + 1), by omega, d + 1, μ', nI_1 d, by omega, rfl, R', e1⟩
    · exact s_queuedOf R' hd (fun σ1 R1 => ⟨6 - (d + 1), by omega, d + 1, _, nI_1 d, by omega, rfl, R1, e1⟩)
