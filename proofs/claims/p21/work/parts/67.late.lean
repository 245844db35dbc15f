def upL (f : mS → Nat → mS) : Nat → Nat → mS → mS
  | 0, _, μ => μ
  | k + 1, c, μ => upL f k (c + 1) (f μ c)
theorem upL_s {f : mS → Nat → mS} {n d : Nat} {μ : mS} (h : d < n) : upL f (n - d) d μ = upL f (n - (d + 1)) (d + 1) (f μ d) := by
  rw [show n - d = (n - (d + 1)) + 1 by omega]; rfl
theorem upL_skip {f : mS → Nat → mS} {n : Nat} {μ : mS} : ∀ h, h ≤ n → (∀ d, d < h → f μ d = μ) → upL f n 0 μ = upL f (n - h) h μ := by
  intro h
  induction h with
  | zero => intro _ _; rfl
  | succ h ih =>
    intro hh hs
    rw [ih (by omega) (fun d hd => hs d (by omega)), upL_s (by omega), hs h (by omega)]
/-- an up-going loop's end: what one step keeps, the loop keeps -/
theorem upL_keep {f : mS → Nat → mS} {P : mS → Prop} {n : Nat} (hf : ∀ μ c, c < n → P μ → P (f μ c)) : ∀ (k c : Nat) (μ : mS), c + k ≤ n → P μ → P (upL f k c μ) := by
  intro k
  induction k with
  | zero => intro c μ _ h; exact h
  | succ k ih => intro c μ hk h; exact ih (c + 1) _ (by omega) (hf μ c (by omega) h)
def eLate (μ : mS) (c : Nat) : mS := if mI μ 15 c < 3 ∧ ¬ mI μ 0 1 < mI μ 13 c then eTrb (eFin μ c 5) (qS (eFin μ c 5) c) else μ
theorem wM_late {μ : mS} {n c : Nat} (h : wM μ n) (hc : c < n) : wM (eLate μ c) n := by
  unfold eLate
  split
  · have h1 := wM_fin (w := 5) h hc (by omega) (by omega)
    obtain ⟨s, hs, hsv⟩ := wM_svc h1 hc
    rw [qS_e hsv hs]
    exact wM_trb h1 hs
  · exact h
theorem R0.old {σ μ : mS} {n h : Nat} (R : R0 σ μ n h) : mR σ 0 5 = nx h n := R.2.2.2.2.2.2.2.2.2.1
theorem R0.hn {σ μ : mS} {n h : Nat} (R : R0 σ μ n h) : h ≤ n := R.2.2.2.2.2.2.2.2.1
theorem R0.ov {σ μ : mS} {n h : Nat} (R : R0 σ μ n h) : ∀ c, c < h → ¬ mI μ 15 c < 3 := R.2.2.2.2.2.2.2.1
theorem s_endLate {σ μ : mS} {n h : Nat} {Q : mS → Prop} (R : R0 σ μ n h) (hQ : ∀ σ', R0 σ' (upL eLate n 0 μ) n h → Q σ') : w_X2_endLate σ Q := by
  have hh := R.hn
  unfold w_X2_endLate
  rintro _ rfl
  rw [R.old]
  refine ⟨fun k r σ' => ∃ d μ', h ≤ d ∧ d ≤ n ∧ k = n - d ∧ r = nx d n ∧ R0 σ' μ' n h ∧ upL eLate (n - d) d μ' = upL eLate n 0 μ, ?_, n - h, h, μ, by omega, by omega, rfl, rfl, R, (upL_skip h hh (fun d hd => if_neg (fun q => R.ov d hd q.1))).symm⟩
  rintro k r σ' ⟨d, μ', hcd, hdn, rfl, rfl, R', e1⟩
  refine ⟨fun hr => ?_, fun i hi => ?_⟩
  · have h1 := nx_none hr
    rw [show n - d = 0 by omega] at e1
    have e1 : μ' = _ := e1
    exact hQ _ (by rw [← e1]; exact R')
  · obtain ⟨hd, rfl⟩ := nx_some hi
    rw [upL_s hd] at e1
    have keep : ¬ (mI μ' 15 d < 3 ∧ ¬ mI μ' 0 1 < mI μ' 13 d) → ∃ k, k < n - d ∧ ∃ d' μ'', h ≤ d' ∧ d' ≤ n ∧ k = n - d' ∧ mR σ' (21 + d) 8 = nx d' n ∧ R0 σ' μ'' n h ∧ upL eLate (n - d') d' μ'' = upL eLate n 0 μ := fun hne => by
      rw [show eLate μ' d = μ' from if_neg hne] at e1
      exact ⟨n - (d + 1), by omega, d + 1, μ', by omega, by omega, rfl, R'.nxt (by omega) hd, R', e1⟩
    refine ⟨R'.mo hd, s_isOver R' hd (fun ho' => ⟨fun q => absurd rfl q, fun _ => ⟨R'.mo hd, ?_, ?_⟩⟩) (fun hov => ⟨fun _ => ⟨R'.mo hd, ?_⟩, fun q => absurd q (by decide)⟩)⟩
    · rw [R'.now, (R'.2.2.2.2.1 d hd).2.2.2.2.2.1]
      intro hlt
      rintro _ rfl
      exact keep (fun q => q.2 hlt)
    · rw [R'.now, (R'.2.2.2.2.1 d hd).2.2.2.2.2.1]
      intro hlt
      rw [show eLate μ' d = _ from if_pos ⟨ho', hlt⟩] at e1
      refine s_finish (w := 5) R' hd ho' (by omega) (by omega) (fun σ1 R1 => ⟨R1.mo hd, ?_⟩)
      rintro _ rfl
      obtain ⟨s, hs, hsv, hr⟩ := R1.svc hd
      rw [qS_e hsv hs] at e1
      rw [hr]
      refine ⟨3 + 3 * s, rfl, kS hs, s_trouble R1 hs (fun σ2 R2 => ⟨R2.mo hd, ?_⟩)⟩
      rintro _ rfl
      exact ⟨n - (d + 1), by omega, d + 1, _, by omega, by omega, rfl, R2.nxt (by omega) hd, R2, e1⟩
    · rintro _ rfl
      exact keep (fun q => hov q.1)
