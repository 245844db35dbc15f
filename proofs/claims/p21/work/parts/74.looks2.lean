theorem i3 (a b : Nat) : (3 : Int32) * nI a + nI b = nI (3 * a + b) := by
  rw [← nI_add, show (3 : Int32) = nI 3 from rfl]
  congr 1
  exact (Int32.ofNat_mul 3 a).symm
def dnL (f : mS → Nat → mS) : Nat → mS → mS
  | 0, μ => μ
  | k + 1, μ => dnL f k (f μ k)
theorem dnL_skip {f : mS → Nat → mS} {μ : mS} : ∀ h, (∀ d, d < h → f μ d = μ) → dnL f h μ = μ := by
  intro h
  induction h with
  | zero => intro _; rfl
  | succ h ih =>
    intro hs
    show dnL f h (f μ h) = μ
    rw [hs h (by omega)]
    exact ih (fun d hd => hs d (by omega))
def eJdg (μ : mS) (c : Nat) : mS := if mI μ 15 c = 2 ∧ mI μ 24 c = 0 then eLook μ c else μ
theorem wM_jdg {μ : mS} {n c : Nat} (h : wM μ n) (hc : c < n) : wM (eJdg μ c) n := by
  unfold eJdg
  split
  · next q => exact wM_look h hc q.1
  · exact h
theorem s_judgeAsking {σ μ : mS} {n h : Nat} {Q : mS → Prop} (R : R0 σ μ n h) (hQ : ∀ σ', R0 σ' (dnL eJdg n μ) n h → Q σ') : w_X2_judgeAsking σ Q := by
  have hh := R.hn
  unfold w_X2_judgeAsking
  rintro _ rfl
  rw [R.2.2.2.2.2.2.2.2.2.2.1]
  refine ⟨fun k r σ' => ∃ d μ', h ≤ d ∧ d ≤ n ∧ k = d ∧ r = (if h < d then some (20 + d) else none) ∧ R0 σ' μ' n h ∧ dnL eJdg d μ' = dnL eJdg n μ, ?_, n, n, μ, hh, Nat.le_refl _, rfl, rfl, R, rfl⟩
  rintro k r σ' ⟨d, μ', hhd, hdn, hkd, rfl, R', e1⟩
  have hkd := hkd.symm
  subst hkd
  refine ⟨fun hr => ?_, fun i hi => ?_⟩
  · have hdh : d = h := by
      by_cases hq : h < d
      · rw [if_pos hq] at hr; cases hr
      · omega
    subst hdh
    rw [dnL_skip d (fun e he => if_neg (fun q => R'.ov e he (by rw [q.1]; decide)))] at e1
    exact hQ _ (by rw [← e1]; exact R')
  · have hq : h < d := Classical.byContradiction fun q => by rw [if_neg q] at hi; cases hi
    rw [if_pos hq] at hi
    obtain ⟨e, rfl⟩ : ∃ e, d = e + 1 := ⟨d - 1, by omega⟩
    have hi : 21 + e = i := by have := Option.some.inj hi; omega
    subst hi
    have he : e < n := by omega
    have hpv : ∀ {σ2 μ2 : mS}, R0 σ2 μ2 n h → mR σ2 (21 + e) 7 = (if h < e then some (20 + e) else none) := fun R2 => by
      obtain ⟨l1, l2, l3, l4, l5, l6, l7, l8⟩ := R2.2.2.2.2.2.2.2
      by_cases hhe : h < e
      · rw [if_pos hhe]; exact l6 e hhe he
      · have : e = h := by omega
        subst this
        rw [if_neg hhe]; exact l7 he
    have e1 : dnL eJdg e (eJdg μ' e) = dnL eJdg n μ := e1
    have keep : ¬ (mI μ' 15 e = 2 ∧ mI μ' 24 e = 0) → ∃ k, k < e + 1 ∧ ∃ d' μ'', h ≤ d' ∧ d' ≤ n ∧ k = d' ∧ mR σ' (21 + e) 7 = (if h < d' then some (20 + d') else none) ∧ R0 σ' μ'' n h ∧ dnL eJdg d' μ'' = dnL eJdg n μ := fun hne => by
      rw [show eJdg μ' e = μ' from if_neg hne] at e1
      exact ⟨e, by omega, e, μ', by omega, by omega, rfl, hpv R', R', e1⟩
    refine ⟨R'.mo he, ?_⟩
    rintro _ rfl
    rw [R'.st he]
    refine ⟨fun hne => ?_, fun hst => ?_⟩
    · rintro _ rfl
      exact keep (fun q => hne q.1)
    · rw [(R'.2.2.2.2.2.2.1 e he hst).2.2.2.1]
      refine ⟨fun hne => ?_, fun hw => ?_⟩
      · rintro _ rfl
        exact keep (fun q => hne q.2)
      · obtain ⟨k, r, hk, hr, h22, h20, hqa⟩ := wM_asked R'.1 he hst
        have h11 := (R'.2.2.2.2.2.2.1 e he hst).2.2.1 k r hk hr h22 h20
        refine ⟨fun q => absurd (h11.symm.trans q) (by simp), fun i hi => ?_⟩
        rw [← hi]
        rw [show eJdg μ' e = _ from if_pos ⟨hst, hw⟩] at e1
        refine s_judge R' he hst (fun σ2 R2 => ⟨R2.mo he, ?_⟩)
        rintro _ rfl
        exact ⟨e, by omega, e, _, by omega, by omega, rfl, hpv R2, R2, e1⟩
