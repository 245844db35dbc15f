theorem i3 (a b : Nat) : (3 : Int32) * nI a + nI b = nI (3 * a + b) := by
  rw [← nI_add, show (3 : Int32) = nI 3 from rfl]
  congr 1
  exact (Int32.ofNat_mul 3 a).symm
theorem m_looks {μ : mS} {n p : Nat} {Q : mS → Prop} (h : wM μ n) (hp : p < n) (hst : mI μ 15 p = 2) (hQ : Q (eLook μ p)) : w_X3_looks (nI p) μ Q := by
  have hn := h.2.2.2.1
  have hqn := qN_e h
  obtain ⟨k, r, hk, hr, h22, h20, hqa⟩ := wM_asked h hp hst
  have z0 : ∀ f : Nat → Bool, (∀ d, f d = true → qTry μ p d) → cnt (p + 1) f = 0 := fun f hf => cnt_zero fun d hd => by
    cases hfd : f d with
    | false => rfl
    | true =>
      have := wM_par_gt h (by omega) (by omega) (hf d hfd).1
      omega
  have zT : cnt (p + 1) (fT μ p) = 0 := z0 _ (fun d q => of_decide_eq_true q)
  have zD : cnt (p + 1) (fD μ p) = 0 := z0 _ (fun d q => (of_decide_eq_true q).1)
  have zP : cnt (p + 1) (fP μ p) = 0 := z0 _ (fun d q => (of_decide_eq_true q).1)
  unfold eLook at hQ
  rw [hqn, hqa] at hQ
  unfold w_X3_looks
  refine ⟨fun kk x2 x3 x4 x5 y μ' => ∃ d, y = nI d ∧ p < d ∧ d ≤ n ∧ kk = n - d ∧ μ' = μ ∧ x2 = nI (cnt d (fT μ p)) ∧ x3 = eFst μ p d ∧ (x4 = if cnt d (fD μ p) = 0 then 0 else 1) ∧ (x5 = if cnt d (fP μ p) = 0 then 1 else 0), ?_, n - (p + 1), p + 1, nI_1 p, by omega, by omega, rfl, rfl, by rw [zT]; rfl, (eFst_0 _ zT).symm, by rw [zD]; rfl, by rw [zP]; rfl⟩
  rintro kk x2 x3 x4 x5 y μ' ⟨d, rfl, hpd, hdn, rfl, hμ, rfl, rfl, rfl, rfl⟩
  subst hμ
  have hTle := cnt_le d (fT μ' p)
  refine ⟨fun hle => ?_, fun hnle => ?_⟩
  · have h1 := (wM_n h (by omega)).mp hle
    have hdn' : d = n := by omega
    subst hdn'
    refine ⟨p, rfl, by omega, 3 * p + k, by rw [h22, i3], by omega, fun h4 => ?_, fun h4 => ?_⟩
    · have hD0 : cnt d (fD μ' p) = 0 := Classical.byContradiction fun q => by rw [if_neg q] at h4; exact absurd h4 (by decide)
      rw [if_neg (fun q => q hD0)] at hQ
      refine ⟨fun σ1 => σ1 = μ' ∧ (cnt d (fP μ' p) = 0 → ¬ (¬ (2 : Int32) ≤ mI μ' 23 p ∧ ¬ mI μ' 9 r < 10)), ?_, fun h5 => ⟨rfl, fun q => ?_⟩, fun h5 => ?_⟩
      · intro σ1 ⟨hσ, hne⟩
        rw [hσ]
        refine ⟨fun h5 => ?_, fun h5 => ?_⟩
        · have hP0 : cnt d (fP μ' p) ≠ 0 := fun q => by rw [if_pos q] at h5; exact absurd h5 (by decide)
          rw [if_neg hP0] at hQ
          have hT1 : (nI (cnt d (fT μ' p)) = 1) ↔ cnt d (fT μ' p) = 1 := nI_eq (b := 1) (by omega) (by omega)
          refine ⟨fun h2 => ?_, fun h2 => ⟨r, h20, hr, fun h8 => ?_, fun h8 => ⟨r, h20, hr, fun h9 => ?_, fun h9 => ⟨p, rfl, by omega, ?_⟩⟩⟩⟩
          · rw [if_neg (fun q => h2 (hT1.mpr q.1))] at hQ; exact hQ
          · rw [if_neg (fun q => q.2.1 h8)] at hQ; exact hQ
          · rw [if_neg (fun q => q.2.2 h9)] at hQ; exact hQ
          · rintro _ rfl
            rw [if_pos ⟨hT1.mp h2, h8, h9⟩] at hQ; exact hQ
        · have hP0 : cnt d (fP μ' p) = 0 := Classical.byContradiction fun q => by rw [if_neg q] at h5; exact absurd rfl h5
          rw [if_pos hP0, if_neg (hne hP0)] at hQ
          exact m_ends (w := 4) h hp (by omega) (by omega) hQ
      · rw [if_pos q] at h5; exact absurd h5 (by decide)
      · have hP0 : cnt d (fP μ' p) = 0 := Classical.byContradiction fun q => by rw [if_neg q] at h5; exact absurd rfl h5
        rw [if_pos hP0] at hQ
        refine ⟨p, rfl, by omega, fun h2 => ⟨rfl, fun _ q => q.1 h2⟩, fun h2 => ⟨r, h20, hr, fun h9 => ⟨rfl, fun _ q => q.2 h9⟩, fun h9 => ⟨r, h20, hr, r, h20, hr, ?_⟩⟩⟩
        rw [if_pos ⟨h2, h9⟩] at hQ
        rintro _ rfl
        refine ⟨p, rfl, by omega, p, rfl, by omega, ?_⟩
        rintro _ rfl
        refine ⟨p, rfl, by omega, ?_⟩
        rintro _ rfl
        unfold eAgn at hQ
        rw [oI (by omega)]
        exact hQ
    · have hD0 : cnt d (fD μ' p) ≠ 0 := fun q => by rw [if_pos q] at h4; exact absurd rfl h4
      rw [if_pos hD0] at hQ
      exact m_goesOn h hp hst hQ
  · have hd : d < n := Nat.not_le.mp fun q => hnle ((wM_n h (by omega)).mpr q)
    refine m_isTry hn hd hp (fun ht => ⟨fun q => absurd q (by decide), fun _ => ?_⟩) (fun ht => ⟨fun _ => ?_, fun q => absurd rfl q⟩)
    · have sT : cnt (d + 1) (fT μ' p) = cnt d (fT μ' p) + 1 := by rw [cnt_succ, show fT μ' p d = true from decide_eq_true ht]; rfl
      refine ⟨fun xk σ1 => σ1 = μ' ∧ xk = eFst μ' p (d + 1), ?_, fun h2 => ⟨rfl, ?_⟩, fun h2 => ⟨d, rfl, by omega, rfl, ?_⟩⟩
      · intro xk σ1 ⟨hσ, hxk⟩
        rw [hσ, hxk]
        refine ⟨fun xj σ1 => σ1 = μ' ∧ xj = if cnt (d + 1) (fD μ' p) = 0 then 0 else 1, ?_, fun σ1 => σ1 = μ' ∧ cnt (d + 1) (fD μ' p) ≠ 0, ?_, fun h4 => ⟨rfl, ?_⟩, fun h4 => ⟨d, rfl, by omega, fun h3 => ⟨rfl, ?_⟩, fun h3 => ⟨rfl, ?_⟩⟩⟩
        · intro xj σ2 ⟨hσ2, hxj⟩
          rw [hσ2, hxj]
          refine ⟨fun h5 => ⟨n - (d + 1), by omega, d + 1, nI_1 d, by omega, by omega, rfl, rfl, by rw [sT, nI_1], rfl, rfl, ?_⟩, fun h5 => m_isOver (by omega) (fun ho => ⟨fun _ => ⟨n - (d + 1), by omega, d + 1, nI_1 d, by omega, by omega, rfl, rfl, by rw [sT, nI_1], rfl, rfl, ?_⟩, fun q => absurd rfl q⟩) (fun hov => ⟨fun q => absurd q (by decide), fun _ => ⟨n - (d + 1), by omega, d + 1, nI_1 d, by omega, by omega, rfl, rfl, by rw [sT, nI_1], rfl, rfl, ?_⟩⟩)⟩
          · rw [if_neg]
            intro q
            rw [cnt_succ] at q
            rw [if_pos (by omega)] at h5
            exact absurd h5 (by decide)
          · rw [if_neg]
            intro q
            rw [cnt_succ, if_pos (decide_eq_true ⟨ht, ho⟩)] at q
            omega
          · rw [if_pos]
            rw [cnt_succ, if_neg (by simp [hov]), Nat.add_zero]
            exact Classical.byContradiction fun q => by rw [if_neg q] at h5; exact absurd rfl h5
        · intro σ2 ⟨hσ2, hne⟩
          exact ⟨hσ2, by rw [if_neg hne]⟩
        · intro q
          rw [cnt_succ] at q
          rw [if_pos (by omega)] at h4
          exact absurd rfl h4
        · rw [if_pos]
          rw [cnt_succ, if_neg (by simp [h3]), Nat.add_zero]
          exact Classical.byContradiction fun q => by rw [if_neg q] at h4; exact absurd h4 (by decide)
        · intro q
          rw [cnt_succ, if_pos (decide_eq_true ⟨ht, h3⟩)] at q
          omega
      · rw [eFst_s, if_neg (fun q => h2 (by rw [q.1]; rfl))]
      · have : cnt d (fT μ' p) = 0 := i_inj (b := 0) (by omega) (by omega) h2
        rw [eFst_s, if_pos ⟨this, ht⟩]
    · have sT : cnt (d + 1) (fT μ' p) = cnt d (fT μ' p) := by rw [cnt_succ, show fT μ' p d = false from decide_eq_false ht]; rfl
      have sD : cnt (d + 1) (fD μ' p) = cnt d (fD μ' p) := by rw [cnt_succ, show fD μ' p d = false from decide_eq_false fun q => ht q.1]; rfl
      have sP : cnt (d + 1) (fP μ' p) = cnt d (fP μ' p) := by rw [cnt_succ, show fP μ' p d = false from decide_eq_false fun q => ht q.1]; rfl
      exact ⟨n - (d + 1), by omega, d + 1, nI_1 d, by omega, by omega, rfl, rfl, by rw [sT], by rw [eFst_s, if_neg (fun q => ht q.2)], by rw [sD], by rw [sP]⟩
def dnL (f : mS → Nat → mS) : Nat → mS → mS
  | 0, μ => μ
  | k + 1, μ => dnL f k (f μ k)
theorem dnL_skip {f : mS → Nat → mS} {μ : mS} : ∀ h, (∀ d, d < h → f μ d = μ) → dnL f h μ = μ := by
  intro h
  induction h with
  | zero => intro _; rfl
  | succ h ih =>
    intro hs
    show dnL f h (f μ h) = μ
    rw [hs h (by omega)]
    exact ih (fun d hd => hs d (by omega))
def eJdg (μ : mS) (c : Nat) : mS := if mI μ 15 c = 2 ∧ mI μ 24 c = 0 then eLook μ c else μ
theorem wM_jdg {μ : mS} {n c : Nat} (h : wM μ n) (hc : c < n) : wM (eJdg μ c) n := by
  unfold eJdg
  split
  · next q => exact wM_look h hc q.1
  · exact h
theorem s_judgeAsking {σ μ : mS} {n h : Nat} {Q : mS → Prop} (R : R0 σ μ n h) (hQ : ∀ σ', R0 σ' (dnL eJdg n μ) n h → Q σ') : w_X2_judgeAsking σ Q := by
  have hh := R.hn
  unfold w_X2_judgeAsking
  rintro _ rfl
  rw [R.2.2.2.2.2.2.2.2.2.2.1]
  refine ⟨fun k r σ' => ∃ d μ', h ≤ d ∧ d ≤ n ∧ k = d ∧ r = (if h < d then some (20 + d) else none) ∧ R0 σ' μ' n h ∧ dnL eJdg d μ' = dnL eJdg n μ, ?_, n, n, μ, hh, Nat.le_refl _, rfl, rfl, R, rfl⟩
  rintro k r σ' ⟨d, μ', hhd, hdn, hkd, rfl, R', e1⟩
  have hkd := hkd.symm
  subst hkd
  refine ⟨fun hr => ?_, fun i hi => ?_⟩
  · have hdh : d = h := by
      by_cases hq : h < d
      · rw [if_pos hq] at hr; cases hr
      · omega
    subst hdh
    rw [dnL_skip d (fun e he => if_neg (fun q => R'.ov e he (by rw [q.1]; decide)))] at e1
    exact hQ _ (by rw [← e1]; exact R')
  · have hq : h < d := Classical.byContradiction fun q => by rw [if_neg q] at hi; cases hi
    rw [if_pos hq] at hi
    obtain ⟨e, rfl⟩ : ∃ e, d = e + 1 := ⟨d - 1, by omega⟩
    have hi : 21 + e = i := by have := Option.some.inj hi; omega
    subst hi
    have he : e < n := by omega
    have hpv : ∀ {σ2 μ2 : mS}, R0 σ2 μ2 n h → mR σ2 (21 + e) 7 = (if h < e then some (20 + e) else none) := fun R2 => by
      obtain ⟨l1, l2, l3, l4, l5, l6, l7, l8⟩ := R2.2.2.2.2.2.2.2
      by_cases hhe : h < e
      · rw [if_pos hhe]; exact l6 e hhe he
      · have : e = h := by omega
        subst this
        rw [if_neg hhe]; exact l7 he
    have e1 : dnL eJdg e (eJdg μ' e) = dnL eJdg n μ := e1
    have keep : ¬ (mI μ' 15 e = 2 ∧ mI μ' 24 e = 0) → ∃ k, k < e + 1 ∧ ∃ d' μ'', h ≤ d' ∧ d' ≤ n ∧ k = d' ∧ mR σ' (21 + e) 7 = (if h < d' then some (20 + d') else none) ∧ R0 σ' μ'' n h ∧ dnL eJdg d' μ'' = dnL eJdg n μ := fun hne => by
      rw [show eJdg μ' e = μ' from if_neg hne] at e1
      exact ⟨e, by omega, e, μ', by omega, by omega, rfl, hpv R', R', e1⟩
    refine ⟨R'.mo he, ?_⟩
    rintro _ rfl
    rw [R'.st he]
    refine ⟨fun hne => ?_, fun hst => ?_⟩
    · rintro _ rfl
      exact keep (fun q => hne q.1)
    · rw [(R'.2.2.2.2.2.2.1 e he hst).2.2.2.1]
      refine ⟨fun hne => ?_, fun hw => ?_⟩
      · rintro _ rfl
        exact keep (fun q => hne q.2)
      · obtain ⟨k, r, hk, hr, h22, h20, hqa⟩ := wM_asked R'.1 he hst
        have h11 := (R'.2.2.2.2.2.2.1 e he hst).2.2.1 k r hk hr h22 h20
        refine ⟨fun q => absurd (h11.symm.trans q) (by simp), fun i hi => ?_⟩
        rw [← hi]
        rw [show eJdg μ' e = _ from if_pos ⟨hst, hw⟩] at e1
        refine s_judge R' he hst (fun σ2 R2 => ⟨R2.mo he, ?_⟩)
        rintro _ rfl
        exact ⟨e, by omega, e, _, by omega, by omega, rfl, hpv R2, R2, e1⟩
