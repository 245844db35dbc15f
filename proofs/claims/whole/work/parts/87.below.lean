/-! what is below a call -/
def bB (μ : mS) (t : Nat) : Nat → Nat → Bool
  | 0, _ => false
  | k + 1, c => if mI μ 14 c = -1 then false else (decide (qP μ c = t) || bB μ t k (qP μ c))
theorem bB_fuel {μ : mS} {n t : Nat} (h : wM μ n) : ∀ (k k' c : Nat), c < n → c < k → c < k' → bB μ t k c = bB μ t k' c := by
  intro k
  induction k with
  | zero => intro k' c _ h1; omega
  | succ k ih =>
    intro k' c hc h1 h2
    obtain ⟨k2, rfl⟩ : ∃ k2, k' = k2 + 1 := ⟨k' - 1, by omega⟩
    have hn := h.2.2.2.1
    rcases wM_par h hc with hp | ⟨p, hp, hpar⟩
    · unfold bB; rw [if_pos hp, if_pos hp]
    · unfold bB
      rw [qP_e hpar (by omega), ih k2 p (by omega) (by omega) (by omega)]
abbrev belQ (μ : mS) (t c : Nat) : Bool := bB μ t 200 c
theorem bel_r {μ : mS} {t c : Nat} (hp : mI μ 14 c = -1) : belQ μ t c = false := by
  show bB μ t 200 c = false
  unfold bB; rw [if_pos hp]
theorem bel_p {μ : mS} {n t c p : Nat} (h : wM μ n) (hc : c < n) (hp : p < c) (hpar : mI μ 14 c = nI p) : belQ μ t c = (decide (p = t) || belQ μ t p) := by
  have hn := h.2.2.2.1
  show bB μ t 200 c = (decide (p = t) || bB μ t 200 p)
  rw [bB_fuel h 200 199 p (by omega) (by omega) (by omega)]
  show (if mI μ 14 c = -1 then false else (decide (qP μ c = t) || bB μ t 199 (qP μ c))) = _
  rw [if_neg (by rw [hpar]; exact i_ne1 (by omega)), qP_e hpar (by omega)]
theorem bB_lt {μ : mS} {n t : Nat} (h : wM μ n) : ∀ (k c : Nat), c < n → bB μ t k c = true → t < c := by
  intro k
  induction k with
  | zero => intro c _ q; unfold bB at q; cases q
  | succ k ih =>
    intro c hc q
    have hn := h.2.2.2.1
    unfold bB at q
    rcases wM_par h hc with hp | ⟨p, hp, hpar⟩
    · rw [if_pos hp] at q; cases q
    · rw [if_neg (by rw [hpar]; exact i_ne1 (by omega)), qP_e hpar (by omega)] at q
      rcases Bool.or_eq_true_iff.mp q with q | q
      · have := of_decide_eq_true q; omega
      · have := ih p (by omega) q; omega
theorem bB_over {μ : mS} {n t : Nat} (h : wM μ n) (C : wCl μ n) (ht : t < n) (hov : ¬ mI μ 15 t < 3) : ∀ (k c : Nat), c < n → bB μ t k c = true → ¬ mI μ 15 c < 3 := by
  intro k
  induction k with
  | zero => intro c _ q; unfold bB at q; cases q
  | succ k ih =>
    intro c hc q
    have hn := h.2.2.2.1
    unfold bB at q
    rcases wM_par h hc with hp | ⟨p, hp, hpar⟩
    · rw [if_pos hp] at q; cases q
    · rw [if_neg (by rw [hpar]; exact i_ne1 (by omega)), qP_e hpar (by omega)] at q
      rcases Bool.or_eq_true_iff.mp q with q | q
      · rw [of_decide_eq_true q] at hpar
        exact C c t hc ht hpar hov
      · exact C c p hc (by omega) hpar (ih p (by omega) q)
abbrev fB (μ : mS) (t : Nat) : Nat → Bool := fun c => decide (mI μ 15 c < 3) && belQ μ t c
theorem s_isBelow {σ μ : mS} {n h c t : Nat} {Q : Int32 → mS → Prop} (R : R0 σ μ n h) (hc : c < n) (h1 : belQ μ t c = true → Q 1 σ) (h0 : belQ μ t c = false → Q 0 σ) : w_X0_isBelow (21 + c) (some (21 + t)) σ Q := by
  have hn := R.n2
  have next : ∀ d, d < n → belQ μ t c = belQ μ t d → (mR σ (21 + d) 2 = none ∧ belQ μ t c = false) ∨ ∃ p, p < d ∧ mR σ (21 + d) 2 = some (21 + p) ∧ belQ μ t c = (decide (p = t) || belQ μ t p) := fun d hd hb => by
    obtain ⟨-, -, -, v4, v5, -⟩ := R.2.2.2.2.1 d hd
    rcases wM_par R.1 hd with hp | ⟨p, hp, hpar⟩
    · exact Or.inl ⟨v4 hp, by rw [hb]; exact bel_r hp⟩
    · exact Or.inr ⟨p, hp, v5 p hp hpar, by rw [hb]; exact bel_p R.1 hd hp hpar⟩
  unfold w_X0_isBelow
  refine ⟨R.mo hc, ?_⟩
  rintro _ rfl
  refine ⟨fun k r σ' => σ' = σ ∧ ((r = none ∧ belQ μ t c = false) ∨ ∃ p, p < k ∧ p < n ∧ r = some (21 + p) ∧ belQ μ t c = (decide (p = t) || belQ μ t p)), ?_, n, rfl, ?_⟩
  · intro k r σ' ⟨hσ, hP⟩
    rw [hσ]
    refine ⟨fun hr => ?_, fun i hi => ?_⟩
    · rcases hP with ⟨-, hb⟩ | ⟨p, -, -, hr2, -⟩
      · exact h0 hb
      · rw [hr2] at hr; cases hr
    · rcases hP with ⟨hr2, -⟩ | ⟨p, hpk, hpn, hr2, hb⟩
      · rw [hr2] at hi; cases hi
      · have hip : 21 + p = i := Option.some.inj (hr2.symm.trans hi)
        rw [← hip]
        refine ⟨fun hne => ⟨R.mo hpn, ?_⟩, fun he => ?_⟩
        · have hpt : p ≠ t := fun q => hne (by rw [q])
          rintro _ rfl
          rw [decide_eq_false hpt, Bool.false_or] at hb
          rcases next p hpn hb with ⟨h2, h3⟩ | ⟨p2, h2, h3, h4⟩
          · exact ⟨p, hpk, rfl, Or.inl ⟨h2, h3⟩⟩
          · exact ⟨p, hpk, rfl, Or.inr ⟨p2, h2, by omega, h3, h4⟩⟩
        · have hpt : p = t := by have := Option.some.inj he; omega
          rw [decide_eq_true hpt, Bool.true_or] at hb
          exact h1 hb
  · rcases next c hc rfl with ⟨h2, h3⟩ | ⟨p2, h2, h3, h4⟩
    · exact Or.inl ⟨h2, h3⟩
    · exact Or.inr ⟨p2, by omega, by omega, h3, h4⟩
theorem m_isBelow {μ : mS} {n c t : Nat} {Q : Int32 → mS → Prop} (h : wM μ n) (hc : c < n) (ht : t < n) (h1 : belQ μ t c = true → Q 1 μ) (h0 : belQ μ t c = false → Q 0 μ) : w_X3_isBelow (nI c) (nI t) μ Q := by
  have hn := h.2.2.2.1
  have next : ∀ d, d < n → belQ μ t c = belQ μ t d → (mI μ 14 d = -1 ∧ belQ μ t c = false) ∨ ∃ p, p < d ∧ mI μ 14 d = nI p ∧ belQ μ t c = (decide (p = t) || belQ μ t p) := fun d hd hb => by
    rcases wM_par h hd with hp | ⟨p, hp, hpar⟩
    · exact Or.inl ⟨hp, by rw [hb]; exact bel_r hp⟩
    · exact Or.inr ⟨p, hp, hpar, by rw [hb]; exact bel_p h hd hp hpar⟩
  unfold w_X3_isBelow
  refine ⟨c, rfl, by omega, fun k x μ' => μ' = μ ∧ ((x = -1 ∧ belQ μ t c = false) ∨ ∃ p, p < k ∧ p < n ∧ x = nI p ∧ belQ μ t c = (decide (p = t) || belQ μ t p)), ?_, n, rfl, ?_⟩
  · intro k x μ' ⟨hμ, hP⟩
    rw [hμ]
    rcases hP with ⟨hx, hb⟩ | ⟨p, hpk, hpn, hx, hb⟩
    · rw [hx]
      refine ⟨fun _ => ⟨fun _ => h0 hb, fun q => absurd q (i_m1 (by omega))⟩, fun q => absurd ?_ q⟩
      rw [Int32.le_iff_toInt_le, nI_toInt (by omega)]
      show (-1 : Int) ≤ _
      omega
    · rw [hx]
      refine ⟨fun hle => ⟨fun hne => h0 ?_, fun he => h1 ?_⟩, fun hgt => ⟨p, rfl, by omega, p, hpk, rfl, ?_⟩⟩
      · have hpt : p ≤ t := (nI_leI (by omega) (by omega)).mp hle
        have hne2 : p ≠ t := fun q => hne (by rw [q])
        rw [hb, decide_eq_false hne2, Bool.false_or]
        cases hq : belQ μ t p with
        | false => rfl
        | true => have := bB_lt h 200 p hpn hq; omega
      · rw [hb, decide_eq_true (i_inj (by omega) (by omega) he), Bool.true_or]
      · have hpt : ¬ p ≤ t := fun q => hgt ((nI_leI (by omega) (by omega)).mpr q)
        rw [decide_eq_false (by omega), Bool.false_or] at hb
        rcases next p hpn hb with ⟨h2, h3⟩ | ⟨p2, h2, h3, h4⟩
        · exact Or.inl ⟨h2, h3⟩
        · exact Or.inr ⟨p2, h2, by omega, h3, h4⟩
  · rcases next c hc rfl with ⟨h2, h3⟩ | ⟨p2, h2, h3, h4⟩
    · exact Or.inl ⟨h2, h3⟩
    · exact Or.inr ⟨p2, by omega, by omega, h3, h4⟩
theorem R0.nxt2 {σ μ : mS} {n h c : Nat} (R : R0 σ μ n h) (hc : c < n) : (mR σ (21 + c) 8 = none ∧ (c + 1 = n ∨ c < h)) ∨ (mR σ (21 + c) 8 = some (21 + (c + 1)) ∧ c + 1 < n) := by
  obtain ⟨l1, l2, l3, l4, l5, l6, l7, l8⟩ := R.2.2.2.2.2.2.2
  by_cases hch : c < h
  · rcases l8 c hch with q | ⟨q, q2⟩
    · exact Or.inl ⟨q, Or.inr hch⟩
    · exact Or.inr ⟨by rw [q]; congr 1; omega, q2⟩
  · rw [l5 c (by omega) hc]
    by_cases hcn : c + 1 < n
    · exact Or.inr ⟨nx_t hcn, hcn⟩
    · exact Or.inl ⟨nx_f hcn, Or.inl (by omega)⟩
theorem m_below {μ : mS} {n t : Nat} {Q : Int32 → mS → Prop} (h : wM μ n) (ht : t < n) (hQ : Q (nI (cnt n (fB (sI μ 0 0 0) t))) (sI μ 0 0 0)) : w_X3_below (nI t) μ Q := by
  have hn := h.2.2.2.1
  have hM : wM (sI μ 0 0 0) n := wM_ir h (by unfold irr; omega)
  unfold w_X3_below
  refine m_asks1 h ht ⟨fun q => absurd q (by decide), fun _ => ?_⟩
  generalize sI μ 0 0 0 = μ0 at hM hQ ⊢
  have z0 : cnt (t + 1) (fB μ0 t) = 0 := cnt_zero fun c hc => by
    cases hq : belQ μ0 t c with
    | false => simp [fB, hq]
    | true => have := bB_lt hM 200 c (by omega) hq; omega
  refine ⟨fun k x2 x3 μ' => ∃ d, x3 = nI d ∧ d ≤ n ∧ k = n - d ∧ μ' = μ0 ∧ x2 = nI (cnt d (fB μ0 t)), ?_, n - (t + 1), t + 1, nI_1 t, by omega, rfl, rfl, by rw [z0]; rfl⟩
  intro k x2 x3 μ' ⟨d, hx, hd, hk, hμ, hx2⟩
  rw [hx, hk, hμ, hx2]
  refine ⟨fun hl => ?_, fun hl => ?_⟩
  · have h1 := (wM_n hM (by omega)).mp hl
    have : d = n := by omega
    rw [this]; exact hQ
  · have hdn : d < n := Nat.not_le.mp fun q => hl ((wM_n hM (by omega)).mpr q)
    refine m_isOver (by omega) (fun ho => ⟨fun q => absurd rfl q, fun _ => m_isBelow hM hdn ht (fun hb => ⟨fun q => absurd q (by decide), fun _ => ⟨n - (d + 1), by omega, d + 1, nI_1 d, by omega, rfl, rfl, ?_⟩⟩) (fun hb => ⟨fun _ => ⟨n - (d + 1), by omega, d + 1, nI_1 d, by omega, rfl, rfl, ?_⟩, fun q => absurd rfl q⟩)⟩) (fun ho => ⟨fun _ => ⟨n - (d + 1), by omega, d + 1, nI_1 d, by omega, rfl, rfl, ?_⟩, fun q => absurd q (by decide)⟩)
    · rw [cnt_succ, if_pos (by simp [fB, hb, ho])]; exact nI_1 _
    · rw [cnt_succ, if_neg (by simp [fB, hb]), Int32.add_zero]; rfl
    · rw [cnt_succ, if_neg (by simp [fB, ho]), Int32.add_zero]; rfl
theorem o_below : lO_below rel := by
  rintro σ μ ⟨n, h, R, C⟩ y x0
  have hn := R.n2
  refine ⟨1, mN σ, by omega, Nat.le_refl _, R.N, ?_⟩
  unfold w_X2_below
  refine ⟨1, by omega, s_callAt R (Nat.le_refl 1) (fun t ht hy => ⟨21 + t, rfl, R.mo ht, ?_⟩) (fun hno => ⟨rfl, Nat.le_refl _, ?_⟩)⟩
  · rintro _ rfl
    have z0 : ∀ d, d ≤ t + 1 → cnt d (fB μ t) = 0 := fun d hd => cnt_zero fun c hc => by
      cases hq : belQ μ t c with
      | false => simp [fB, hq]
      | true => have := bB_lt R.1 200 c (by omega) hq; omega
    have zov : ∀ d, d ≤ n → ¬ mI μ 15 t < 3 → cnt d (fB μ t) = 0 := fun d hd hov => cnt_zero fun c hc => by
      cases hq : belQ μ t c with
      | false => simp [fB, hq]
      | true => have := bB_over R.1 C ht hov 200 c (by omega) hq; simp [fB, this]
    have next : ∀ d, t ≤ d → d < n → (mR σ (21 + d) 8 = none ∧ nI (cnt (d + 1) (fB μ t)) = nI (cnt n (fB μ t))) ∨ (mR σ (21 + d) 8 = some (21 + (d + 1)) ∧ d + 1 < n) := fun d htd hd => by
      rcases R.nxt2 hd with ⟨h1, h2 | h2⟩ | h1
      · exact Or.inl ⟨h1, by rw [h2]⟩
      · have hov := R.ov t (by omega)
        exact Or.inl ⟨h1, by rw [zov (d + 1) (by omega) hov, zov n (Nat.le_refl _) hov]⟩
      · exact Or.inr h1
    refine ⟨fun k x r σ' => σ' = σ ∧ ((r = none ∧ x = nI (cnt n (fB μ t))) ∨ ∃ d, t < d ∧ d < n ∧ k = n - d ∧ r = some (21 + d) ∧ x = nI (cnt d (fB μ t))), ?_, n - (t + 1), rfl, ?_⟩
    · intro k x r σ' ⟨hσ, hP⟩
      rw [hσ]
      refine ⟨fun hr => ?_, fun i hi => ?_⟩
      · rcases hP with ⟨-, hx⟩ | ⟨d, -, -, -, hr2, -⟩
        · rw [hx]
          refine ⟨Nat.le_refl _, ?_⟩
          rw [hy]
          have hb : ∀ k c, bB (sI μ 0 0 0) t k c = bB μ t k c := fun k => by
            induction k with
            | zero => intro c; rfl
            | succ k ih =>
              intro c
              unfold bB qP
              rw [oI (by omega), ih]
          have hf : fB μ t = fB (sI μ 0 0 0) t := funext fun c => by
            show (decide (mI μ 15 c < 3) && bB μ t 200 c) = (decide (mI (sI μ 0 0 0) 15 c < 3) && bB (sI μ 0 0 0) t 200 c)
            rw [hb, oI (by omega)]
          exact m_below R.1 ht (fin0 R C (congrArg (fun f => nI (cnt n f)) hf))
        · rw [hr2] at hr; cases hr
      · rcases hP with ⟨hr2, -⟩ | ⟨d, htd, hdn, hk, hr2, hx⟩
        · rw [hr2] at hi; cases hi
        · have hid : 21 + d = i := Option.some.inj (hr2.symm.trans hi)
          rw [← hid, hk, hx]
          have go : ∀ x, x = nI (cnt (d + 1) (fB μ t)) → ∃ k', k' < n - d ∧ (σ = σ ∧ ((mR σ (21 + d) 8 = none ∧ x = nI (cnt n (fB μ t))) ∨ ∃ d', t < d' ∧ d' < n ∧ k' = n - d' ∧ mR σ (21 + d) 8 = some (21 + d') ∧ x = nI (cnt d' (fB μ t)))) := fun x hx => by
            refine ⟨n - (d + 1), by omega, rfl, ?_⟩
            rcases next d (by omega) hdn with ⟨h1, h2⟩ | ⟨h1, h2⟩
            · exact Or.inl ⟨h1, hx.trans h2⟩
            · exact Or.inr ⟨d + 1, by omega, h2, rfl, h1, hx⟩
          refine ⟨R.mo hdn, s_isOver R hdn (fun ho => ⟨fun q => absurd rfl q, fun _ => ⟨R.mo hdn, s_isBelow R hdn (fun hb => ⟨fun q => absurd q (by decide), fun _ => ⟨R.mo hdn, ?_⟩⟩) (fun hb => ⟨fun _ => ⟨R.mo hdn, ?_⟩, fun q => absurd rfl q⟩)⟩⟩) (fun ho => ⟨fun _ => ⟨R.mo hdn, ?_⟩, fun q => absurd q (by decide)⟩)⟩
          · rintro _ rfl
            exact go _ (by rw [cnt_succ, if_pos (by simp [fB, hb, ho])]; exact nI_1 _)
          · rintro _ rfl
            exact go _ (by rw [cnt_succ, if_neg (by simp [fB, hb])]; rfl)
          · rintro _ rfl
            exact go _ (by rw [cnt_succ, if_neg (by simp [fB, ho])]; rfl)
    · rcases next t (Nat.le_refl _) ht with ⟨h1, h2⟩ | ⟨h1, h2⟩
      · refine Or.inl ⟨h1, ?_⟩
        rw [← h2, z0 (t + 1) (Nat.le_refl _)]; rfl
      · refine Or.inr ⟨t + 1, by omega, h2, rfl, h1, ?_⟩
        rw [z0 (t + 1) (Nat.le_refl _)]; rfl
  · unfold w_X3_below
    exact m_asks0 R.1 hno ⟨fun _ => fin1 R C (by decide), fun q => absurd rfl q⟩
