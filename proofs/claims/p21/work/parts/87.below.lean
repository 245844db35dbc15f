/-! what is below a call -/
def bB (μ : mS) (t : Nat) : Nat → Nat → Bool
  | 0, _ => false
  | k + 1, c => if mI μ 14 c = -1 then false else (decide (qP μ c = t) || bB μ t k (qP μ c))
theorem bB_fuel {μ : mS} {n t : Nat} (h : wM μ n) : ∀ (k k' c : Nat), c < n → c < k → c < k' → bB μ t k c = bB μ t k' c := by
  intro k
  induction k with
  | zero => intro k' c _ h1; omega
  | succ k ih =>
    intro k' c hc h1 h2
    obtain ⟨k2, rfl⟩ : ∃ k2, k' = k2 + 1 := ⟨k' - 1, by omega⟩
    have hn := h.2.2.2.1
    rcases wM_par h hc with hp | ⟨p, hp, hpar⟩
    · unfold bB; rw [if_pos hp, if_pos hp]
    · unfold bB
      rw [qP_e hpar (by omega), ih k2 p (by omega) (by omega) (by omega)]
abbrev belQ (μ : mS) (t c : Nat) : Bool := bB μ t 200 c
theorem bel_r {μ : mS} {t c : Nat} (hp : mI μ 14 c = -1) : belQ μ t c = false := by
  show bB μ t 200 c = false
  unfold bB; rw [if_pos hp]
theorem bel_p {μ : mS} {n t c p : Nat} (h : wM μ n) (hc : c < n) (hp : p < c) (hpar : mI μ 14 c = nI p) : belQ μ t c = (decide (p = t) || belQ μ t p) := by
  have hn := h.2.2.2.1
  show bB μ t 200 c = (decide (p = t) || bB μ t 200 p)
  rw [bB_fuel h 200 199 p (by omega) (by omega) (by omega)]
  show (if mI μ 14 c = -1 then false else (decide (qP μ c = t) || bB μ t 199 (qP μ c))) = _
  rw [if_neg (by rw [hpar]; exact i_ne1 (by omega)), qP_e hpar (by omega)]
theorem bB_lt {μ : mS} {n t : Nat} (h : wM μ n) : ∀ (k c : Nat), c < n → bB μ t k c = true → t < c := by
  intro k
  induction k with
  | zero => intro c _ q; unfold bB at q; cases q
  | succ k ih =>
    intro c hc q
    have hn := h.2.2.2.1
    unfold bB at q
    rcases wM_par h hc with hp | ⟨p, hp, hpar⟩
    · rw [if_pos hp] at q; cases q
    · rw [if_neg (by rw [hpar]; exact i_ne1 (by omega)), qP_e hpar (by omega)] at q
      rcases Bool.or_eq_true_iff.mp q with q | q
      · have := of_decide_eq_true q; omega
      · have := ih p (by omega) q; omega
theorem bB_over {μ : mS} {n t : Nat} (h : wM μ n) (C : wCl μ n) (ht : t < n) (hov : ¬ mI μ 15 t < 3) : ∀ (k c : Nat), c < n → bB μ t k c = true → ¬ mI μ 15 c < 3 := by
  intro k
  induction k with
  | zero => intro c _ q; unfold bB at q; cases q
  | succ k ih =>
    intro c hc q
    have hn := h.2.2.2.1
    unfold bB at q
    rcases wM_par h hc with hp | ⟨p, hp, hpar⟩
    · rw [if_pos hp] at q; cases q
    · rw [if_neg (by rw [hpar]; exact i_ne1 (by omega)), qP_e hpar (by omega)] at q
      rcases Bool.or_eq_true_iff.mp q with q | q
      · rw [of_decide_eq_true q] at hpar
        exact C c t hc ht hpar hov
      · exact C c p hc (by omega) hpar (ih p (by omega) q)
abbrev fB (μ : mS) (t : Nat) : Nat → Bool := fun c => decide (mI μ 15 c < 3) && belQ μ t c
theorem s_isBelow {σ μ : mS} {n h c t : Nat} {Q : Int32 → mS → Prop} (R : R0 σ μ n h) (hc : c < n) (h1 : belQ μ t c = true → Q 1 σ) (h0 : belQ μ t c = false → Q 0 σ) : w_X0_isBelow (21 + c) (some (21 + t)) σ Q := by
  have hn := R.n2
  have next : ∀ d, d < n → belQ μ t c = belQ μ t d → (mR σ (21 + d) 2 = none ∧ belQ μ t c = false) ∨ ∃ p, p < d ∧ mR σ (21 + d) 2 = some (21 + p) ∧ belQ μ t c = (decide (p = t) || belQ μ t p) := fun d hd hb => by
    obtain ⟨-, -, -, v4, v5, -⟩ := R.2.2.2.2.1 d hd
    rcases wM_par R.1 hd with hp | ⟨p, hp, hpar⟩
    · exact Or.inl ⟨v4 hp, by rw [hb]; exact bel_r hp⟩
    · exact Or.inr ⟨p, hp, v5 p hp hpar, by rw [hb]; exact bel_p R.1 hd hp hpar⟩
  unfold w_X0_isBelow
  refine ⟨R.mo hc, ?_⟩
  rintro _ rfl
  refine ⟨fun k r σ' => σ' = σ ∧ ((r = none ∧ belQ μ t c = false) ∨ ∃ p, p < k ∧ p < n ∧ r = some (21 + p) ∧ belQ μ t c = (decide (p = t) || belQ μ t p)), ?_, n, rfl, ?_⟩
  · intro k r σ' ⟨hσ, hP⟩
    rw [hσ]
    refine ⟨fun hr => ?_, fun i hi => ?_⟩
    · rcases hP with ⟨-, hb⟩ | ⟨p, -, -, hr2, -⟩
      · exact h0 hb
      · rw [hr2] at hr; cases hr
    · rcases hP with ⟨hr2, -⟩ | ⟨p, hpk, hpn, hr2, hb⟩
      · rw [hr2] at hi; cases hi
      · have hip : 21 + p = i := Option.some.inj (hr2.symm.trans hi)
        rw [← hip]
        refine ⟨fun hne => ⟨R.mo hpn, ?_⟩, fun he => ?_⟩
        · have hpt : p ≠ t := fun q => hne (by rw [q])
          rintro _ rfl
          rw [decide_eq_false hpt, Bool.false_or] at hb
          rcases next p hpn hb with ⟨h2, h3⟩ | ⟨p2, h2, h3, h4⟩
          · exact ⟨p, hpk, rfl, Or.inl ⟨h2, h3⟩⟩
          · exact ⟨p, hpk, rfl, Or.inr ⟨p2, h2, by omega, h3, h4⟩⟩
        · have hpt : p = t := by have := Option.some.inj he; omega
          rw [decide_eq_true hpt, Bool.true_or] at hb
          exact h1 hb
  · rcases next c hc rfl with ⟨h2, h3⟩ | ⟨p2, h2, h3, h4⟩
    · exact Or.inl ⟨h2, h3⟩
    · exact Or.inr ⟨p2, by omega, by omega, h3, h4⟩
theorem R0.nxt2 {σ μ : mS} {n h c : Nat} (R : R0 σ μ n h) (hc : c < n) : (mR σ (21 + c) 8 = none ∧ (c + 1 = n ∨ c < h)) ∨ (mR σ (21 + c) 8 = some (21 + (c + 1)) ∧ c + 1 < n) := by
  obtain ⟨l1, l2, l3, l4, l5, l6, l7, l8⟩ := R.2.2.2.2.2.2.2
  by_cases hch : c < h
  · rcases l8 c hch with q | ⟨q, q2⟩
    · exact Or.inl ⟨q, Or.inr hch⟩
    · exact Or.inr ⟨by rw [q]; congr 1; omega, q2⟩
  · rw [l5 c (by omega) hc]
    by_cases hcn : c + 1 < n
    · exact Or.inr ⟨nx_t hcn, hcn⟩
    · exact Or.inl ⟨nx_f hcn, Or.inl (by omega)⟩
