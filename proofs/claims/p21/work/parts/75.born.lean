/-! a new call -/
def pv : Option Nat → Int32
  | none => -1
  | some p => nI p
def mfo (μ : mS) : Option Nat → Int32
  | none => 0
  | some p => mI μ 22 p
def eBn0 (μ : mS) (n : Nat) (s dl pr mf : Int32) : mS := sI (sI (sI (sI (sI (sI (sI (sI μ 0 13 (mI μ 0 13 + 1)) 12 n s) 13 n dl) 14 n pr) 18 n (mI μ 0 1)) 19 n mf) 17 n (-1)) 24 n 0
def eBorn (μ : mS) (n s : Nat) (dl : Int32) (par : Option Nat) : mS := sI (eBn0 μ n (nI s) dl (pv par) (mfo μ par)) 15 n (-1)
theorem eBn0_o {μ : mS} {n a b : Nat} {s dl pr mf : Int32} (h : ¬ ((a = 12 ∨ a = 13 ∨ a = 14 ∨ a = 17 ∨ a = 18 ∨ a = 19 ∨ a = 24) ∧ b = n)) (h2 : ¬ (a = 0 ∧ b = 13)) : mI (eBn0 μ n s dl pr mf) a b = mI μ a b := by
  unfold eBn0
  simp (disch := omega) only [oI]
theorem eBorn_o {μ : mS} {n s a b : Nat} {dl : Int32} {par : Option Nat} (h : ¬ ((a = 12 ∨ a = 13 ∨ a = 14 ∨ a = 15 ∨ a = 17 ∨ a = 18 ∨ a = 19 ∨ a = 24) ∧ b = n)) (h2 : ¬ (a = 0 ∧ b = 13)) : mI (eBorn μ n s dl par) a b = mI μ a b := by
  unfold eBorn
  rw [oI (by omega), eBn0_o (by omega) h2]
theorem eBorn_x {μ : mS} {n s : Nat} {dl : Int32} {par : Option Nat} : mI (eBorn μ n s dl par) 12 n = nI s ∧ mI (eBorn μ n s dl par) 13 n = dl ∧ mI (eBorn μ n s dl par) 14 n = pv par ∧ mI (eBorn μ n s dl par) 15 n = -1 ∧ mI (eBorn μ n s dl par) 17 n = -1 ∧ mI (eBorn μ n s dl par) 18 n = mI μ 0 1 ∧ mI (eBorn μ n s dl par) 19 n = (mfo μ par) ∧ mI (eBorn μ n s dl par) 0 13 = mI μ 0 13 + 1 := by
  unfold eBorn eBn0
  simp (disch := omega) only [oI, nIi, and_self]
theorem i_m1 {w : Nat} (h : w < 200) : ¬ (-1 : Int32) = nI w := fun q => i_ne1 (by omega) q.symm
theorem wM_born {μ : mS} {n s : Nat} {dl : Int32} {par : Option Nat} (h : wM μ n) (hn : n < 200) (hs : s < 6) (hp : ∀ p, par = some p → p < n ∧ mI μ 15 p = 2) : wM (eBorn μ n s dl par) (n + 1) := by
  obtain ⟨x12, x13, x14, x15, x17, x18, x19, x0⟩ := eBorn_x (μ := μ) (n := n) (s := s) (dl := dl) (par := par)
  have o := fun a b => eBorn_o (μ := μ) (n := n) (s := s) (dl := dl) (par := par) (a := a) (b := b)
  obtain ⟨w1, w2, w3, w4, w5, w6, w7, w8⟩ := h
  have hpv : pv par = -1 ∨ ∃ p, p < n ∧ pv par = nI p := by
    cases hpar : par with
    | none => exact Or.inl rfl
    | some p => exact Or.inr ⟨p, (hp p hpar).1, rfl⟩
  refine ⟨w1, w2, by rw [x0, w3, nI_1], by omega, fun s' hs' => ?_, fun c hc => ?_, fun p hpn hst => ?_, fun p hpn hst d hd => ?_⟩
  · have := w5 s' hs'
    unfold wS at this ⊢
    simp (disch := omega) only [o]; exact this
  · by_cases hcn : c = n
    · subst hcn
      exact ⟨⟨s, hs, x12⟩, by rw [x14]; exact hpv, Or.inl x15⟩
    · have := w6 c (by omega)
      unfold wC at this ⊢
      simp (disch := omega) only [o]; exact this
  · have hpn' : p ≠ n := fun q => by
      subst q
      rw [x15] at hst
      exact absurd hst (by decide)
    rw [o _ _ (by omega) (by omega)] at hst
    obtain ⟨k, z, a, s9, q1, q2, q3, q4, q5, q6, q7, q8, q9, q10⟩ := w7 p (by omega) hst
    refine ⟨k, z, a, s9, q1, q2, q3, q4, ?_⟩
    simp (disch := omega) only [o]
    refine ⟨q5, q6, q7, q8, q9, fun e he hpe => ?_⟩
    by_cases hen : e = n
    · subst hen
      rw [x14] at hpe
      have hpar : par = some p := by
        cases hpar : par with
        | none => rw [hpar] at hpe; exact absurd hpe (i_m1 (by omega))
        | some p' => rw [hpar] at hpe; rw [i_inj (by have := (hp p' hpar).1; omega) (by omega) hpe]
      refine ⟨k, Nat.le_refl _, ?_, fun _ => rfl⟩
      rw [x19, hpar]
      exact q5
    · rw [o _ _ (by omega) (by omega)] at hpe
      rw [o _ _ (by omega) (by omega), o _ _ (by omega) (by omega)]
      exact q10 e (by omega) hpe
  · by_cases hdn : d = n
    · subst hdn
      rw [x14]
      intro hpe
      have hpar : par = some p := by
        cases hpar : par with
        | none => rw [hpar] at hpe; exact absurd hpe (i_m1 (by omega))
        | some p' => rw [hpar] at hpe; rw [i_inj (by have := (hp p' hpar).1; omega) (by omega) hpe]
      have h2 := (hp p hpar).2
      rw [o _ _ (by have := (hp p hpar).1; omega) (by omega), h2] at hst
      exact absurd hst (by decide)
    · rw [o _ _ (by omega) (by omega)]
      by_cases hpn' : p = n
      · subst hpn'
        intro hpe
        rcases (w6 d (by omega)).2.1 with q | ⟨p', h1, h2⟩
        · rw [q] at hpe; exact absurd hpe (i_m1 (by omega))
        · have := i_inj (by omega) (by omega) (h2.symm.trans hpe); omega
      · rw [o _ _ (by omega) (by omega)] at hst
        exact w8 p (by omega) hst d (by omega)
/-- the class's new call, its parent told of it before -/
theorem R0_born {σ0 σ' μ : mS} {n h s : Nat} {dl : Int32} {par : Option Nat} (R : R0 σ0 μ n h) (hn : n < 200) (hs : s < 6) (hp : ∀ p, par = some p → p < n ∧ mI μ 15 p = 2) (hN : mN σ' = 21 + (n + 1)) (hrr : rR σ')
    (e : ∀ a b, ¬ (a = 21 + n) → ¬ (a = 0 ∧ b = 2) → ¬ (par = some (a - 21) ∧ 21 ≤ a ∧ (b = 14 ∨ b = 15 ∨ b = 17)) → mI σ' a b = mI σ0 a b)
    (ep : ∀ p, par = some p → mI σ' (21 + p) 14 = mI σ0 (21 + p) 14 + 1 ∧ mI σ' (21 + p) 15 = mI σ0 (21 + p) 15 + 1 ∧ mI σ' (21 + p) 17 = mI μ 0 1)
    (e2 : mI σ' 0 2 = nI (n + 1)) (en : mI σ' (21 + n) 0 = nI n ∧ mI σ' (21 + n) 3 = dl ∧ mI σ' (21 + n) 4 = -1 ∧ mI σ' (21 + n) 5 = -1 ∧ mI σ' (21 + n) 15 = 0)
    (hR : ∀ a b, ¬ (a = 21 + n) → ¬ (a = 0 ∧ (b = 5 ∨ b = 6)) → ¬ (a = 2 ∧ b = n) → ¬ (a = 20 + n ∧ h < n ∧ b = 8) → mR σ' a b = mR σ0 a b)
    (r2 : mR σ' 2 n = some (21 + n)) (rn : mR σ' (21 + n) 1 = some (3 + 3 * s) ∧ mR σ' (21 + n) 2 = par.map (21 + ·) ∧ mR σ' (21 + n) 7 = (if h < n then some (20 + n) else none) ∧ mR σ' (21 + n) 8 = none)
    (r5 : mR σ' 0 5 = some (21 + h)) (r6 : mR σ' 0 6 = some (21 + n)) (r8 : h < n → mR σ' (20 + n) 8 = some (21 + n)) : R0 σ' (eBorn μ n s dl par) (n + 1) h := by
  obtain ⟨x12, x13, x14, x15, x17, x18, x19, x0⟩ := eBorn_x (μ := μ) (n := n) (s := s) (dl := dl) (par := par)
  have o := fun a b => eBorn_o (μ := μ) (n := n) (s := s) (dl := dl) (par := par) (a := a) (b := b)
  have hM' := wM_born (dl := dl) R.1 hn hs hp
  obtain ⟨hM, ⟨g1, g2, g3, g4, g5, g6⟩, hV, hK, hC, hO, hA, hL⟩ := R
  have eo : ∀ a b, a < 21 → ¬ (a = 0 ∧ b = 2) → mI σ' a b = mI σ0 a b := fun a b h1 h2 => e a b (by omega) h2 (fun q => by omega)
  have ec : ∀ c b, c < n → b ≠ 14 → b ≠ 15 → b ≠ 17 → mI σ' (21 + c) b = mI σ0 (21 + c) b := fun c b h1 h2 h3 h4 => e _ b (by omega) (by omega) (fun q => by omega)
  have eq : ∀ c b, c < n → par ≠ some c → mI σ' (21 + c) b = mI σ0 (21 + c) b := fun c b h1 h2 => e _ b (by omega) (by omega) (fun q => h2 (by rw [q.1]; congr 1; omega))
  refine ⟨hM', ⟨hN, hrr, e2, ?_, ?_, fun c h1 h2 => ?_⟩, fun s' hs' => ?_, fun s' hs' k hk => ?_, fun c hc => ?_, fun p hpn hst => ?_, fun p hpn hst => ?_, ?_⟩
  · rw [eo _ _ (by omega) (by omega), o _ _ (by omega) (by omega)]; exact g4
  · rw [eo _ _ (by omega) (by omega), g5, cnt_succ, show fR (eBorn μ n s dl par) n = false from decide_eq_false (fun q => q.2 (by rw [x15]; decide))]
    rw [cnt_congr (f := fR (eBorn μ n s dl par)) (g := fR μ) (fun d hd => by simp only [fR]; rw [o _ _ (by omega) (by omega), o _ _ (by omega) (by omega)])]
    simp
  · rw [hR _ _ (by omega) (by omega) (by omega) (by omega)]; exact g6 c (by omega) h2
  · have := hV s' hs'
    unfold rV at this ⊢
    simp (disch := omega) only [eo, o, hR]; exact this
  · rw [eo _ _ (by omega) (by omega), hK s' hs' k hk, cnt_succ, show fK (eBorn μ n s dl par) s' k n = false from decide_eq_false (fun q => i_m1 (by omega) (x15.symm.trans q.2))]
    rw [cnt_congr (f := fK (eBorn μ n s dl par) s' k) (g := fK μ s' k) (fun d hd => by simp only [fK]; rw [o _ _ (by omega) (by omega), o _ _ (by omega) (by omega)])]
    simp
  · by_cases hcn : c = n
    · subst hcn
      unfold rC
      rw [x12, x13, x14, x15, x17]
      refine ⟨r2, en.1, fun s' hs' q => ?_, fun q => ?_, fun p h1 q => ?_, en.2.1, en.2.2.1, en.2.2.2.1, fun q => absurd q (by decide)⟩
      · rw [rn.1, i_inj (by omega) (by omega) q]
      · rw [rn.2.1]
        cases hpar : par with
        | none => rfl
        | some p => rw [hpar] at q; exact absurd q (i_ne1 (by have := (hp p hpar).1; omega))
      · rw [rn.2.1]
        cases hpar : par with
        | none => rw [hpar] at q; exact absurd q (i_m1 (by omega))
        | some p' => rw [hpar] at q; rw [i_inj (by have := (hp p' hpar).1; omega) (by omega) q]; rfl
    · have := hC c (by omega)
      unfold rC at this ⊢
      simp (disch := omega) only [ec, o, hR]; exact this
  · have hf : ∀ d, d < n → fO (eBorn μ n s dl par) p d = fO μ p d := fun d hd => by simp only [fO]; rw [o _ _ (by omega) (by omega), o _ _ (by omega) (by omega)]
    rw [cnt_succ, cnt_congr hf]
    by_cases hpc : p = n
    · subst hpc
      rw [en.2.2.2.2, cnt_zero (f := fO μ p) (fun d hd => decide_eq_false (fun q => by
        have := wM_par_gt hM hd (by omega) q.1
        omega)), show fO (eBorn μ p s dl par) p p = false from decide_eq_false (fun q => by
        have q1 := q.1
        rw [x14] at q1
        cases hpar : par with
        | none => rw [hpar] at q1; exact i_m1 (by omega) q1
        | some p' => rw [hpar] at q1; have h1 := (hp p' hpar).1; have := i_inj (by omega) (by omega) q1; omega)]
      rfl
    · rw [o _ _ (by omega) (by omega)] at hst
      have h0 := hO p (by omega) hst
      by_cases hpar : par = some p
      · rw [(ep p hpar).2.1, h0, show fO (eBorn μ n s dl par) p n = true from decide_eq_true ⟨by rw [x14, hpar]; rfl, by rw [x15]; decide⟩, nI_1]; rfl
      · rw [eq p _ (by omega) hpar, h0, show fO (eBorn μ n s dl par) p n = false from decide_eq_false (fun q => by
          have q1 := q.1
          rw [x14] at q1
          cases hpar' : par with
          | none => rw [hpar'] at q1; exact i_m1 (by omega) q1
          | some p' => rw [hpar'] at q1; have h1 := (hp p' hpar').1; exact hpar (by rw [hpar', i_inj (by omega) (by omega) q1]))]
        simp
  · have hpc : p ≠ n := fun q => by
      subst q
      rw [x15] at hst
      exact absurd hst (by decide)
    rw [o _ _ (by omega) (by omega)] at hst
    obtain ⟨a1, a2, a3, a4, a5, a6, a7, a8⟩ := hA p (by omega) hst
    have hT : ∀ d, d < n → (qTry (eBorn μ n s dl par) p d ↔ qTry μ p d) := fun d hd => by unfold qTry; rw [o _ _ (by omega) (by omega), o _ _ (by omega) (by omega), o _ _ (by omega) (by omega)]
    have hTn : qTry (eBorn μ n s dl par) p n ↔ par = some p := by
      unfold qTry
      rw [x14, x19, o _ _ (by omega) (by omega)]
      constructor
      · intro q
        cases hpar' : par with
        | none => rw [hpar'] at q; exact absurd q.1 (i_m1 (by omega))
        | some p' => rw [hpar'] at q; have h1 := (hp p' hpar').1; rw [i_inj (by omega) (by omega) q.1]
      · intro q
        rw [q]
        exact ⟨rfl, rfl⟩
    have hcT : cnt n (fT (eBorn μ n s dl par) p) = cnt n (fT μ p) := cnt_congr fun d hd => decide_eq_decide.mpr (hT d hd)
    refine ⟨by rw [ec p _ (by omega) (by omega) (by omega) (by omega), o _ _ (by omega) (by omega)]; exact a1, by rw [ec p _ (by omega) (by omega) (by omega) (by omega), o _ _ (by omega) (by omega)]; exact a2, ?_, by rw [ec p _ (by omega) (by omega) (by omega) (by omega), o _ _ (by omega) (by omega)]; exact a4, ?_, ?_, by rw [ec p _ (by omega) (by omega) (by omega) (by omega), o _ _ (by omega) (by omega)]; exact a7, ?_⟩
    · intro k r hk hr h1 h2
      rw [o _ _ (by omega) (by omega)] at h1 h2
      rw [hR _ _ (by omega) (by omega) (by omega) (by omega)]; exact a3 k r hk hr h1 h2
    · rw [ec p _ (by omega) (by omega) (by omega) (by omega), a5]
      refine ⟨fun q d hd h1 => ?_, fun q d hd h1 => ?_⟩
      · by_cases hdn : d = n
        · subst hdn; rw [x15]; decide
        · rw [o _ _ (by omega) (by omega)]; exact q d (by omega) ((hT d (by omega)).mp h1)
      · have := q d (by omega) ((hT d hd).mpr h1)
        rw [o _ _ (by omega) (by omega)] at this; exact this
    · rw [cnt_succ, hcT]
      by_cases hpar : par = some p
      · rw [(ep p hpar).1, a6, show fT (eBorn μ n s dl par) p n = true from decide_eq_true (hTn.mpr hpar), nI_1]; rfl
      · rw [eq p _ (by omega) hpar, a6, show fT (eBorn μ n s dl par) p n = false from decide_eq_false (fun q => hpar (hTn.mp q))]; simp
    · intro d hd h1 h2
      by_cases hpar : par = some p
      · rw [(ep p hpar).1, a6, nI_1] at h2
        have hz := i_inj (b := 1) (by have := cnt_le n (fT μ p); omega) (by omega) h2
        have hz : cnt n (fT μ p) = 0 := by omega
        rw [(ep p hpar).2.2]
        by_cases hdn : d = n
        · subst hdn; rw [x18]
        · have := cnt_of0 hz d (by omega)
          rw [show fT μ p d = true from decide_eq_true ((hT d (by omega)).mp h1)] at this
          cases this
      · rw [eq p _ (by omega) hpar] at h2 ⊢
        by_cases hdn : d = n
        · subst hdn; exact absurd (hTn.mp h1) hpar
        · rw [o _ _ (by omega) (by omega)]; exact a8 d (by omega) ((hT d (by omega)).mp h1) h2
  · obtain ⟨l1, l2, l3, l4, l5, l6, l7, l8⟩ := hL
    refine ⟨fun d hd => by rw [o _ _ (by omega) (by omega)]; exact l1 d hd, by omega, by rw [r5, nx_t (by omega)], by rw [r6, if_pos (by omega)]; exact congrArg some (by omega), fun c h1 h2 => ?_, fun c h1 h2 => ?_, fun _ => ?_, fun c hc => ?_⟩
    · by_cases hcn : c = n
      · subst hcn; rw [rn.2.2.2, nx_f (by omega)]
      · by_cases hcn1 : c + 1 = n
        · have : 21 + c = 20 + n := by omega
          rw [this, r8 (by omega), nx_t (by omega)]; congr 1; omega
        · rw [hR _ _ (by omega) (by omega) (by omega) (by omega), l5 c h1 (by omega), nx_t (by omega), nx_t (by omega)]
    · by_cases hcn : c = n
      · subst hcn; rw [rn.2.2.1, if_pos h1]
      · rw [hR _ _ (by omega) (by omega) (by omega) (by omega)]; exact l6 c h1 (by omega)
    · by_cases hhn : h = n
      · subst hhn; rw [rn.2.2.1, if_neg (by omega)]
      · rw [hR _ _ (by omega) (by omega) (by omega) (by omega)]; exact l7 (by omega)
    · rw [hR _ _ (by omega) (by omega) (by omega) (by omega)]
      rcases l8 c hc with q | ⟨q1, q2⟩
      · exact Or.inl q
      · exact Or.inr ⟨q1, by omega⟩
