theorem eStep_lt {μ : mS} {c a b : Nat} (h : b < c) : mI (eStep μ c) a b = mI μ a b := by
  unfold eStep
  split
  · unfold eEnd; rw [oI (by omega), oI (by omega)]
  · rfl
theorem eLoop_lt {a b : Nat} : ∀ (k c : Nat) (μ : mS), b < c → mI (eLoop k c μ) a b = mI μ a b := by
  intro k
  induction k with
  | zero => intro c μ _; rfl
  | succ k ih => intro c μ h; exact (ih (c + 1) (eStep μ c) (by omega)).trans (eStep_lt h)
theorem eFin_self {μ : mS} {c w : Nat} : mI (eFin μ c w) 15 c = nI w := by
  unfold eFin
  rw [eLoop_lt _ _ _ (by omega), eC_15]
theorem eFin_lt {μ : mS} {c w b : Nat} (h : b < c) : mI (eFin μ c w) 15 b = mI μ 15 b := by
  unfold eFin
  rw [eLoop_lt _ _ _ (by omega), eC_o (by omega) (by omega) (by omega)]
theorem i_nlt3 {w : Nat} (h : 3 ≤ w) (h2 : w < 200) : ¬ nI w < 3 := fun q => by have := (i_lt3 h2).mp q; omega
theorem eStep_ov {μ : mS} {c d : Nat} (h : ¬ mI μ 15 d < 3) : ¬ mI (eStep μ c) 15 d < 3 := by
  unfold eStep
  split
  · unfold eEnd
    by_cases hd : d = c
    · subst hd; rw [oI (by omega), nIi]; exact i_nlt3 (by omega) (by omega)
    · rw [oI (by omega), oI (by omega)]; exact h
  · exact h
theorem eLoop_ov {d : Nat} : ∀ (k c : Nat) (μ : mS), ¬ mI μ 15 d < 3 → ¬ mI (eLoop k c μ) 15 d < 3 := by
  intro k
  induction k with
  | zero => intro c μ h; exact h
  | succ k ih => intro c μ h; exact ih (c + 1) _ (eStep_ov h)
theorem eFin_ov {μ : mS} {c w d : Nat} (hw3 : 3 ≤ w) (hw : w < 8) (h : ¬ mI μ 15 d < 3) : ¬ mI (eFin μ c w) 15 d < 3 := by
  unfold eFin
  refine eLoop_ov _ _ _ ?_
  by_cases hd : d = c
  · subst hd; rw [eC_15]; exact i_nlt3 hw3 (by omega)
  · rw [eC_o (by omega) (by omega) (by omega)]; exact h
theorem eEnd_cm {μ : mS} {a b c w : Nat} {v : Int32} (ha : a = 22 ∨ a = 23) : eEnd (sI μ a b v) c w = sI (eEnd μ c w) a b v := by
  unfold eEnd
  rw [oI (by omega), sI_cm (i := a) (i' := 15) (by omega), sI_cm (i := a) (i' := 17) (by omega)]
theorem eTok_cm {μ : mS} {a b s : Nat} {v : Int32} (ha : a = 22 ∨ a = 23) : eTok (sI μ a b v) s = sI (eTok μ s) a b v := by
  unfold eTok
  rw [oI (by omega), sI_cm (i := a) (i' := 9) (by omega), sI_cm (i := a) (i' := 10) (by omega)]
theorem eClose_cm {μ : mS} {a b c w : Nat} {v : Int32} (ha : a = 22 ∨ a = 23) : eClose (sI μ a b v) c w = sI (eClose μ c w) a b v := by
  unfold eClose
  rw [eEnd_cm ha]
  split
  · rw [eTok_cm ha]; unfold qS; rw [oI (by omega)]
  · rfl
theorem eStep_cm {μ : mS} {a b c : Nat} {v : Int32} (ha : a = 22 ∨ a = 23) : eStep (sI μ a b v) c = sI (eStep μ c) a b v := by
  have hq : eCond (sI μ a b v) c ↔ eCond μ c := by
    unfold eCond qP
    rw [oI (by omega), oI (by omega), oI (by omega)]
  unfold eStep
  by_cases h : eCond μ c
  · rw [if_pos h, if_pos (hq.mpr h), eEnd_cm ha]
  · rw [if_neg h, if_neg (fun q => h (hq.mp q))]
theorem eLoop_cm {a b : Nat} {v : Int32} (ha : a = 22 ∨ a = 23) : ∀ (k c : Nat) (μ : mS), eLoop k c (sI μ a b v) = sI (eLoop k c μ) a b v := by
  intro k
  induction k with
  | zero => intro c μ; rfl
  | succ k ih => intro c μ; exact (congrArg (eLoop k (c + 1)) (eStep_cm ha)).trans (ih (c + 1) (eStep μ c))
theorem eFin_cm {μ : mS} {a b c w : Nat} {v : Int32} (ha : a = 22 ∨ a = 23) : eFin (sI μ a b v) c w = sI (eFin μ c w) a b v := by
  unfold eFin
  rw [show qN (sI μ a b v) = qN μ from by unfold qN; rw [oI (by omega)], eClose_cm ha, eLoop_cm ha]
/-- a place of a call that doesn't ask -/
theorem wM_22 {μ : mS} {n p : Nat} {v : Int32} (h : wM μ n) (hp : mI μ 15 p ≠ 2) : wM (sI μ 22 p v) n := by
  obtain ⟨h1, h2, h3, h4, h5, h6, h7, h8⟩ := h
  refine ⟨h1, h2, ?_, h4, ?_, ?_, ?_, ?_⟩
  · simp (disch := omega) only [oI]; exact h3
  · intro s hs
    have := h5 s hs
    simp (disch := omega) only [wS, oI]; exact this
  · intro c hc
    have := h6 c hc
    simp (disch := omega) only [wC, oI]; exact this
  · intro c hc hst
    rw [oI (by omega)] at hst
    have hcp : c ≠ p := fun q => hp (by rw [← q]; exact hst)
    have := h7 c hc hst
    unfold wA at this ⊢
    simp (disch := omega) only [oI]; exact this
  · intro q hq
    have := h8 q hq
    simp (disch := omega) only [oI]; exact this
/-- what the relation does not speak of: the place and the tries again of a call that doesn't ask -/
theorem R0_22 {σ μ : mS} {n h p : Nat} {v w : Int32} (R : R0 σ μ n h) (hp : mI μ 15 p ≠ 2) : R0 σ (sI (sI μ 22 p v) 23 p w) n h := by
  obtain ⟨hM, ⟨g1, g2, g3, g4, g5, g6⟩, hV, hK, hC, hO, hA, hL⟩ := R
  have f1 : ∀ s k, fK (sI (sI μ 22 p v) 23 p w) s k = fK μ s k := fun s k => fK_c (fun b => by rw [oI (by omega), oI (by omega)]) (fun b => by rw [oI (by omega), oI (by omega)])
  have f2 : ∀ q, fO (sI (sI μ 22 p v) 23 p w) q = fO μ q := fun q => fO_c (fun b => by rw [oI (by omega), oI (by omega)]) (fun b => by rw [oI (by omega), oI (by omega)])
  have f3 : fR (sI (sI μ 22 p v) 23 p w) = fR μ := fR_c (fun b => by rw [oI (by omega), oI (by omega)]) (fun b => by rw [oI (by omega), oI (by omega)])
  refine ⟨wM_ir (wM_22 hM hp) (by unfold irr; omega), ⟨g1, g2, g3, by rw [oI (by omega), oI (by omega)]; exact g4, by rw [f3]; exact g5, g6⟩, fun s hs => ?_, fun s hs k hk => by rw [f1]; exact hK s hs k hk, fun c hc => ?_, fun q hq => ?_, fun q hq hst => ?_, ?_⟩
  · have := hV s hs
    unfold rV at this ⊢
    simp (disch := omega) only [oI]; exact this
  · have := hC c hc
    unfold rC at this ⊢
    simp (disch := omega) only [oI]; exact this
  · have := hO q hq
    unfold rO at this ⊢
    rw [f2]
    simp (disch := omega) only [oI]; exact this
  · rw [oI (by omega), oI (by omega)] at hst
    have hqp : q ≠ p := fun z => hp (by rw [← z]; exact hst)
    have := hA q hq hst
    have f4 : fT (sI (sI μ 22 p v) 23 p w) q = fT μ q := fT_c (fun b => by rw [oI (by omega), oI (by omega)]) (fun b => by rw [oI (by omega), oI (by omega)]) (by rw [oI (by omega), oI (by omega)])
    rw [f4]
    simp (disch := omega) only [oI, qTry] at this ⊢; exact this
  · unfold rL at hL ⊢
    simp (disch := omega) only [oI]; exact hL
