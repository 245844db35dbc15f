theorem wM_n {μ : mS} {n d : Nat} (h : wM μ n) (hd : d < 2 ^ 31) : mI μ 0 13 ≤ nI d ↔ n ≤ d := by
  rw [h.2.2.1]
  exact nI_leI (by have := h.2.2.2.1; omega) hd
theorem wM_svc {μ : mS} {n c : Nat} (h : wM μ n) (hc : c < n) : ∃ s, s < 6 ∧ mI μ 12 c = nI s := (h.2.2.2.2.2.1 c hc).1
theorem wM_par {μ : mS} {n c : Nat} (h : wM μ n) (hc : c < n) : mI μ 14 c = -1 ∨ ∃ p, p < c ∧ mI μ 14 c = nI p := (h.2.2.2.2.2.1 c hc).2.1
theorem wM_loop {n : Nat} : ∀ (k c : Nat) (μ : mS), wM μ n → c + k ≤ n → wM (eLoop k c μ) n := by
  intro k
  induction k with
  | zero => intro c μ h _; exact h
  | succ k ih => intro c μ h hk; exact ih (c + 1) _ (wM_step h (by omega)) (by omega)
theorem wM_fin {μ : mS} {n c w : Nat} (h : wM μ n) (hc : c < n) (hw3 : 3 ≤ w) (hw : w < 8) : wM (eFin μ c w) n := by
  unfold eFin
  rw [qN_e h]
  exact wM_loop _ _ _ (wM_close h hc hw3 hw) (by omega)
theorem eFin_o {μ : mS} {c w a b : Nat} (h : a ≠ 15) (h2 : a ≠ 17) (h3 : a ≠ 9) (h4 : a ≠ 10) : mI (eFin μ c w) a b = mI μ a b := by
  unfold eFin
  rw [eLoop_o h h2, eC_o (by omega) (by omega) (by omega)]
