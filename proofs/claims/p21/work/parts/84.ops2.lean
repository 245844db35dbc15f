theorem cz_0 {μ : mS} {n : Nat} (C : wCl μ n) : CZ 0 n (sI μ 0 0 0) := by
  refine ⟨fun c p hc hp hpar hov => ?_, nIi⟩
  rw [oI (by omega)] at hpar hov ⊢
  exact C c p hc hp hpar hov
theorem fin2 {σ μ : mS} {n h : Nat} {r r2 : Int32} (R : R0 σ μ n h) (C : CZ 0 n μ) (hv : r = r2) : mI μ 0 0 = 0 ∧ ((0 : Int32) = 0 → r.toInt64 = r2.toInt64) ∧ rel σ μ := ⟨C.2, fun _ => by rw [hv], n, h, R, C.1⟩
