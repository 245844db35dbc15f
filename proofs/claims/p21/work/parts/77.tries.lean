theorem eEnd_15 {B : mS} {n w : Nat} {x y : Int32} : eEnd (sI B 15 n x) n w = eEnd (sI B 15 n y) n w := by
  unfold eEnd
  rw [sI_tw, sI_tw, oI (by omega), oI (by omega)]
theorem eFin_15 {B : mS} {n w : Nat} {x y : Int32} : eFin (sI B 15 n x) n w = eFin (sI B 15 n y) n w := by
  have h1 : eClose (sI B 15 n x) n w = eClose (sI B 15 n y) n w := by
    unfold eClose qS
    rw [eEnd_15 (x := x) (y := y), oI (by omega), oI (by omega)]
  unfold eFin qN
  rw [h1, oI (by omega), oI (by omega)]
theorem eWrk_15 {B : mS} {n : Nat} {x y : Int32} : eWrk (sI B 15 n x) n = eWrk (sI B 15 n y) n := by
  unfold eWrk qS
  simp (disch := omega) only [oI, sI_tw]
theorem born_ch {μ : mS} {n s : Nat} {dl : Int32} {par : Option Nat} (h : wM (eBorn μ n s dl par) (n + 1)) (hn : n < 200) : ∀ d, d < n + 1 → mI (eBorn μ n s dl par) 14 d ≠ nI n := fun d hd q => by
  have := wM_par_gt h hd (by omega) q
  omega
