theorem rel_0 {σ μ : mS} {n h : Nat} {v : Int32} (R : R0 σ μ n h) (C : wCl μ n) : rel σ (sI μ 0 0 v) := by
  refine ⟨n, h, R0_mu R (Or.inr ⟨rfl, rfl⟩), fun c p hc hp hpar hov => ?_⟩
  rw [oI (by omega)] at hpar hov ⊢
  exact C c p hc hp hpar hov
theorem fin0 {σ μ : mS} {n h : Nat} {r r2 : Int32} (R : R0 σ μ n h) (C : wCl μ n) (hv : r = r2) : mI (sI μ 0 0 0) 0 0 = 0 ∧ ((0 : Int32) = 0 → r.toInt64 = r2.toInt64) ∧ rel σ (sI μ 0 0 0) := ⟨nIi, fun _ => by rw [hv], rel_0 R C⟩
theorem fin1 {σ μ : mS} {n h : Nat} {k : Int32} {x y : Int64} (R : R0 σ μ n h) (C : wCl μ n) (hk : k ≠ 0) : mI (sI μ 0 0 k) 0 0 = k ∧ (k = 0 → x = y) ∧ rel σ (sI μ 0 0 k) := ⟨nIi, fun q => absurd q hk, rel_0 R C⟩
theorem R0.N {σ μ : mS} {n h : Nat} (R : R0 σ μ n h) : mN σ ≤ 221 := by have := R.n2; have := R.2.1.1; omega
theorem s_callAt {σ μ : mS} {n h b : Nat} {y : Int32} {Q : Option Nat → mS → Prop} {X : String → mS → Prop} (R : R0 σ μ n h) (hb : 1 ≤ b) (h1 : ∀ c, c < n → y = nI c → Q (some (21 + c)) σ) (h0 : (∀ c, c < n → y ≠ nI c) → X xIO σ) : w_X2_callAt y σ b Q X := by
  have hn := R.n2
  unfold w_X2_callAt
  refine ⟨fun r u σ1 => u = 0 ∧ σ1 = σ ∧ ((r = none ∧ ∀ c, c < n → y ≠ nI c) ∨ ∃ c, c < n ∧ y = nI c ∧ r = some (21 + c)), ?_, fun u σ1 => u = 0 ∧ σ1 = σ ∧ ∀ c, c < n → y ≠ nI c, ?_, ?_, ?_⟩
  · intro r u σ1 ⟨hu, hσ, hP⟩
    rw [hu, hσ]
    refine ⟨fun hr => ⟨by omega, ?_⟩, fun i hi => ?_⟩
    · rcases hP with ⟨-, h2⟩ | ⟨c, h2, h3, h4⟩
      · exact h0 h2
      · rw [h4] at hr; cases hr
    · rcases hP with ⟨h2, -⟩ | ⟨c, h2, h3, h4⟩
      · rw [h2] at hi; cases hi
      · rw [h4] at hi; cases hi; exact h1 c h2 h3
  · intro u σ1 ⟨hu, hσ, hP⟩
    exact ⟨hu, hσ, Or.inl ⟨rfl, hP⟩⟩
  · intro hneg
    exact ⟨rfl, rfl, fun c hc q => nI_pos (n := c) (by omega) (by rw [← q]; exact hneg)⟩
  · intro hnn
    refine ⟨fun hge => ⟨rfl, rfl, fun c hc q => nI_ge (a := c) (b := 200) (by omega) (by omega) (by rw [← q]; exact hge)⟩, fun hlt => ?_⟩
    obtain ⟨j, hj, hyj⟩ := nI_of hnn
    have hj2 : j < 200 := Classical.byContradiction fun q => hlt (by rw [hyj]; exact nI_le (a := 200) (by omega) hj)
    refine ⟨j, hyj, hj2, ?_⟩
    rintro _ rfl
    refine ⟨rfl, rfl, ?_⟩
    by_cases hjn : j < n
    · exact Or.inr ⟨j, hjn, hyj, (R.2.2.2.2.1 j hjn).1⟩
    · refine Or.inl ⟨R.2.1.2.2.2.2.2 j (by omega) hj2, fun c hc q => ?_⟩
      have := i_inj (by omega) (by omega) (hyj.symm.trans q)
      omega
theorem s_serviceAt {σ μ : mS} {n h b : Nat} {y : Int32} {Q : Option Nat → mS → Prop} {X : String → mS → Prop} (R : R0 σ μ n h) (hb : 1 ≤ b) (h1 : ∀ s, s < 6 → y = nI s → Q (some (3 + 3 * s)) σ) (h0 : (∀ s, s < 6 → y ≠ nI s) → X xIO σ) : w_X2_serviceAt y σ b Q X := by
  unfold w_X2_serviceAt
  refine ⟨fun r u σ1 => u = 0 ∧ σ1 = σ ∧ ((r = none ∧ ∀ c, c < 6 → y ≠ nI c) ∨ ∃ c, c < 6 ∧ y = nI c ∧ r = some (3 + 3 * c)), ?_, fun u σ1 => u = 0 ∧ σ1 = σ ∧ ∀ c, c < 6 → y ≠ nI c, ?_, ?_, ?_⟩
  · intro r u σ1 ⟨hu, hσ, hP⟩
    rw [hu, hσ]
    refine ⟨fun hr => ⟨by omega, ?_⟩, fun i hi => ?_⟩
    · rcases hP with ⟨-, h2⟩ | ⟨c, h2, h3, h4⟩
      · exact h0 h2
      · rw [h4] at hr; cases hr
    · rcases hP with ⟨h2, -⟩ | ⟨c, h2, h3, h4⟩
      · rw [h2] at hi; cases hi
      · rw [h4] at hi; cases hi; exact h1 c h2 h3
  · intro u σ1 ⟨hu, hσ, hP⟩
    exact ⟨hu, hσ, Or.inl ⟨rfl, hP⟩⟩
  · intro hneg
    exact ⟨rfl, rfl, fun c hc q => nI_pos (n := c) (by omega) (by rw [← q]; exact hneg)⟩
  · intro hnn
    refine ⟨fun hge => ⟨rfl, rfl, fun c hc q => nI_ge (a := c) (b := 6) (by omega) (by omega) (by rw [← q]; exact hge)⟩, fun hlt => ?_⟩
    obtain ⟨j, hj, hyj⟩ := nI_of hnn
    have hj2 : j < 6 := Classical.byContradiction fun q => hlt (by rw [hyj]; exact nI_le (a := 6) (by omega) hj)
    refine ⟨j, hyj, hj2, ?_⟩
    rintro _ rfl
    exact ⟨rfl, rfl, Or.inr ⟨j, hj2, hyj, (R.2.2.1 j hj2).1⟩⟩
theorem s_range {σ : mS} {b : Nat} {y lo hi : Int32} {Q : mS → Prop} {X : String → mS → Prop} (hb : 1 ≤ b) (h1 : ¬ y < lo → ¬ hi < y → Q σ) (h0 : y < lo ∨ hi < y → X xIA σ) : w_X2_checkRange y lo hi σ b Q X := by
  unfold w_X2_checkRange
  exact ⟨fun q => ⟨by omega, h0 (Or.inl q)⟩, fun q => ⟨fun q2 => h1 q (Int32.not_lt.mpr q2), fun q2 => ⟨by omega, h0 (Or.inr (Int32.not_le.mp q2))⟩⟩⟩
