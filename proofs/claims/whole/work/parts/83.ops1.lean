theorem rel_0 {σ μ : mS} {n h : Nat} {v : Int32} (R : R0 σ μ n h) (C : wCl μ n) : rel σ (sI μ 0 0 v) := by
  refine ⟨n, h, R0_mu R (Or.inr ⟨rfl, rfl⟩), fun c p hc hp hpar hov => ?_⟩
  rw [oI (by omega)] at hpar hov ⊢
  exact C c p hc hp hpar hov
theorem fin0 {σ μ : mS} {n h : Nat} {r r2 : Int32} (R : R0 σ μ n h) (C : wCl μ n) (hv : r = r2) : mI (sI μ 0 0 0) 0 0 = 0 ∧ ((0 : Int32) = 0 → r.toInt64 = r2.toInt64) ∧ rel σ (sI μ 0 0 0) := ⟨nIi, fun _ => by rw [hv], rel_0 R C⟩
theorem fin1 {σ μ : mS} {n h : Nat} {k : Int32} {x y : Int64} (R : R0 σ μ n h) (C : wCl μ n) (hk : k ≠ 0) : mI (sI μ 0 0 k) 0 0 = k ∧ (k = 0 → x = y) ∧ rel σ (sI μ 0 0 k) := ⟨nIi, fun q => absurd q hk, rel_0 R C⟩
theorem R0.N {σ μ : mS} {n h : Nat} (R : R0 σ μ n h) : mN σ ≤ 221 := by have := R.n2; have := R.2.1.1; omega
theorem s_callAt {σ μ : mS} {n h b : Nat} {y : Int32} {Q : Option Nat → mS → Prop} {X : String → mS → Prop} (R : R0 σ μ n h) (hb : 1 ≤ b) (h1 : ∀ c, c < n → y = nI c → Q (some (21 + c)) σ) (h0 : (∀ c, c < n → y ≠ nI c) → X xIO σ) : w_X2_callAt y σ b Q X := by
  have hn := R.n2
  unfold w_X2_callAt
  refine ⟨fun r u σ1 => u = 0 ∧ σ1 = σ ∧ ((r = none ∧ ∀ c, c < n → y ≠ nI c) ∨ ∃ c, c < n ∧ y = nI c ∧ r = some (21 + c)), ?_, fun u σ1 => u = 0 ∧ σ1 = σ ∧ ∀ c, c < n → y ≠ nI c, ?_, ?_, ?_⟩
  · intro r u σ1 ⟨hu, hσ, hP⟩
    rw [hu, hσ]
    refine ⟨fun hr => ⟨by omega, ?_⟩, fun i hi => ?_⟩
    · rcases hP with ⟨-, h2⟩ | ⟨c, h2, h3, h4⟩
      · exact h0 h2
      · rw [h4] at hr; cases hr
    · rcases hP with ⟨h2, -⟩ | ⟨c, h2, h3, h4⟩
      · rw [h2] at hi; cases hi
      · rw [h4] at hi; cases hi; exact h1 c h2 h3
  · intro u σ1 ⟨hu, hσ, hP⟩
    exact ⟨hu, hσ, Or.inl ⟨rfl, hP⟩⟩
  · intro hneg
    exact ⟨rfl, rfl, fun c hc q => nI_pos (n := c) (by omega) (by rw [← q]; exact hneg)⟩
  · intro hnn
    refine ⟨fun hge => ⟨rfl, rfl, fun c hc q => nI_ge (a := c) (b := 200) (by omega) (by omega) (by rw [← q]; exact hge)⟩, fun hlt => ?_⟩
    obtain ⟨j, hj, hyj⟩ := nI_of hnn
    have hj2 : j < 200 := Classical.byContradiction fun q => hlt (by rw [hyj]; exact nI_le (a := 200) (by omega) hj)
    refine ⟨j, hyj, hj2, ?_⟩
    rintro _ rfl
    refine ⟨rfl, rfl, ?_⟩
    by_cases hjn : j < n
    · exact Or.inr ⟨j, hjn, hyj, (R.2.2.2.2.1 j hjn).1⟩
    · refine Or.inl ⟨R.2.1.2.2.2.2.2 j (by omega) hj2, fun c hc q => ?_⟩
      have := i_inj (by omega) (by omega) (hyj.symm.trans q)
      omega
theorem s_serviceAt {σ μ : mS} {n h b : Nat} {y : Int32} {Q : Option Nat → mS → Prop} {X : String → mS → Prop} (R : R0 σ μ n h) (hb : 1 ≤ b) (h1 : ∀ s, s < 6 → y = nI s → Q (some (3 + 3 * s)) σ) (h0 : (∀ s, s < 6 → y ≠ nI s) → X xIO σ) : w_X2_serviceAt y σ b Q X := by
  unfold w_X2_serviceAt
  refine ⟨fun r u σ1 => u = 0 ∧ σ1 = σ ∧ ((r = none ∧ ∀ c, c < 6 → y ≠ nI c) ∨ ∃ c, c < 6 ∧ y = nI c ∧ r = some (3 + 3 * c)), ?_, fun u σ1 => u = 0 ∧ σ1 = σ ∧ ∀ c, c < 6 → y ≠ nI c, ?_, ?_, ?_⟩
  · intro r u σ1 ⟨hu, hσ, hP⟩
    rw [hu, hσ]
    refine ⟨fun hr => ⟨by omega, ?_⟩, fun i hi => ?_⟩
    · rcases hP with ⟨-, h2⟩ | ⟨c, h2, h3, h4⟩
      · exact h0 h2
      · rw [h4] at hr; cases hr
    · rcases hP with ⟨h2, -⟩ | ⟨c, h2, h3, h4⟩
      · rw [h2] at hi; cases hi
      · rw [h4] at hi; cases hi; exact h1 c h2 h3
  · intro u σ1 ⟨hu, hσ, hP⟩
    exact ⟨hu, hσ, Or.inl ⟨rfl, hP⟩⟩
  · intro hneg
    exact ⟨rfl, rfl, fun c hc q => nI_pos (n := c) (by omega) (by rw [← q]; exact hneg)⟩
  · intro hnn
    refine ⟨fun hge => ⟨rfl, rfl, fun c hc q => nI_ge (a := c) (b := 6) (by omega) (by omega) (by rw [← q]; exact hge)⟩, fun hlt => ?_⟩
    obtain ⟨j, hj, hyj⟩ := nI_of hnn
    have hj2 : j < 6 := Classical.byContradiction fun q => hlt (by rw [hyj]; exact nI_le (a := 6) (by omega) hj)
    refine ⟨j, hyj, hj2, ?_⟩
    rintro _ rfl
    exact ⟨rfl, rfl, Or.inr ⟨j, hj2, hyj, (R.2.2.1 j hj2).1⟩⟩
theorem s_range {σ : mS} {b : Nat} {y lo hi : Int32} {Q : mS → Prop} {X : String → mS → Prop} (hb : 1 ≤ b) (h1 : ¬ y < lo → ¬ hi < y → Q σ) (h0 : y < lo ∨ hi < y → X xIA σ) : w_X2_checkRange y lo hi σ b Q X := by
  unfold w_X2_checkRange
  exact ⟨fun q => ⟨by omega, h0 (Or.inl q)⟩, fun q => ⟨fun q2 => h1 q (Int32.not_lt.mpr q2), fun q2 => ⟨by omega, h0 (Or.inr (Int32.not_le.mp q2))⟩⟩⟩
theorem m_in {μ : mS} {y lo hi : Int32} {Q : Int32 → mS → Prop} (h1 : ¬ y < lo → ¬ hi < y → Q 1 μ) (h0 : y < lo ∨ hi < y → Q 0 μ) : w_X3_in y lo hi μ Q := by
  unfold w_X3_in
  exact ⟨fun q => h0 (Or.inl q), fun q => ⟨fun q2 => h0 (Or.inr q2), fun q2 => h1 q q2⟩⟩
theorem m_isSv1 {μ : mS} {s : Nat} {Q : Int32 → mS → Prop} (hs : s < 6) (hQ : Q 1 μ) : w_X3_isService (nI s) μ Q := by
  unfold w_X3_isService
  refine m_in (fun _ _ => hQ) (fun q => ?_)
  rcases q with q | q
  · exact absurd q (nI_pos (by omega))
  · exact absurd q (nI_nlt (b := s) (a := 5) (by omega) (by omega))
theorem m_isSv0 {μ : mS} {y : Int32} {Q : Int32 → mS → Prop} (hno : ∀ s, s < 6 → y ≠ nI s) (hQ : Q 0 μ) : w_X3_isService y μ Q := by
  unfold w_X3_isService
  refine m_in (fun q1 q2 => ?_) (fun _ => hQ)
  obtain ⟨j, hj, hyj⟩ := nI_of q1
  refine absurd hyj (hno j (Classical.byContradiction fun q => q2 ?_))
  rw [hyj]
  exact nI_lt (a := 5) (by omega) hj
theorem m_call1 {μ : mS} {n c : Nat} {Q : Int32 → mS → Prop} (h : wM μ n) (hc : c < n) (hQ : Q 1 μ) : w_X3_isCall (nI c) μ Q := by
  have hn := h.2.2.2.1
  unfold w_X3_isCall
  rw [h.2.2.1, i_sub1 (by omega)]
  refine m_in (fun _ _ => hQ) (fun q => ?_)
  rcases q with q | q
  · exact absurd q (nI_pos (by omega))
  · exact absurd q (nI_nlt (by omega) (by omega))
theorem m_call0 {μ : mS} {n : Nat} {y : Int32} {Q : Int32 → mS → Prop} (h : wM μ n) (hno : ∀ c, c < n → y ≠ nI c) (hQ : Q 0 μ) : w_X3_isCall y μ Q := by
  have hn := h.2.2.2.1
  unfold w_X3_isCall
  refine m_in (fun q1 q2 => ?_) (fun _ => hQ)
  obtain ⟨j, hj, hyj⟩ := nI_of q1
  rw [h.2.2.1, hyj] at q2
  cases n with
  | zero => exact absurd (show nI 0 - 1 < nI j from by rw [show nI 0 - 1 = (-1 : Int32) from by decide]; rw [Int32.lt_iff_toInt_lt, nI_toInt hj]; show (-1 : Int) < _; omega) q2
  | succ n =>
    rw [nI_pred] at q2
    exact absurd hyj (hno j (Classical.byContradiction fun q => q2 (nI_lt (by omega) hj)))
theorem m_asks1 {μ : mS} {n c : Nat} {Q : Int32 → mS → Prop} (h : wM μ n) (hc : c < n) (hQ : Q 1 (sI μ 0 0 0)) : w_X3_asksCall (nI c) μ Q := by
  unfold w_X3_asksCall
  refine m_call1 h hc ⟨fun xk σ1 => xk = 0 ∧ σ1 = μ, ?_, fun q => absurd q (by decide), fun _ => ⟨rfl, rfl⟩⟩
  intro xk σ1 ⟨hxk, hσ⟩
  rw [hxk, hσ]
  rintro _ rfl
  rw [nIi]
  exact ⟨fun q => absurd rfl q, fun _ => hQ⟩
theorem m_asks0 {μ : mS} {n : Nat} {y : Int32} {Q : Int32 → mS → Prop} (h : wM μ n) (hno : ∀ c, c < n → y ≠ nI c) (hQ : Q 0 (sI μ 0 0 1)) : w_X3_asksCall y μ Q := by
  unfold w_X3_asksCall
  refine m_call0 h hno ⟨fun xk σ1 => xk = 1 ∧ σ1 = μ, ?_, fun _ => ⟨rfl, rfl⟩, fun q => absurd rfl q⟩
  intro xk σ1 ⟨hxk, hσ⟩
  rw [hxk, hσ]
  rintro _ rfl
  rw [nIi]
  exact ⟨fun _ => hQ, fun q => absurd q (by decide)⟩
theorem o_time : lO_time rel := by
  rintro σ μ ⟨n, h, R, C⟩
  unfold w_X2_time w_X3_time
  refine ⟨rfl, ?_⟩
  rintro _ rfl
  exact ⟨by rw [oI (by omega)]; exact R.now, rel_0 R C⟩
theorem o_calls : lO_calls rel := by
  rintro σ μ ⟨n, h, R, C⟩
  unfold w_X2_calls w_X3_calls
  refine ⟨rfl, ?_⟩
  rintro _ rfl
  exact ⟨by rw [oI (by omega)]; exact R.2.1.2.2.1.trans R.1.2.2.1.symm, rel_0 R C⟩
theorem o_state : lO_state rel := by
  rintro σ μ ⟨n, h, R, C⟩ y x0
  have hn := R.n2
  refine ⟨1, mN σ, by omega, Nat.le_refl _, R.N, ?_⟩
  unfold w_X2_state
  refine ⟨1, by omega, s_callAt R (Nat.le_refl 1) (fun c hc hy => ⟨21 + c, rfl, R.mo hc, Nat.le_refl _, ?_⟩) (fun hno => ⟨rfl, Nat.le_refl _, ?_⟩)⟩
  · rw [hy]
    unfold w_X3_state
    refine m_asks1 R.1 hc ⟨fun q => absurd q (by decide), fun _ => ⟨c, rfl, by omega, fin0 R C ?_⟩⟩
    rw [oI (by omega)]; exact R.st hc
  · unfold w_X3_state
    exact m_asks0 R.1 hno ⟨fun _ => fin1 R C (by decide), fun q => absurd rfl q⟩
theorem o_deadline : lO_deadline rel := by
  rintro σ μ ⟨n, h, R, C⟩ y x0
  have hn := R.n2
  refine ⟨1, mN σ, by omega, Nat.le_refl _, R.N, ?_⟩
  unfold w_X2_deadline
  refine ⟨1, by omega, s_callAt R (Nat.le_refl 1) (fun c hc hy => ⟨21 + c, rfl, R.mo hc, Nat.le_refl _, ?_⟩) (fun hno => ⟨rfl, Nat.le_refl _, ?_⟩)⟩
  · rw [hy]
    unfold w_X3_deadline
    refine m_asks1 R.1 hc ⟨fun q => absurd q (by decide), fun _ => ⟨c, rfl, by omega, fin0 R C ?_⟩⟩
    rw [oI (by omega)]; exact (R.2.2.2.2.1 c hc).2.2.2.2.2.1
  · unfold w_X3_deadline
    exact m_asks0 R.1 hno ⟨fun _ => fin1 R C (by decide), fun q => absurd rfl q⟩
theorem o_overAt : lO_overAt rel := by
  rintro σ μ ⟨n, h, R, C⟩ y x0
  have hn := R.n2
  refine ⟨1, mN σ, by omega, Nat.le_refl _, R.N, ?_⟩
  unfold w_X2_overAt
  refine ⟨1, by omega, s_callAt R (Nat.le_refl 1) (fun c hc hy => ⟨21 + c, rfl, R.mo hc, Nat.le_refl _, ?_⟩) (fun hno => ⟨rfl, Nat.le_refl _, ?_⟩)⟩
  · rw [hy]
    unfold w_X3_overAt
    refine m_asks1 R.1 hc ⟨fun q => absurd q (by decide), fun _ => ⟨c, rfl, by omega, fin0 R C ?_⟩⟩
    rw [oI (by omega)]; exact (R.2.2.2.2.1 c hc).2.2.2.2.2.2.2.1
  · unfold w_X3_overAt
    exact m_asks0 R.1 hno ⟨fun _ => fin1 R C (by decide), fun q => absurd rfl q⟩
theorem o_place : lO_place rel := by
  rintro σ μ ⟨n, h, R, C⟩ y x0
  have hn := R.n2
  refine ⟨1, mN σ, by omega, Nat.le_refl _, R.N, ?_⟩
  unfold w_X2_place
  refine ⟨1, by omega, s_callAt R (Nat.le_refl 1) (fun c hc hy => ⟨21 + c, rfl, R.mo hc, ?_⟩) (fun hno => ⟨rfl, Nat.le_refl _, ?_⟩)⟩
  · rw [R.st hc, hy]
    refine ⟨fun hne => ⟨Nat.le_refl _, ?_⟩, fun he => ⟨Nat.le_refl _, ?_⟩⟩
    · unfold w_X3_place
      refine m_asks1 R.1 hc ⟨fun _ => ⟨c, rfl, by omega, fun _ => fin0 R C rfl, fun q => absurd (by rw [oI (by omega)] at q; exact q) hne⟩, fun q => absurd q (by decide)⟩
    · unfold w_X3_place
      refine m_asks1 R.1 hc ⟨fun _ => ⟨c, rfl, by omega, fun q => absurd he (by rw [oI (by omega)] at q; exact q), fun _ => ⟨c, rfl, by omega, fin0 R C ?_⟩⟩, fun q => absurd q (by decide)⟩
      rw [oI (by omega)]; exact (R.2.2.2.2.2.2.1 c hc he).2.1
  · unfold w_X3_place
    exact m_asks0 R.1 hno ⟨fun q => absurd rfl q, fun _ => fin1 R C (by decide)⟩
theorem o_origin : lO_origin rel := by
  rintro σ μ ⟨n, h, R, C⟩ y x0
  have hn := R.n2
  refine ⟨1, mN σ, by omega, Nat.le_refl _, R.N, ?_⟩
  unfold w_X2_origin
  refine ⟨1, by omega, s_callAt R (Nat.le_refl 1) (fun c hc hy => ⟨21 + c, rfl, R.mo hc, ?_⟩) (fun hno => ⟨rfl, Nat.le_refl _, ?_⟩)⟩
  · obtain ⟨s, hs, hsv, hr⟩ := R.svc hc
    obtain ⟨-, -, -, v4, v5, -⟩ := R.2.2.2.2.1 c hc
    have hnum := (R.2.2.1 s hs).2.1
    rw [hy]
    rintro _ rfl
    rcases wM_par R.1 hc with hpar | ⟨p, hp, hpar⟩
    · rw [v4 hpar]
      refine ⟨fun _ => ?_, fun i q => (by cases q)⟩
      rintro _ rfl
      rw [hr]
      refine ⟨3 + 3 * s, rfl, kS hs, Nat.le_refl _, ?_⟩
      unfold w_X3_origin
      refine m_asks1 R.1 hc ⟨fun q => absurd q (by decide), fun _ => ⟨c, rfl, by omega, c, rfl, by omega, fin0 R C ?_⟩⟩
      rw [hnum, oI (by omega), oI (by omega), hsv, hpar, Int32.add_zero, Int32.add_assoc]
      rw [show (-1 : Int32) + 1 = 0 from by decide, Int32.add_zero]
    · rw [v5 p hp hpar]
      refine ⟨fun q => (by cases q), ?_⟩
      rintro _ ⟨⟩ _ rfl
      refine ⟨21 + p, rfl, R.mo (by omega), ?_⟩
      rintro _ rfl
      rw [hr]
      refine ⟨3 + 3 * s, rfl, kS hs, Nat.le_refl _, ?_⟩
      unfold w_X3_origin
      refine m_asks1 R.1 hc ⟨fun q => absurd q (by decide), fun _ => ⟨c, rfl, by omega, c, rfl, by omega, fin0 R C ?_⟩⟩
      rw [hnum, oI (by omega), oI (by omega), hsv, hpar, (R.2.2.2.2.1 p (by omega)).2.1, Int32.add_assoc]
  · unfold w_X3_origin
    exact m_asks0 R.1 hno ⟨fun _ => fin1 R C (by decide), fun q => absurd rfl q⟩
theorem o_tokens : lO_tokens rel := by
  rintro σ μ ⟨n, h, R, C⟩ y x0
  refine ⟨1, mN σ, by omega, Nat.le_refl _, R.N, ?_⟩
  unfold w_X2_tokens
  refine ⟨1, by omega, s_serviceAt R (Nat.le_refl 1) (fun s hs hy => ⟨3 + 3 * s, rfl, kS hs, Nat.le_refl _, ?_⟩) (fun hno => ⟨rfl, Nat.le_refl _, ?_⟩)⟩
  · rw [hy]
    unfold w_X3_tokens
    refine m_isSv1 hs ⟨fun xk σ1 => xk = 0 ∧ σ1 = μ, ?_, fun q => absurd q (by decide), fun _ => ⟨rfl, rfl⟩⟩
    intro xk σ1 ⟨hxk, hσ⟩
    rw [hxk, hσ]
    rintro _ rfl
    rw [nIi]
    refine ⟨fun _ => ⟨s, rfl, hs, fin0 R C ?_⟩, fun q => absurd (by decide) q⟩
    rw [oI (by omega)]; exact (R.2.2.1 s hs).2.2.2.2.2.2.2.2.1
  · unfold w_X3_tokens
    refine m_isSv0 hno ⟨fun xk σ1 => xk = 1 ∧ σ1 = μ, ?_, fun _ => ⟨rfl, rfl⟩, fun q => absurd rfl q⟩
    intro xk σ1 ⟨hxk, hσ⟩
    rw [hxk, hσ]
    rintro _ rfl
    rw [nIi]
    exact ⟨fun q => absurd q (by decide), fun _ => fin1 R C (by decide)⟩
theorem o_isOpen : lO_isOpen rel := by
  rintro σ μ ⟨n, h, R, C⟩ y x0
  refine ⟨1, mN σ, by omega, Nat.le_refl _, R.N, ?_⟩
  unfold w_X2_isOpen
  refine ⟨1, by omega, s_serviceAt R (Nat.le_refl 1) (fun s hs hy => ⟨3 + 3 * s, rfl, kS hs, s_refuses R hs (fun q => ⟨Nat.le_refl _, ?_⟩) (fun q => ⟨Nat.le_refl _, ?_⟩)⟩) (fun hno => ⟨rfl, Nat.le_refl _, ?_⟩)⟩
  · rw [hy]
    unfold w_X3_isOpen
    refine m_isSv1 hs ⟨fun xk σ1 => xk = 0 ∧ σ1 = μ, ?_, fun q => absurd q (by decide), fun _ => ⟨rfl, rfl⟩⟩
    intro xk σ1 ⟨hxk, hσ⟩
    rw [hxk, hσ]
    rintro _ rfl
    rw [nIi]
    refine ⟨fun q => absurd rfl q, fun _ => ?_⟩
    unfold w_X3_isOpenNow
    refine ⟨s, rfl, hs, ?_⟩
    rw [oI (by omega), oI (by omega)]
    exact ⟨fun z => absurd q (Int32.not_lt.mpr z), fun _ => ⟨fun z => absurd z (by decide), fun _ => ⟨nIi, fun _ => rfl, rel_0 R C⟩⟩⟩
  · rw [hy]
    unfold w_X3_isOpen
    refine m_isSv1 hs ⟨fun xk σ1 => xk = 0 ∧ σ1 = μ, ?_, fun q => absurd q (by decide), fun _ => ⟨rfl, rfl⟩⟩
    intro xk σ1 ⟨hxk, hσ⟩
    rw [hxk, hσ]
    rintro _ rfl
    rw [nIi]
    refine ⟨fun q => absurd rfl q, fun _ => ?_⟩
    unfold w_X3_isOpenNow
    refine ⟨s, rfl, hs, ?_⟩
    rw [oI (by omega), oI (by omega)]
    exact ⟨fun z => ⟨fun _ => ⟨nIi, fun _ => rfl, rel_0 R C⟩, fun z => absurd rfl z⟩, fun z => absurd (Int32.not_le.mp z) q⟩
  · unfold w_X3_isOpen
    refine m_isSv0 hno ⟨fun xk σ1 => xk = 1 ∧ σ1 = μ, ?_, fun _ => ⟨rfl, rfl⟩, fun q => absurd rfl q⟩
    intro xk σ1 ⟨hxk, hσ⟩
    rw [hxk, hσ]
    rintro _ rfl
    rw [nIi]
    exact ⟨fun _ => fin1 R C (by decide), fun q => absurd q (by decide)⟩
theorem o_count : lO_count rel := by
  rintro σ μ ⟨n, h, R, C⟩ y y2 x0
  have hn := R.n2
  refine ⟨2, mN σ, by omega, Nat.le_refl _, R.N, ?_⟩
  unfold w_X2_count
  refine ⟨1, by omega, s_serviceAt R (Nat.le_refl 1) (fun s hs hy => ⟨1, by omega, s_range (Nat.le_refl 1) (fun q1 q2 => ⟨3 + 3 * s, rfl, kS hs, ?_⟩) (fun q => Or.inr ⟨rfl, Nat.le_refl _, ?_⟩)⟩) (fun hno => Or.inl ⟨rfl, Nat.le_refl _, ?_⟩)⟩
  · obtain ⟨k, hk, hyk⟩ := nI_of2 (M := 7) (n := 7) rfl q1 (Int32.not_lt.mp q2)
    rw [hyk]
    refine s_countOf R hs (by omega) ⟨Nat.le_refl _, ?_⟩
    rw [hy]
    unfold w_X3_count
    refine m_isSv1 hs ⟨fun xk σ1 => xk = 0 ∧ σ1 = μ, ?_, fun _ => m_in (fun _ _ => ⟨fun q => absurd q (by decide), fun _ => ⟨rfl, rfl⟩⟩) (fun q => absurd q (fun z => z.elim (fun z => q1 (by rw [hyk]; exact z)) (fun z => q2 (by rw [hyk]; exact z)))), fun q => absurd q (by decide)⟩
    intro xk σ1 ⟨hxk, hσ⟩
    rw [hxk, hσ]
    rintro _ rfl
    rw [nIi]
    refine ⟨fun _ => m_manyOf (by rw [oI (by omega)]; exact R.1.2.2.1) hn (fin0 R C ?_), fun q => absurd (by decide) q⟩
    congr 2
  · rw [hy]
    unfold w_X3_count
    refine m_isSv1 hs ⟨fun xk σ1 => xk = 2 ∧ σ1 = μ, ?_, fun _ => m_in (fun z1 z2 => absurd q (fun z => z.elim z1 z2)) (fun _ => ⟨fun _ => ⟨rfl, rfl⟩, fun q => absurd rfl q⟩), fun q => absurd q (by decide)⟩
    intro xk σ1 ⟨hxk, hσ⟩
    rw [hxk, hσ]
    rintro _ rfl
    rw [nIi]
    exact ⟨fun q => absurd q (by decide), fun _ => fin1 R C (by decide)⟩
  · unfold w_X3_count
    refine m_isSv0 hno ⟨fun xk σ1 => xk = 1 ∧ σ1 = μ, ?_, fun q => absurd rfl q, fun _ => ⟨rfl, rfl⟩⟩
    intro xk σ1 ⟨hxk, hσ⟩
    rw [hxk, hσ]
    rintro _ rfl
    rw [nIi]
    exact ⟨fun q => absurd q (by decide), fun _ => fin1 R C (by decide)⟩
