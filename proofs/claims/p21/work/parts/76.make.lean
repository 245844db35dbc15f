theorem oN {σ : mS} {a b : Nat} (h : a ≠ mN σ) : mI (sN σ) a b = mI σ a b := by rw [mI_sN, if_neg h]
theorem oNR {σ : mS} {a b : Nat} (h : a ≠ mN σ) : mR (sN σ) a b = mR σ a b := by rw [mR_sN, if_neg h]
theorem s_makeCall {σ0 σ μ : mS} {n h s b : Nat} {dl : Int32} {par : Option Nat} {Q : Option Nat → mS → Prop} (R : R0 σ0 μ n h) (hn : n < 200) (hs : s < 6) (hp : ∀ p, par = some p → p < n ∧ mI μ 15 p = 2) (hN : mN σ = mN σ0) (hR : ∀ a b, mR σ a b = mR σ0 a b)
    (e : ∀ a b, ¬ (par = some (a - 21) ∧ 21 ≤ a ∧ (b = 14 ∨ b = 15 ∨ b = 17)) → mI σ a b = mI σ0 a b) (ep : ∀ p, par = some p → mI σ (21 + p) 14 = mI σ0 (21 + p) 14 + 1 ∧ mI σ (21 + p) 15 = mI σ0 (21 + p) 15 + 1 ∧ mI σ (21 + p) 17 = mI μ 0 1)
    (hb : 1 ≤ b) (hQ : ∀ σ', R0 σ' (eBorn μ n s dl par) (n + 1) h → Q (some (21 + n)) σ') : w_X2_makeCall (some (3 + 3 * s)) (par.map (21 + ·)) dl σ b Q := by
  have hNn : mN σ = 21 + n := hN.trans R.2.1.1
  have hm : mI σ 0 2 = nI n := by rw [e _ _ (by omega)]; exact R.2.1.2.2.1
  have hrr : rR σ := fun a b j hj => by rw [hR] at hj; rw [hN]; exact R.2.1.2.1 a b j hj
  have hhn := R.hn
  have l6 := R.2.2.2.2.2.2.2.2.2.2.1
  have l5 := R.old
  unfold w_X2_makeCall
  refine ⟨by omega, ?_⟩
  intro i2 hi2
  rw [hNn] at hi2
  subst hi2
  rintro _ rfl
  rw [oN (by omega), hm]
  unfold w_X0_init
  refine ⟨⟨by unfold kdC; rw [if_neg (by omega), if_neg (by omega), if_neg (by omega), if_pos (by omega)], by rw [mN_sN, hNn]; omega⟩, ?_⟩
  rintro _ rfl _ rfl _ rfl _ rfl _ rfl _ rfl
  have k0 : kdC (21 + n) = (0, 0) := by unfold kdC; rw [if_neg (by omega), if_neg (by omega), if_neg (by omega), if_pos (by omega)]
  refine ⟨fun _ σ1 => mN σ1 = 21 + (n + 1) ∧ rR σ1 ∧ (∀ a b, a ≠ 21 + n → ¬ (a = 0 ∧ b = 2) → mI σ1 a b = mI σ a b) ∧ mI σ1 0 2 = nI (n + 1) ∧ (mI σ1 (21 + n) 0 = nI n ∧ mI σ1 (21 + n) 3 = dl ∧ mI σ1 (21 + n) 4 = -1 ∧ mI σ1 (21 + n) 5 = -1 ∧ mI σ1 (21 + n) 15 = 0) ∧ (∀ a b, a ≠ 21 + n → ¬ (a = 2 ∧ b = n) → mR σ1 a b = mR σ a b) ∧ mR σ1 2 n = some (21 + n) ∧ mR σ1 (21 + n) 1 = some (3 + 3 * s) ∧ mR σ1 (21 + n) 2 = par.map (21 + ·) ∧ mR σ1 (21 + n) 8 = none, ?_, ?_, ?_⟩
  · intro u σ1 ⟨f1, f2, f3, f4, f5, f6, f7, f8, f9, f10⟩
    rintro _ rfl
    refine ⟨⟨k0, by omega⟩, ?_⟩
    rintro _ rfl _ rfl
    rw [oR (by omega), f6 _ _ (by omega) (by omega), hR, l6]
    refine ⟨fun hnone => ?_, fun i15 hi15 => ?_⟩
    · have hhn' : ¬ h < n := fun q => by rw [if_pos q] at hnone; cases hnone
      rintro _ rfl _ rfl
      rw [if_neg hhn']
      refine hQ _ (R0_born R hn hs hp f1 ?_ (fun a b h1 h2 h3 => ?_) (fun p hpp => ?_) f4 f5 (fun a b h1 h2 h3 h4 => ?_) ?_ ⟨?_, ?_, ?_, ?_⟩ ?_ ?_ (fun q => absurd q hhn'))
      · refine rR.R (rR.R (rR.R f2 (fun j hj => by cases hj)) (fun j hj => ?_)) (fun j hj => ?_)
        · cases hj; show 21 + n < mN σ1; omega
        · cases hj; show 21 + n < mN σ1; omega
      · simp only [mI_sR]; rw [f3 a b h1 h2]; exact e a b h3
      · have := ep p hpp
        have h9 := (hp p hpp).1
        simp only [mI_sR]
        rw [f3 _ _ (by omega) (by omega), f3 _ _ (by omega) (by omega), f3 _ _ (by omega) (by omega)]; exact this
      · rw [oR (by omega), oR (by omega), oR (by omega), f6 a b h1 h3]; exact hR a b
      · rw [oR (by omega), oR (by omega), oR (by omega)]; exact f7
      · rw [oR (by omega), oR (by omega), oR (by omega)]; exact f8
      · rw [oR (by omega), oR (by omega), oR (by omega)]; exact f9
      · rw [oR (by omega), oR (by omega), nR, if_neg hhn']
      · rw [oR (by omega), oR (by omega), oR (by omega)]; exact f10
      · rw [oR (by omega), nR]; congr 1; omega
      · rw [nR]
    · have hhn' : h < n := Classical.byContradiction fun q => by rw [if_neg q] at hi15; cases hi15
      rw [if_pos hhn'] at hi15 ⊢
      rintro _ rfl
      refine ⟨20 + n, rfl, ⟨by unfold kdC; rw [if_neg (by omega), if_neg (by omega), if_neg (by omega), if_pos (by omega)], by show 20 + n < mN σ1; omega⟩, ?_⟩
      rintro _ rfl _ rfl
      refine hQ _ (R0_born R hn hs hp f1 ?_ (fun a b h1 h2 h3 => ?_) (fun p hpp => ?_) f4 f5 (fun a b h1 h2 h3 h4 => ?_) ?_ ⟨?_, ?_, ?_, ?_⟩ ?_ ?_ (fun _ => ?_))
      · refine rR.R (rR.R (rR.R f2 (fun j hj => ?_)) (fun j hj => ?_)) (fun j hj => ?_)
        · cases hj; omega
        · cases hj; show 21 + n < mN σ1; omega
        · cases hj; show 21 + n < mN σ1; omega
      · simp only [mI_sR]; rw [f3 a b h1 h2]; exact e a b h3
      · have := ep p hpp
        have h9 := (hp p hpp).1
        simp only [mI_sR]
        rw [f3 _ _ (by omega) (by omega), f3 _ _ (by omega) (by omega), f3 _ _ (by omega) (by omega)]; exact this
      · rw [oR (by omega), oR (by omega), oR (by omega), f6 a b h1 h3]; exact hR a b
      · rw [oR (by omega), oR (by omega), oR (by omega)]; exact f7
      · rw [oR (by omega), oR (by omega), oR (by omega)]; exact f8
      · rw [oR (by omega), oR (by omega), oR (by omega)]; exact f9
      · rw [oR (by omega), oR (by omega), nR, if_pos hhn']
      · rw [oR (by omega), oR (by omega), oR (by omega)]; exact f10
      · rw [oR (by omega), oR (by omega), oR (by omega), f6 _ _ (by omega) (by omega), hR, l5, nx_t hhn']
      · rw [nR]
      · rw [oR (by omega), nR]
  · simp (disch := omega) only [oI, mI_sR, oN, hm]
    exact fun q => absurd q (nI_ge (b := 200) hn (by omega))
  · simp (disch := omega) only [oI, mI_sR, oN, hm]
    intro _
    refine ⟨⟨k0, by show 21 + n < mN σ + 1; omega⟩, n, rfl, hn, ?_⟩
    rintro _ rfl _ rfl
    refine ⟨by show mN σ + 1 = _; omega, ?_, fun a b h1 h2 => ?_, ?_, ?_, fun a b h1 h2 => ?_, ?_, ?_, ?_, ?_⟩
    · refine rR.I (rR.R (rR.I (rR.R (rR.R (rR.I (rR.I (rR.I hrr.N))) (fun j hj => ?_)) (fun j hj => ?_))) (fun j hj => ?_))
      · cases hj; show 3 + 3 * s < mN σ + 1; omega
      · show j < mN σ + 1
        cases hpar : par with
        | none => rw [hpar] at hj; cases hj
        | some p => rw [hpar] at hj; cases hj; have := (hp p hpar).1; show 21 + p < mN σ + 1; omega
      · cases hj; show 21 + n < mN σ + 1; omega
    · simp (disch := omega) only [oI, mI_sR, oN]
    · rw [nIi]; simp (disch := omega) only [oI, mI_sR, oN]; rw [hm, nI_1]
    · simp (disch := omega) only [oI, nIi, mI_sR, true_and]
      rw [mI_sN, if_pos (by omega)]
    · simp (disch := omega) only [mR_sI, oR, oNR]
    · simp (disch := omega) only [mR_sI, nR]
    · simp (disch := omega) only [mR_sI, oR, nR]
    · simp (disch := omega) only [mR_sI, oR, nR]
    · simp (disch := omega) only [mR_sI, oR]
      rw [mR_sN, if_pos (by omega)]
def eBeg (μ : mS) (n c s : Nat) : mS :=
  if mI μ 0 1 < mI μ 11 s then eFin μ c 4
  else if mI μ 13 c - mI μ 0 1 < mI μ 1 s then eFin μ c 6
  else if nI (cnt n (fK μ s 1)) < mI μ 6 s then eWrk μ c
  else if nI (cnt n (fK μ s 0)) < mI μ 7 s then eQue μ c
  else eFin μ c 6
theorem wM_beg {μ : mS} {n c s : Nat} (h : wM μ n) (hc : c < n) (ho : mI μ 15 c < 3) (hch : ∀ d, d < n → mI μ 14 d ≠ nI c) : wM (eBeg μ n c s) n := by
  unfold eBeg
  split
  · exact wM_fin (w := 4) h hc (by omega) (by omega)
  · split
    · exact wM_fin (w := 6) h hc (by omega) (by omega)
    · split
      · exact wM_wrk h hc ho hch
      · split
        · exact wM_que h hc ho hch
        · exact wM_fin (w := 6) h hc (by omega) (by omega)
theorem s_countOf {σ μ : mS} {n h s k : Nat} {Q : Int32 → mS → Prop} (R : R0 σ μ n h) (hs : s < 6) (hk : k < 8) (hQ : Q (nI (cnt n (fK μ s k))) σ) : w_X1_countOf (3 + 3 * s) (nI k) σ Q := by
  unfold w_X1_countOf
  refine ⟨fun q => absurd q (nI_pos (by omega)), fun _ => ⟨kS hs, fun q => absurd q (nI_ge (b := 8) hk (by omega)), fun _ => ⟨k, rfl, hk, ?_⟩⟩⟩
  rw [show 3 + 3 * s + 2 = 5 + 3 * s by omega, R.2.2.2.1 s hs k hk]
  exact hQ
theorem s_free {σ μ : mS} {n h s : Nat} {Q : Int32 → mS → Prop} (R : R0 σ μ n h) (hs : s < 6) (h1 : nI (cnt n (fK μ s 1)) < mI μ 6 s → Q 1 σ) (h0 : ¬ nI (cnt n (fK μ s 1)) < mI μ 6 s → Q 0 σ) : w_X1_hasFreeWorker (3 + 3 * s) σ Q := by
  have hV := R.2.2.1 s hs
  unfold w_X1_hasFreeWorker
  refine ⟨kS hs, s_countOf (k := 1) R hs (by omega) ?_⟩
  rw [hV.2.2.2.2.2.1]
  exact ⟨fun q => h0 (Int32.not_lt.mpr q), fun q => h1 (Int32.not_le.mp q)⟩
theorem s_room {σ μ : mS} {n h s : Nat} {Q : Int32 → mS → Prop} (R : R0 σ μ n h) (hs : s < 6) (h1 : nI (cnt n (fK μ s 0)) < mI μ 7 s → Q 1 σ) (h0 : ¬ nI (cnt n (fK μ s 0)) < mI μ 7 s → Q 0 σ) : w_X1_hasRoom (3 + 3 * s) σ Q := by
  have hV := R.2.2.1 s hs
  unfold w_X1_hasRoom
  refine ⟨kS hs, s_countOf (k := 0) R hs (by omega) ?_⟩
  rw [hV.2.2.2.2.2.2.1]
  exact ⟨fun q => h0 (Int32.not_lt.mpr q), fun q => h1 (Int32.not_le.mp q)⟩
theorem s_refuses {σ μ : mS} {n h s : Nat} {Q : Int32 → mS → Prop} (R : R0 σ μ n h) (hs : s < 6) (h1 : mI μ 0 1 < mI μ 11 s → Q 1 σ) (h0 : ¬ mI μ 0 1 < mI μ 11 s → Q 0 σ) : w_X1_refusesAt (3 + 3 * s) (mI σ 0 3) σ Q := by
  have hV := R.2.2.1 s hs
  unfold w_X1_refusesAt
  rw [R.now, hV.2.2.2.2.2.2.2.2.2.2.1]
  exact ⟨kS hs, fun q => h0 (Int32.not_lt.mpr q), fun q => h1 (Int32.not_le.mp q)⟩
theorem s_canBe {σ μ : mS} {n h c s : Nat} {Q : Int32 → mS → Prop} (R : R0 σ μ n h) (hc : c < n) (hs : s < 6) (hsv : mI μ 12 c = nI s) (h1 : ¬ mI μ 13 c - mI μ 0 1 < mI μ 1 s → Q 1 σ) (h0 : mI μ 13 c - mI μ 0 1 < mI μ 1 s → Q 0 σ) : w_X0_canBeDone (21 + c) (mI σ 0 3) σ Q := by
  have hV := R.2.2.1 s hs
  have hC := R.2.2.2.2.1 c hc
  unfold w_X0_canBeDone
  refine ⟨R.mo hc, ?_⟩
  rintro _ rfl
  rw [hC.2.2.1 s hs hsv]
  refine ⟨3 + 3 * s, rfl, kS hs, ?_⟩
  rw [R.now, hC.2.2.2.2.2.1, hV.2.2.1]
  exact ⟨h0, h1⟩
theorem s_begin {σ μ : mS} {n h c s : Nat} {Q : mS → Prop} (R : R0 σ μ n h) (hc : c < n) (hs : s < 6) (hsv : mI μ 12 c = nI s) (ho : mI μ 15 c < 3) (hch : ∀ d, d < n → mI μ 14 d ≠ nI c) (hQ : ∀ σ', R0 σ' (eBeg μ n c s) n h → Q σ') : w_X2_begin (some (21 + c)) σ Q := by
  have hC := R.2.2.2.2.1 c hc
  unfold eBeg at hQ
  unfold w_X2_begin
  refine ⟨21 + c, rfl, R.mo hc, ?_⟩
  rintro _ rfl
  rw [hC.2.2.1 s hs hsv]
  refine ⟨3 + 3 * s, rfl, kS hs, s_refuses R hs (fun q => ⟨fun z => absurd z (by decide), fun _ => ?_⟩) (fun q => ⟨fun _ => ⟨R.mo hc, s_canBe R hc hs hsv (fun q2 => ⟨fun _ => s_free R hs (fun q3 => ⟨fun z => absurd z (by decide), fun _ => ?_⟩) (fun q3 => ⟨fun _ => s_room R hs (fun q4 => ⟨fun z => absurd z (by decide), fun _ => ⟨R.mo hc, ?_⟩⟩) (fun q4 => ⟨fun _ => ?_, fun z => absurd rfl z⟩), fun z => absurd rfl z⟩), fun z => absurd z (by decide)⟩) (fun q2 => ⟨fun z => absurd rfl z, fun _ => ?_⟩)⟩, fun z => absurd rfl z⟩)⟩
  · rw [if_pos q] at hQ
    exact s_finish (w := 4) R hc ho (by omega) (by omega) (fun σ1 R1 => hQ _ R1)
  · rw [if_neg q, if_neg q2, if_pos q3] at hQ
    exact s_work R hc ho hch hQ
  · rw [if_neg q, if_neg q2, if_neg q3, if_pos q4] at hQ
    exact s_queue R hc ho hch hQ
  · rw [if_neg q, if_neg q2, if_neg q3, if_neg q4] at hQ
    exact s_finish (w := 6) R hc ho (by omega) (by omega) (fun σ1 R1 => hQ _ R1)
  · rw [if_neg q, if_pos q2] at hQ
    exact s_finish (w := 6) R hc ho (by omega) (by omega) (fun σ1 R1 => hQ _ R1)
