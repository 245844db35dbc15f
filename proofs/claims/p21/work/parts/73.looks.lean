abbrev fD (μ : mS) (p : Nat) : Nat → Bool := fun c => decide (qTry μ p c ∧ mI μ 15 c = 3)
abbrev fP (μ : mS) (p : Nat) : Nat → Bool := fun c => decide (qTry μ p c ∧ mI μ 15 c < 3)
/-- when the first try of the place was made -/
def eFst (μ : mS) (p : Nat) : Nat → Int32
  | 0 => 0
  | d + 1 => if cnt d (fT μ p) = 0 ∧ qTry μ p d then mI μ 18 d else eFst μ p d
theorem eFst_s {μ : mS} {p d : Nat} : eFst μ p (d + 1) = if cnt d (fT μ p) = 0 ∧ qTry μ p d then mI μ 18 d else eFst μ p d := rfl
theorem eFst_0 {μ : mS} {p : Nat} : ∀ d, cnt d (fT μ p) = 0 → eFst μ p d = 0 := by
  intro d
  induction d with
  | zero => intro _; rfl
  | succ d ih =>
    intro h
    rw [cnt_succ] at h
    have h1 : cnt d (fT μ p) = 0 := by omega
    have h2 : ¬ qTry μ p d := fun q => by rw [show fT μ p d = true from decide_eq_true q] at h; simp at h
    rw [eFst_s, if_neg (fun q => h2 q.2)]
    exact ih h1
theorem eFst_1 {μ : mS} {p : Nat} : ∀ d, cnt d (fT μ p) ≠ 0 → ∃ c, c < d ∧ qTry μ p c ∧ eFst μ p d = mI μ 18 c := by
  intro d
  induction d with
  | zero => intro h; exact absurd rfl h
  | succ d ih =>
    intro h
    rw [eFst_s]
    by_cases hq : cnt d (fT μ p) = 0 ∧ qTry μ p d
    · rw [if_pos hq]; exact ⟨d, by omega, hq.2, rfl⟩
    · rw [if_neg hq]
      have h1 : cnt d (fT μ p) ≠ 0 := fun y => by
        have h2 : ¬ qTry μ p d := fun z => hq ⟨y, z⟩
        rw [cnt_succ, y, show fT μ p d = false from decide_eq_false h2] at h
        simp at h
      obtain ⟨c, c1, c2, c3⟩ := ih h1
      exact ⟨c, by omega, c2, c3⟩
def qA (μ : mS) (p : Nat) : Nat := (mI μ 20 (3 * p + (mI μ 22 p).toNatClampNeg)).toNatClampNeg
def eAgn (μ : mS) (p s : Nat) : mS := sI (sI (sI μ 9 s (mI μ 9 s - 10)) 23 p (mI μ 23 p + 1)) 24 p 1
def eLook (μ : mS) (p : Nat) : mS :=
  if cnt (qN μ) (fD μ p) ≠ 0 then eGo μ p
  else if cnt (qN μ) (fP μ p) = 0 then (if ¬ (2 : Int32) ≤ mI μ 23 p ∧ ¬ mI μ 9 (qA μ p) < 10 then eAgn μ p (qA μ p) else eFin μ p 4)
  else if cnt (qN μ) (fT μ p) = 1 ∧ ¬ mI μ 8 (qA μ p) ≤ 0 ∧ ¬ mI μ 0 1 - eFst μ p (qN μ) < mI μ 8 (qA μ p) then sI μ 24 p 1
  else μ
/-- the service that p asks now -/
theorem wM_asked {μ : mS} {n p : Nat} (h : wM μ n) (hp : p < n) (hst : mI μ 15 p = 2) : ∃ k r, k < 3 ∧ r < 6 ∧ mI μ 22 p = nI k ∧ mI μ 20 (3 * p + k) = nI r ∧ qA μ p = r := by
  obtain ⟨k, z, a, s, q1, q2, q3, q4, q5, q6, q7, q8, q9, q10⟩ := h.2.2.2.2.2.2.1 p hp hst
  obtain ⟨-, a', ha3', ha', har⟩ := h.2.2.2.2.1 s q4
  have haa : a' = a := i_inj (by omega) (by omega) (ha'.symm.trans q8)
  subst haa
  obtain ⟨r, hr, hrv⟩ := har k (by omega)
  have h20 := (q9 k q1).trans hrv
  refine ⟨k, r, by omega, hr, q5, h20, ?_⟩
  unfold qA
  rw [q5, nI_clamp (by omega), h20, nI_clamp (by omega)]
theorem wM_agn {μ : mS} {n p s : Nat} (h : wM μ n) : wM (eAgn μ p s) n := wM_ir (wM_ir (wM_ir h (by unfold irr; omega)) (by unfold irr; omega)) (by unfold irr; omega)
theorem wM_look {μ : mS} {n p : Nat} (h : wM μ n) (hp : p < n) (hst : mI μ 15 p = 2) : wM (eLook μ p) n := by
  unfold eLook
  split
  · exact wM_go h hp hst
  · split
    · split
      · exact wM_agn h
      · exact wM_fin (w := 4) h hp (by omega) (by omega)
    · split
      · exact wM_ir h (by unfold irr; omega)
      · exact h
theorem s_tooLong {σ μ : mS} {n h s : Nat} {y : Int32} {Q : Int32 → mS → Prop} (R : R0 σ μ n h) (hs : s < 6) (h1 : ¬ mI μ 8 s ≤ 0 → ¬ y < mI μ 8 s → Q 1 σ) (h0 : mI μ 8 s ≤ 0 ∨ y < mI μ 8 s → Q 0 σ) : w_X1_isTooLong (3 + 3 * s) y σ Q := by
  have hV := R.2.2.1 s hs
  unfold w_X1_isTooLong
  rw [hV.2.2.2.2.2.2.2.1]
  exact ⟨kS hs, fun q => h0 (Or.inl q), fun q => ⟨fun z => h0 (Or.inr z), fun z => h1 q z⟩⟩
theorem s_judge {σ μ : mS} {n h p : Nat} {Q : mS → Prop} (R : R0 σ μ n h) (hp : p < n) (hst : mI μ 15 p = 2) (hQ : ∀ σ', R0 σ' (eLook μ p) n h → Q σ') : w_X2_judge (some (21 + p)) (mR σ (21 + p) 11) σ Q := by
  have hn := R.n2
  have hop : mI μ 15 p < 3 := by rw [hst]; decide
  have hqn := qN_e R.1
  obtain ⟨k, r, hk, hr, h22, h20, hqa⟩ := wM_asked R.1 hp hst
  obtain ⟨a1, a2, a3, a4, a5, a6, a7, a8⟩ := R.2.2.2.2.2.2.1 p hp hst
  have hO := R.2.2.2.2.2.1 p hp hop
  have hV := R.2.2.1 r hr
  rw [a3 k r hk hr h22 h20]
  have hOP : cnt n (fO μ p) = cnt n (fP μ p) := cnt_congr fun c hc => decide_eq_decide.mpr ⟨fun q => ⟨wM_try R.1 hp hst hc q.2 q.1, q.2⟩, fun q => ⟨q.1.1, q.2⟩⟩
  have hD : mI σ (21 + p) 13 = 0 ↔ cnt n (fD μ p) = 0 := by
    rw [a5]
    refine ⟨fun q => cnt_zero fun c hc => decide_eq_false fun z => q c hc z.1 z.2, fun q c hc ht h3 => ?_⟩
    have := cnt_of0 q c hc
    rw [show fD μ p c = true from decide_eq_true ⟨ht, h3⟩] at this
    cases this
  have hO0 : mI σ (21 + p) 15 = 0 ↔ cnt n (fP μ p) = 0 := by
    rw [hO, hOP]
    exact nI_eq (b := 0) (by have := cnt_le n (fP μ p); omega) (by omega)
  have hT1 : mI σ (21 + p) 14 = 1 ↔ cnt n (fT μ p) = 1 := by
    rw [a6]
    exact nI_eq (b := 1) (by have := cnt_le n (fT μ p); omega) (by omega)
  unfold eLook at hQ
  rw [hqn, hqa] at hQ
  unfold w_X2_judge
  refine ⟨21 + p, rfl, R.mo hp, fun h13 => ⟨fun h15 => ⟨fun h14 => ?_, fun h14 => ?_⟩, fun h15 => ?_⟩, fun h13 => ?_⟩
  · rw [if_neg (fun q => q (hD.mp h13)), if_neg (fun q => h15 (hO0.mpr q)), if_neg (fun q => h14 (hT1.mpr q.1))] at hQ
    exact hQ _ R
  · rw [if_neg (fun q => q (hD.mp h13)), if_neg (fun q => h15 (hO0.mpr q))] at hQ
    have hc1 := hT1.mp h14
    obtain ⟨c, hc, hct, hcf⟩ := eFst_1 (μ := μ) (p := p) n (by rw [hc1]; decide)
    have h17 := a8 c hc hct h14
    rw [hcf] at hQ
    rw [R.now, h17]
    refine ⟨3 + 3 * r, rfl, kS hr, s_tooLong R hr (fun y1 y2 => ⟨fun q => absurd q (by decide), fun _ => ⟨R.mo hp, ?_⟩⟩) (fun y => ⟨fun _ => ?_, fun q => absurd rfl q⟩)⟩
    · rintro _ rfl
      rw [if_pos ⟨hc1, y1, y2⟩] at hQ
      refine hQ _ (R0_cl (w := 2) R hp (by omega) hst rfl (fun _ _ _ => rfl) (fun i k j hj => R.2.1.2.1 i k j hj) (fun a b hab => oI (by omega)) (wM_ir R.1 (by unfold irr; omega)) (fun a b q1 q2 => oI (by omega)) (fun _ _ => ?_))
      have f4 : fT (sI μ 24 p 1) p = fT μ p := fT_c (fun b => oI (by omega)) (fun b => oI (by omega)) (oI (by omega))
      rw [f4]
      simp (disch := omega) only [oI, nIi, qTry, mR_sI] at a5 a8 ⊢
      exact ⟨a1, a2, a3, trivial, a5, a6, a7, a8⟩
    · rw [if_neg (fun q => y.elim q.2.1 q.2.2)] at hQ
      exact hQ _ R
  · rw [if_neg (fun q => q (hD.mp h13)), if_pos (hO0.mp h15)] at hQ
    unfold w_X2_tryAgain
    refine ⟨21 + p, rfl, R.mo hp, fun σ1 => R0 σ1 μ n h ∧ ¬ (¬ (2 : Int32) ≤ mI μ 23 p ∧ ¬ mI μ 9 r < 10), ?_, ?_, ?_⟩
    · rintro σ1 ⟨R1, hne⟩
      rw [if_neg hne] at hQ
      exact s_finish (w := 4) R1 hp hop (by omega) (by omega) (fun σ2 R2 => hQ _ R2)
    · rw [a7]; exact fun q => ⟨R, fun z => z.1 q⟩
    · rw [a7]
      intro hag
      refine ⟨3 + 3 * r, rfl, kS hr, kS hr, fun h10 => ?_, fun h10 => ?_⟩
      · rw [hV.2.2.2.2.2.2.2.2.1] at h10
        have h10' : ¬ mI μ 9 r < 10 := fun z => absurd (Int32.le_iff_toInt_le.mp h10) (by have := Int32.lt_iff_toInt_lt.mp z; omega)
        rintro _ rfl
        refine ⟨fun q => absurd q (by decide), fun _ => ?_⟩
        rw [hV.2.2.2.2.2.2.2.2.1]
        have R1 : R0 (sI σ (3 + 3 * r) 7 (mI μ 9 r - 10)) (sI μ 9 r (mI μ 9 r - 10)) n h := by
          obtain ⟨v1, v2, v3, v4, v5, v6, v7, v8, v9, v10, v11, v12, v13⟩ := hV
          refine R0_sv R hr rfl (fun _ _ => rfl) (fun a b ha => oI (by omega)) (wM_ir R.1 (by unfold irr; omega)) (fun a b ha => oI (by omega)) (oI (by omega)) (oI (by omega)) ?_
          simp (disch := omega) only [oI, nIi]
          exact ⟨v3, v4, v5, v6, v7, v8, trivial, v10, v11⟩
        rw [if_pos ⟨hag, h10'⟩] at hQ
        refine ⟨R1.mo hp, ?_⟩
        rintro _ rfl _ rfl
        have hst1 : mI (sI μ 9 r (mI μ 9 r - 10)) 15 p = 2 := by rw [oI (by omega)]; exact hst
        have A1 := R1.2.2.2.2.2.2.1 p hp hst1
        refine hQ _ (R0_cl (w := 2) R1 hp (by omega) hst1 rfl (fun _ _ _ => rfl) (fun i k j hj => R.2.1.2.1 i k j hj) (fun a b hab => by rw [oI (by omega), oI (by omega)]) (wM_agn R.1) (fun a b q1 q2 => by unfold eAgn; rw [oI (by omega), oI (by omega)]) (fun _ _ => ?_))
        unfold eAgn
        have f4 : fT (sI (sI (sI μ 9 r (mI μ 9 r - 10)) 23 p (mI μ 23 p + 1)) 24 p 1) p = fT (sI μ 9 r (mI μ 9 r - 10)) p := fT_c (fun b => by rw [oI (by omega), oI (by omega)]) (fun b => by rw [oI (by omega), oI (by omega)]) (by rw [oI (by omega), oI (by omega)])
        rw [f4]
        obtain ⟨b1, b2, b3, b4, b5, b6, b7, b8⟩ := A1
        simp (disch := omega) only [oI, nIi, qTry, mR_sI] at b1 b2 b3 b4 b5 b7 b8 ⊢
        have b6' : mI σ (21 + p) 14 = nI (cnt n (fT (sI μ 9 r (mI μ 9 r - 10)) p)) := by rw [← b6, oI (by omega)]
        exact ⟨b1, b2, b3, trivial, b5, b6', by rw [b7], b8⟩
      · rw [hV.2.2.2.2.2.2.2.2.1] at h10
        have h10' : mI μ 9 r < 10 := Int32.not_le.mp h10
        exact ⟨fun _ => ⟨R, fun z => z.2 h10'⟩, fun q => absurd rfl q⟩
  · rw [if_pos (fun q => h13 (hD.mpr q))] at hQ
    obtain ⟨g1, g2, g3⟩ := goL_all R.1 hp hst
    exact s_cancelTries R hp hst (fun σ1 R1 => ⟨R1.mo hp, s_goesOn R1 hp g2 g3 hQ⟩)
