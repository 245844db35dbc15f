/-! a call that asks is looked at -/
theorem n1eq (k : Nat) : (1 : Int32) + nI k = nI (1 + k) := nAdd 1 k
theorem w_asked {μ τ : mS} {p pl : Nat} {f : Nat → Nat} {z : Nat} (hz : z ≤ 3) (hpl : pl < z) (hf : ∀ j, j < z → f j < 6) (h : mI τ 7 p = nI (rwv f (z - pl) pl)) : mI τ 7 p &&& 7 = nI (f pl + 1) ∧ mI τ 7 p >>> ((3 : Int32) &&& 31) = nI (rwv f (z - (pl + 1)) (pl + 1)) := by
  have e : rwv f (z - pl) pl = (f pl + 1) + 8 * rwv f (z - (pl + 1)) (pl + 1) := by
    rw [show z - pl = (z - (pl + 1)) + 1 by omega]; rfl
  have h1 := hf pl hpl
  have h2 := rwv_lt (f := f) (z - pl) pl (fun i q1 q2 => hf i (by omega))
  have h3 : (8 : Nat) ^ (z - pl) ≤ 8 ^ 3 := Nat.pow_le_pow_right (by decide) (by omega)
  have h4 : rwv f (z - pl) pl < 512 := by
    have : (8 : Nat) ^ 3 = 512 := by decide
    omega
  rw [h]
  refine ⟨?_, ?_⟩
  · rw [pk_andN (n := rwv f (z - pl) pl) (m := 7) (by omega) 3 (by decide), e]
    congr 1
    omega
  · rw [pk_shrN (n := rwv f (z - pl) pl) (by omega) ((3 : Int32) &&& 31) 3 (by decide), e]
    congr 1
    omega
theorem rwv_0 {f : Nat → Nat} {k j : Nat} : rwv f k j = 0 ↔ k = 0 := by
  cases k with
  | zero => exact ⟨fun _ => rfl, fun _ => rfl⟩
  | succ k => exact ⟨fun h => by unfold rwv at h; omega, fun h => by omega⟩
theorem cntD {μ : mS} {n p : Nat} : cnt n (fD μ p) ≠ 0 ↔ ¬ ∀ d, d < n → qTry μ p d → mI μ 15 d ≠ 3 := by
  refine ⟨fun h q => h (cnt_zero fun c hc => decide_eq_false fun z => q c hc z.1 z.2), fun h q => h fun d hd hq h3 => ?_⟩
  have := cnt_of0 q d hd
  rw [show fD μ p d = true from decide_eq_true ⟨hq, h3⟩] at this
  cases this
theorem cntP {μ : mS} {n p : Nat} (hM : wM μ n) (hp : p < n) (hst : mI μ 15 p = 2) : cnt n (fP μ p) = cnt n (fO μ p) := by
  refine cnt_congr fun d hd => ?_
  simp only [fP, fO]
  exact decide_eq_decide.mpr ⟨fun q => ⟨q.1.1, q.2⟩, fun q => ⟨wM_try hM hp hst hd q.2 q.1, q.2⟩⟩
/-- a call that is over: what it asked no longer counts -/
theorem pl_over {τ μ : mS} {n p : Nat} {F : Nat → Nat → Nat} {v w : Int32} (P : PL τ μ n F d0) (hp : p < n) (hst : mI μ 15 p ≠ 2) : PL τ (sI (sI μ 22 p v) 23 p w) n F d0 := by
  obtain ⟨⟨g8, g0, g1, g2, gn, t, ht1, gt⟩, hS, hC⟩ := P
  have hm : ∀ a b, ¬ (b = p ∧ (a = 22 ∨ a = 23)) → mI (sI (sI μ 22 p v) 23 p w) a b = mI μ a b := fun a b q => by rw [oI (by omega), oI (by omega)]
  generalize sI (sI μ 22 p v) 23 p w = μ' at hm ⊢
  have f2 : fR μ' = fR μ := fR_c (fun b => hm _ _ (by omega)) (fun b => hm _ _ (by omega))
  refine ⟨⟨g8, by rw [hm _ _ (by omega)]; exact g0, g1, by rw [f2]; exact g2, gn, t, ht1, by rw [hm _ _ (by omega)]; exact gt⟩, fun r hr => ?_, fun c hc => ?_⟩
  · have := hS r hr
    simp (disch := omega) only [pS, hm] at this ⊢
    exact this
  · obtain ⟨hx, ha, c12, c15, c19, r3, r4, r6, r5, hb, hq⟩ := hC c hc
    refine ⟨hx, ha, by rw [hm _ _ (by omega)]; exact c12, by rw [hm _ _ (by omega)]; exact c15, fun p2 hp2 h14 => by rw [hm _ _ (by omega)] at h14 ⊢; exact c19 p2 hp2 h14, by rw [hm _ _ (by omega)]; exact r3, by rw [hm _ _ (by omega)]; exact r4, by rw [hm _ _ (by omega)]; exact r6, fun q => by rw [hm _ _ (by omega)]; exact r5 q, by rw [hm _ _ (by omega)]; exact hb, fun h1 h1b => ?_⟩
    have hcp : c ≠ p := fun q => hst (by rw [← q, c15, h1]; rfl)
    obtain ⟨q22, q23, q24, qT, qO, qAn, qB, qR, z, f, z1, z2, z3, z4, z5⟩ := hq h1 h1b
    have fq : ∀ d, qTry μ' c d ↔ qTry μ c d := fun d => by unfold qTry; rw [hm _ _ (by omega), hm _ _ (by omega), hm _ _ (by omega)]
    refine ⟨by rw [hm _ _ (by omega)]; exact q22, by rw [hm _ _ (by omega)]; exact q23, by rw [hm _ _ (by omega)]; exact q24, by rw [fT_c (μ := μ) (fun b => hm _ _ (by omega)) (fun b => hm _ _ (by omega)) (hm _ _ (by omega))]; exact qT, by rw [fO_c (μ := μ) (fun b => hm _ _ (by omega)) (fun b => hm _ _ (by omega))]; exact qO, qAn.trans ⟨fun h d hd hqd => by rw [hm _ _ (by omega)]; exact h d hd ((fq d).mp hqd), fun h d hd hqd => by have := h d hd ((fq d).mpr hqd); rw [hm _ _ (by omega)] at this; exact this⟩, qB, fun h5 => ⟨fun d hd hqd => by rw [hm _ _ (by omega)]; exact (qR h5).1 d hd ((fq d).mp hqd), fun hδ => by rw [hm _ _ (by omega)]; exact (qR h5).2 hδ⟩, z, f, z1, z2, by rw [hm _ _ (by omega)]; exact z3, fun j hj => ⟨(z4 j hj).1, by rw [hm _ _ (by omega)]; exact (z4 j hj).2⟩, z5⟩
theorem l_look {τ μ : mS} {n p : Nat} {F : Nat → Nat → Nat} {Q : mS → Prop} (hM : wM μ n) (P : PL τ μ n F d0) (hp : p < n) (hst : mI μ 15 p = 2) (hw : mI μ 24 p = 0) (hQ : ∀ τ' F', PL τ' (eLook μ p) n F' d0 → Q τ') : w_L_look (nI p) τ Q := by
  have P'' := id P
  obtain ⟨⟨g8, g0, g1, g2, gn, t, ht1, gt⟩, hS, hC⟩ := P''
  obtain ⟨hx, ha, c12, c15, c19, r3, r4, r6, r5, hb, hq⟩ := hC p hp
  have hx' := id hx
  unfold aBd at hx'
  have hn2 := hM.2.2.2.1
  have hst2 : F p 1 = 2 := i_inj (b := 2) (by omega) (by omega) (c15.symm.trans hst)
  obtain ⟨q22, q23, q24, qT, qO, qAn, qB, qR, z, f, z1, z2, z3, z4, z5⟩ := hq hst2 (show (0 : Nat) ≠ 2 by decide)
  have hw0 : F p 4 = 0 := i_inj (b := 0) (by omega) (by omega) (q24.symm.trans hw)
  have hqN := qN_e hM
  have hqA : qA μ p = f (F p 2) := by
    unfold qA
    rw [q22, nI_clamp (by omega), (z4 _ z2).2, nI_clamp (by have := (z4 _ z2).1; omega)]
  have hs6 : f (F p 2) < 6 := (z4 _ z2).1
  obtain ⟨wa1, wa2⟩ := w_asked (μ := μ) z1 z2 (fun j hj => (z4 j hj).1) z5
  obtain ⟨-, -, v0, v1, v2, v4, v5, v6, v7, v8, v9⟩ := hS _ hs6
  have hsv : ∀ j, (10 : Int32) * ((mI τ 7 p &&& 7) - 1) + nI j = nI (10 * f (F p 2) + j) := fun j => by
    rw [wa1, show nI (f (F p 2) + 1) - 1 = nI (f (F p 2)) from nI_pred _, n10]
  unfold eLook at hQ
  rw [hqN, hqA] at hQ
  have hT0 : F p 5 = cnt n (fT μ p) := qT
  have hO0 : cnt n (fP μ p) = F p 6 := by rw [cntP hM hp hst]; exact qO.symm
  unfold w_L_look
  refine ⟨p, rfl, by omega, q_get7 (by omega) hx ha ⟨fun h7 => ?_, fun h7 => ?_⟩⟩
  · have h70 : F p 7 = 0 := by
      rcases (show F p 7 = 0 ∨ F p 7 = 1 by omega) with h | h
      · exact h
      · rw [h] at h7; exact absurd rfl h7
    rw [if_neg (fun q => (cntD.mp q) (qAn.mp h70)), hO0] at hQ
    refine q_get6 (by omega) hx ha ⟨fun h6 => ?_, fun h6 => ?_⟩
    · have h60 : F p 6 ≠ 0 := fun q => h6 (by rw [q]; rfl)
      rw [if_neg h60] at hQ
      refine ⟨10 * f (F p 2) + 6, hsv 6, by omega, q_get5 (by omega) hx ha ⟨fun h5 => ?_, fun h5 => ⟨fun hpt => ?_, fun hpt => ⟨0, rfl, by decide, p, rfl, by omega, ?_⟩⟩⟩⟩
      · have h50 : cnt n (fT μ p) ≠ 1 := fun q => h5 (by rw [hT0, q]; rfl)
        rw [if_neg (fun q => h50 q.1)] at hQ
        exact hQ τ F P
      · rw [v6] at hpt
        rw [if_neg (fun q => q.2.1 hpt)] at hQ
        exact hQ τ F P
      · have h51 : F p 5 = 1 := i_inj (b := 1) (by omega) (by omega) h5
        have hE : eFst μ p n = mI τ 5 p := by
          obtain ⟨e, he, hqe, hfe⟩ := eFst_1 n (by rw [← hT0, h51]; decide : cnt n (fT μ p) ≠ 0)
          rw [hfe, (qR h51).1 e he hqe]
        rw [v6] at hpt ⊢
        rw [g0]
        rw [hE] at hQ
        refine ⟨fun hlt => ?_, fun hlt => ?_⟩
        · rw [if_neg (fun q => q.2.2 hlt)] at hQ
          exact hQ τ F P
        · rw [if_pos ⟨by rw [← hT0]; exact h51, hpt, hlt⟩] at hQ
          refine q_put4 (v := 1) (by omega) hx ha (by decide) (hQ _ _ (pl_st (c := p) (x' := upx (F p) 4 1) P hp (by rw [hst]; decide) (by rw [oI (by omega), hst]; decide) (fun a b q1 q2 => oI (by omega)) g8 (fun j k q => oI (by omega)) ⟨?_, nIi, by rw [oI (by omega)]; exact c12, by rw [oI (by omega)]; exact c15, fun p2 hp2 h14 => by rw [oI (by omega)] at h14 ⊢; exact c19 p2 hp2 h14, by rw [oI (by omega), oI (by omega)]; exact r3, by rw [oI (by omega), oI (by omega)]; exact r4, by rw [oI (by omega), oI (by omega)]; exact r6, fun q => by rw [oI (by omega), oI (by omega)]; exact r5 q, by rw [oI (by omega)]; exact hb, fun _ _ => ⟨by rw [oI (by omega)]; exact q22, by rw [oI (by omega)]; exact q23, by rw [nIi]; rfl, ?_, ?_, ?_, ?_, ?_, z, f, z1, z2, by rw [oI (by omega)]; exact z3, fun j hj => ⟨(z4 j hj).1, by rw [oI (by omega)]; exact (z4 j hj).2⟩, by rw [oI (by omega)]; exact z5⟩⟩))
          · unfold aBd
            simp [upx]
            omega
          · rw [fT_c (fun b => oI (by omega)) (fun b => oI (by omega)) (oI (by omega))]; exact qT
          · rw [fO_c (fun b => oI (by omega)) (fun b => oI (by omega))]; exact qO
          · refine qAn.trans ⟨fun h d hd hqd => ?_, fun h d hd hqd => ?_⟩
            · rw [oI (by omega)]
              simp (disch := omega) only [qTry, oI] at hqd
              exact h d hd hqd
            · have := h d hd (by simp (disch := omega) only [qTry, oI]; exact hqd)
              rw [oI (by omega)] at this
              exact this
          · show F p 5 + 1 ≤ F p 3 + 2 ∧ F p 3 ≤ 2
            omega
          · intro h5
            refine ⟨fun d hd hqd => ?_, fun q => absurd q (by decide)⟩
            rw [oI (by omega), oI (by omega)]
            simp (disch := omega) only [qTry, oI] at hqd
            exact (qR h51).1 d hd hqd
    · have h60 : F p 6 = 0 := i_inj (b := 0) (by omega) (by omega) h6
      rw [if_pos h60, q23] at hQ
      have h2le : ((2 : Int32) ≤ nI (F p 3)) ↔ 2 ≤ F p 3 := nI_leI (a := 2) (by omega) (by omega)
      refine q_get3 (by omega) hx ha ⟨fun σ => σ = τ ∧ ∀ τ' F', PL τ' (eFin μ p 4) n F' d0 → Q τ', fun σ hσ => ?_, fun h3 => ⟨rfl, ?_⟩, fun h3 => ⟨10 * f (F p 2) + 7, hsv 7, by omega, fun h10 => ?_, fun h10 => ⟨rfl, ?_⟩⟩⟩
      · rw [hσ.1]
        exact l_end (w := 4) hM P hp (by rw [hst]; decide) (by decide) (by decide) hσ.2
      · have h32 : F p 3 = 2 := i_inj (b := 2) (by omega) (by omega) h3
        rw [if_neg (fun q => q.1 (h2le.mpr (by omega)))] at hQ
        exact hQ
      · have h32 : F p 3 ≠ 2 := fun q => h3 (by rw [q]; rfl)
        rw [v7] at h10
        rw [if_pos ⟨fun q => by have := h2le.mp q; omega, Int32.not_lt.mpr h10⟩] at hQ
        refine ⟨10 * f (F p 2) + 7, hsv 7, by omega, 10 * f (F p 2) + 7, hsv 7, by omega, ?_⟩
        intro σ47 h47
        have ha47 : mI σ47 2 p = nI (aw (F p)) := by rw [h47, oI (by omega)]; exact ha
        have P1 : PL σ47 (sI μ 9 (f (F p 2)) (mI μ 9 (f (F p 2)) - 10)) n F d0 := by
          refine pl_svc P hs6 (by rw [h47]; exact g8) (fun j k hjk => by rw [h47, oI (by omega)]) (fun a b hab => oI (by omega)) ?_
          obtain ⟨w1, rw1, -⟩ := hS _ hs6
          rw [h47]
          simp (disch := omega) only [pS, oI, nIi]
          exact ⟨w1, rw1, v0, v1, v2, v4, v5, v6, by rw [v7], v8, v9⟩
        refine q_get3 (by omega) hx ha47 ?_
        rw [show nI (F p 3) + 1 = nI (F p 3 + 1) from nI_1 _]
        have hb1 : aBd (upx (F p) 3 (F p 3 + 1)) := by unfold aBd; simp [upx]; omega
        refine q_put3 (by omega) hx ha47 (by omega) (q_put4 (v := 1) (x := upx (F p) 3 (F p 3 + 1)) (by omega) hb1 nIi (by decide) (hQ _ (fun d => if d = p then upx (upx (F p) 3 (F p 3 + 1)) 4 1 else F d) ?_))
        have e0 : eAgn μ p (f (F p 2)) = sI (sI (sI μ 9 (f (F p 2)) (mI μ 9 (f (F p 2)) - 10)) 23 p (mI μ 23 p + 1)) 24 p 1 := rfl
        rw [e0]
        have hm : ∀ a b, ¬ (b = p ∧ (a = 23 ∨ a = 24)) → mI (sI (sI (sI μ 9 (f (F p 2)) (mI μ 9 (f (F p 2)) - 10)) 23 p (mI μ 23 p + 1)) 24 p 1) a b = mI (sI μ 9 (f (F p 2)) (mI μ 9 (f (F p 2)) - 10)) a b := fun a b q => by rw [oI (by omega), oI (by omega)]
        have hm2 : ∀ a b, a ≠ 9 → ¬ (b = p ∧ (a = 23 ∨ a = 24)) → mI (sI (sI (sI μ 9 (f (F p 2)) (mI μ 9 (f (F p 2)) - 10)) 23 p (mI μ 23 p + 1)) 24 p 1) a b = mI μ a b := fun a b q1 q => by rw [hm a b q, oI (by omega)]
        have m23 : mI (sI (sI (sI μ 9 (f (F p 2)) (mI μ 9 (f (F p 2)) - 10)) 23 p (mI μ 23 p + 1)) 24 p 1) 23 p = nI (F p 3 + 1) := by rw [oI (by omega), nIi, q23]; exact nI_1 _
        have m24 : mI (sI (sI (sI μ 9 (f (F p 2)) (mI μ 9 (f (F p 2)) - 10)) 23 p (mI μ 23 p + 1)) 24 p 1) 24 p = 1 := nIi
        generalize sI (sI (sI μ 9 (f (F p 2)) (mI μ 9 (f (F p 2)) - 10)) 23 p (mI μ 23 p + 1)) 24 p 1 = μ' at hm hm2 m23 m24 ⊢
        refine pl_st (c := p) (x' := upx (upx (F p) 3 (F p 3 + 1)) 4 1) P1 hp (by rw [oI (by omega), hst]; decide) (by rw [hm2 _ _ (by omega) (by omega), hst]; decide) (fun a b q1 q2 => hm a b (by omega)) (by rw [h47]; exact g8) (fun j k q => by rw [oI (by omega), oI (by omega)]) ⟨by unfold aBd; simp [upx]; omega, nIi, by rw [hm2 _ _ (by omega) (by omega)]; exact c12, by rw [hm2 _ _ (by omega) (by omega)]; exact c15, fun p2 hp2 h14 => by rw [hm2 _ _ (by omega) (by omega)] at h14 ⊢; exact c19 p2 hp2 h14, by rw [oI (by omega), oI (by omega), hm2 _ _ (by omega) (by omega), h47, oI (by omega)]; exact r3, by rw [oI (by omega), oI (by omega), hm2 _ _ (by omega) (by omega), h47, oI (by omega)]; exact r4, by rw [oI (by omega), oI (by omega), hm2 _ _ (by omega) (by omega), h47, oI (by omega)]; exact r6, fun q => by rw [oI (by omega), oI (by omega), hm2 _ _ (by omega) (by omega), h47, oI (by omega)]; exact r5 q, by rw [hm2 _ _ (by omega) (by omega)]; exact hb, fun _ _ => ⟨by rw [hm2 _ _ (by omega) (by omega)]; exact q22, m23, m24, ?_, ?_, ?_, ?_, fun h5 => ?_, z, f, z1, z2, by rw [hm2 _ _ (by omega) (by omega)]; exact z3, fun j hj => ⟨(z4 j hj).1, by rw [hm2 _ _ (by omega) (by omega)]; exact (z4 j hj).2⟩, by rw [oI (by omega), oI (by omega), h47, oI (by omega)]; exact z5⟩⟩
        · rw [fT_c (μ := μ) (fun b => hm2 _ _ (by omega) (by omega)) (fun b => hm2 _ _ (by omega) (by omega)) (hm2 _ _ (by omega) (by omega))]; exact qT
        · rw [fO_c (μ := μ) (fun b => hm2 _ _ (by omega) (by omega)) (fun b => hm2 _ _ (by omega) (by omega))]; exact qO
        · refine qAn.trans ⟨fun h d hd hqd => ?_, fun h d hd hqd => ?_⟩
          · rw [hm2 _ _ (by omega) (by omega)]
            unfold qTry at hqd
            rw [hm2 14 _ (by omega) (by omega), hm2 19 _ (by omega) (by omega), hm2 22 _ (by omega) (by omega)] at hqd
            exact h d hd hqd
          · have := h d hd (by unfold qTry; rw [hm2 14 _ (by omega) (by omega), hm2 19 _ (by omega) (by omega), hm2 22 _ (by omega) (by omega)]; exact hqd)
            rw [hm2 _ _ (by omega) (by omega)] at this
            exact this
        · show F p 5 + 1 ≤ (F p 3 + 1) + 2 ∧ F p 3 + 1 ≤ 2
          omega
        · have h5 : F p 5 = 1 := h5
          refine ⟨fun d hd hqd => ?_, fun q => absurd q (by decide)⟩
          unfold qTry at hqd
          rw [hm2 14 _ (by omega) (by omega), hm2 19 _ (by omega) (by omega), hm2 22 _ (by omega) (by omega)] at hqd
          rw [oI (by omega), oI (by omega), hm2 _ _ (by omega) (by omega), h47, oI (by omega)]
          exact (qR h5).1 d hd hqd
      · rw [v7] at h10
        rw [if_neg (fun q => q.2 (Int32.not_le.mp h10))] at hQ
        exact hQ
  · have h71 : F p 7 = 1 := i_inj (b := 1) (by omega) (by omega) h7
    rw [if_pos (cntD.mpr (fun q => by have := qAn.mpr q; omega))] at hQ
    obtain ⟨hMg, hstg, hallg⟩ := goL_all hM hp hst
    refine ⟨fun m y τ' => ∃ d μ' F', y = nI d ∧ p < d ∧ d ≤ n ∧ m = n - d ∧ PL τ' μ' n F' d0 ∧ wM μ' n ∧ mI μ' 15 p = 2 ∧ upL (eCan p) (n - d) d μ' = eGoL μ p, ?_, n - (p + 1), p + 1, μ, F, nI_1 p, by omega, by omega, rfl, P, hM, hst, by unfold eGoL; rw [hqN]⟩
    rintro m y τ' ⟨d, μ', F', hy, hpd, hd, hm, P', hM', hst', e1⟩
    rw [hy, hm]
    have P3 := id P'
    obtain ⟨⟨k8, k0, k1, k2, kn, kt, kt1, kt2⟩, kS, kC⟩ := P3
    refine ⟨1, rfl, by decide, ?_⟩
    rw [k1]
    refine ⟨fun hl => ?_, fun hl => ?_⟩
    · have h1 : n ≤ d := (nI_leI (by omega) (by omega)).mp hl
      rw [show n - d = 0 by omega] at e1
      have e1 : μ' = eGoL μ p := e1
      rw [e1] at P' kS kC
      obtain ⟨ux, ua, u12, u15, u19, s3, s4, s6, s5, ub, uq⟩ := kC p hp
      have ux' := id ux
      unfold aBd at ux'
      have u1 : F' p 1 = 2 := i_inj (b := 2) (by omega) (by omega) (u15.symm.trans hstg)
      obtain ⟨y22, y23, y24, yT, yO, yAn, yB, yR, z', f', y1, y2, y3, y4, y5⟩ := uq u1 (show (0 : Nat) ≠ 2 by decide)
      obtain ⟨-, wb2⟩ := w_asked (μ := μ) y1 y2 (fun j hj => (y4 j hj).1) y5
      refine ⟨p, rfl, by omega, p, rfl, by omega, ?_⟩
      intro σ67 h67
      rw [wb2] at h67
      have a67 : mI σ67 2 p = nI (aw (F' p)) := by rw [h67, oI (by omega)]; exact ua
      refine q_get2 (by omega) ux a67 ?_
      rw [show nI (F' p 2) + 1 = nI (F' p 2 + 1) from nI_1 _]
      have bx1 : aBd (upx (F' p) 2 (F' p 2 + 1)) := by unfold aBd; simp [upx]; omega
      have bx2 : aBd (up0 (upx (F' p) 2 (F' p 2 + 1)) 3 7) := by unfold aBd; simp [upx, up0]; omega
      have bx3 : aBd (upx (up0 (upx (F' p) 2 (F' p 2 + 1)) 3 7) 4 1) := by unfold aBd; simp [upx, up0]; omega
      refine q_put2 (by omega) ux a67 (by omega) (q_put0_3 (x := upx (F' p) 2 (F' p 2 + 1)) (by omega) bx1 nIi (q_put4 (v := 1) (x := up0 (upx (F' p) 2 (F' p 2 + 1)) 3 7) (by omega) bx2 nIi (by decide) ?_))
      generalize hτ4 : sI (sI (sI σ67 2 p (nI (aw (upx (F' p) 2 (F' p 2 + 1))))) 2 p (nI (aw (up0 (upx (F' p) 2 (F' p 2 + 1)) 3 7)))) 2 p (nI (aw (upx (up0 (upx (F' p) 2 (F' p 2 + 1)) 3 7) 4 1))) = τ4
      have o4 : ∀ j k, ¬ ((j = 2 ∨ j = 7) ∧ k = p) → mI τ4 j k = mI τ' j k := fun j k q => by rw [← hτ4, oI (by omega), oI (by omega), oI (by omega), h67, oI (by omega)]
      have a4 : mI τ4 2 p = nI (aw (upx (up0 (upx (F' p) 2 (F' p 2 + 1)) 3 7) 4 1)) := by rw [← hτ4, nIi]
      have w4 : mI τ4 7 p = nI (rwv f' (z' - (F' p 2 + 1)) (F' p 2 + 1)) := by rw [← hτ4, oI (by omega), oI (by omega), oI (by omega), h67, nIi]
      have n4 : mN τ4 = 8 := by rw [← hτ4, h67]; exact k8
      have hcmp : (nI (F' p 2) + 1 = nI z') ↔ z' = F' p 2 + 1 := by
        rw [show nI (F' p 2) + 1 = nI (F' p 2 + 1) from nI_1 _]
        exact ⟨fun q => (i_inj (by omega) (by omega) q).symm, fun q => by rw [q]⟩
      unfold eGo eNxt at hQ
      rw [y22, y3] at hQ
      refine ⟨p, rfl, by omega, ?_⟩
      rw [w4]
      refine ⟨fun hne => ?_, fun he => ?_⟩
      · have hz0 : z' - (F' p 2 + 1) ≠ 0 := fun q => hne (by rw [q]; rfl)
        rw [if_neg (fun q => by have := hcmp.mp q; omega), show nI (F' p 2) + 1 = nI (F' p 2 + 1) from nI_1 _] at hQ
        refine hQ τ4 (fun d => if d = p then upx (up0 (upx (F' p) 2 (F' p 2 + 1)) 3 7) 4 1 else F' d) ?_
        have hm2 : ∀ a b, ¬ (b = p ∧ (a = 22 ∨ a = 23 ∨ a = 24)) → mI (sI (sI (sI (eGoL μ p) 22 p (nI (F' p 2 + 1))) 23 p 0) 24 p 1) a b = mI (eGoL μ p) a b := fun a b q => by rw [oI (by omega), oI (by omega), oI (by omega)]
        have m22 : mI (sI (sI (sI (eGoL μ p) 22 p (nI (F' p 2 + 1))) 23 p 0) 24 p 1) 22 p = nI (F' p 2 + 1) := by rw [oI (by omega), oI (by omega), nIi]
        have m23 : mI (sI (sI (sI (eGoL μ p) 22 p (nI (F' p 2 + 1))) 23 p 0) 24 p 1) 23 p = 0 := by rw [oI (by omega), nIi]
        have m24 : mI (sI (sI (sI (eGoL μ p) 22 p (nI (F' p 2 + 1))) 23 p 0) 24 p 1) 24 p = 1 := nIi
        generalize sI (sI (sI (eGoL μ p) 22 p (nI (F' p 2 + 1))) 23 p 0) 24 p 1 = μ2 at hm2 m22 m23 m24 ⊢
        obtain ⟨kk, zz, aa, ss, b1, b2, b3, b4, b5, b6, b7, b8, b9, b10⟩ := hMg.2.2.2.2.2.2.1 p hp hstg
        have hkk : kk = F' p 2 := i_inj (by omega) (by omega) (b5.symm.trans y22)
        have hnot : ∀ d, d < n → ¬ qTry μ2 p d := fun d hd q => by
          unfold qTry at q
          rw [hm2 14 _ (by omega), hm2 19 _ (by omega), m22] at q
          obtain ⟨j, j1, j2, -⟩ := b10 d hd q.1
          have := i_inj (by omega) (by omega) (j2.symm.trans q.2)
          omega
        refine pl_st (c := p) P' hp (by rw [hstg]; decide) (by rw [hm2 _ _ (by omega), hstg]; decide) (fun a b q1 q2 => hm2 a b (by omega)) n4 (fun j k q => o4 j k (by omega)) ⟨bx3, a4, by rw [hm2 _ _ (by omega)]; exact u12, by rw [hm2 _ _ (by omega)]; exact u15, fun p2 hp2 h14 => by rw [hm2 _ _ (by omega)] at h14 ⊢; exact u19 p2 hp2 h14, by rw [o4 _ _ (by omega), hm2 _ _ (by omega)]; exact s3, by rw [o4 _ _ (by omega), hm2 _ _ (by omega)]; exact s4, by rw [o4 _ _ (by omega), hm2 _ _ (by omega)]; exact s6, fun q => by rw [o4 _ _ (by omega), hm2 _ _ (by omega)]; exact s5 q, by rw [hm2 _ _ (by omega)]; exact ub, fun _ _ => ⟨m22, m23, m24, ?_, ?_, ?_, ?_, fun h5 => ?_, z', f', y1, ?_, by rw [hm2 _ _ (by omega)]; exact y3, fun j hj => ⟨(y4 j hj).1, by rw [hm2 _ _ (by omega)]; exact (y4 j hj).2⟩, w4⟩⟩
        · show 0 = cnt n (fT μ2 p) + 0
          rw [cnt_zero (fun d hd => decide_eq_false (hnot d hd))]
        · show 0 = cnt n (fO μ2 p) + 0
          rw [cnt_zero (fun d hd => decide_eq_false (fun q => by rw [hm2 _ _ (by omega), hm2 _ _ (by omega)] at q; exact hallg d hd q.1 q.2))]
        · exact ⟨fun _ d hd hqd => absurd hqd (hnot d hd), fun _ => rfl⟩
        · show 0 + 1 ≤ 0 + 2 ∧ 0 ≤ 2
          omega
        · exact absurd (show (0 : Nat) = 1 from h5) (by decide)
        · show F' p 2 + 1 < z'
          omega
      · have h2 := rwv_lt (f := f') (z' - (F' p 2 + 1)) (F' p 2 + 1) (fun i q1 q2 => (y4 i (by omega)).1)
        have h3 : (8 : Nat) ^ (z' - (F' p 2 + 1)) ≤ 8 ^ 3 := Nat.pow_le_pow_right (by decide) (by omega)
        have h4 : (8 : Nat) ^ 3 = 512 := by decide
        have hz0 : z' - (F' p 2 + 1) = 0 := rwv_0.mp (i_inj (b := 0) (by omega) (by omega) he)
        rw [if_pos (hcmp.mpr (by omega))] at hQ
        have PX : PL τ4 (eGoL μ p) n (fun d => if d = p then upx (up0 (upx (F' p) 2 (F' p 2 + 1)) 3 7) 4 1 else F' d) (fun d => if d = p then 2 else 0) := by
          obtain ⟨⟨-, l0, l1, l2, ln, lt, lt1, lt2⟩, lS, lC⟩ := P'
          refine ⟨⟨n4, by rw [o4 _ _ (by omega)]; exact l0, by rw [o4 _ _ (by omega)]; exact l1, by rw [o4 _ _ (by omega)]; exact l2, ln, lt, lt1, lt2⟩, fun r hr => ?_, fun d hd => ?_⟩
          · have := lS r hr
            simp (disch := omega) only [pS, o4] at this ⊢
            exact this
          · show pC τ4 (eGoL μ p) n (if d = p then upx (up0 (upx (F' p) 2 (F' p 2 + 1)) 3 7) 4 1 else F' d) (if d = p then 2 else 0) d
            by_cases hdp : d = p
            · rw [if_pos hdp, if_pos hdp, hdp]
              exact ⟨bx3, a4, u12, u15, u19, by rw [o4 _ _ (by omega)]; exact s3, by rw [o4 _ _ (by omega)]; exact s4, by rw [o4 _ _ (by omega)]; exact s6, fun q => by rw [o4 _ _ (by omega)]; exact s5 q, ub, fun _ q => absurd rfl q⟩
            · rw [if_neg hdp, if_neg hdp]
              have := lC d hd
              simp (disch := omega) only [pC, pQ, pW, o4] at this ⊢
              exact this
        refine l_endX (w := 3) hMg PX (fun d hd => if_neg hd) hp (by rw [hstg]; decide) (by decide) (by decide) (fun τ5 F5 P5 => hQ τ5 F5 (pl_over P5 hp ?_))
        rw [eFin_self]
        decide
    · have h1 : d < n := Nat.not_le.mp fun q => hl ((nI_leI (by omega) (by omega)).mpr q)
      rw [upL_s h1] at e1
      obtain ⟨ux, ua, u12, u15, u19, s3, s4, -⟩ := kC d h1
      have ux' := id ux
      unfold aBd at ux'
      have keep : ¬ (qTry μ' p d ∧ mI μ' 15 d < 3) → ∃ k, k < n - d ∧ ∃ d' μ2 F2, nI d + 1 = nI d' ∧ p < d' ∧ d' ≤ n ∧ k = n - d' ∧ PL τ' μ2 n F2 d0 ∧ wM μ2 n ∧ mI μ2 15 p = 2 ∧ upL (eCan p) (n - d') d' μ2 = eGoL μ p := fun hne => by
        rw [show eCan p μ' d = μ' from if_neg hne] at e1
        exact ⟨n - (d + 1), by omega, d + 1, μ', F', nI_1 d, by omega, by omega, rfl, P', hM', hst', e1⟩
      refine ⟨d, rfl, by omega, ?_⟩
      rw [s4]
      refine ⟨fun hne => keep (fun q => hne q.1.1), fun he => q_get1 (by omega) ux ua ⟨fun h3 => keep (fun q => ?_), fun h3 => ?_⟩⟩
      · have h4 := (i_3le (by omega)).mp h3
        have h5 := q.2
        rw [u15] at h5
        have := (i_lt3 (by omega)).mp h5
        omega
      · have ho : mI μ' 15 d < 3 := by
          rw [u15]
          refine (i_lt3 (by omega)).mpr ?_
          exact Nat.not_le.mp fun q => h3 ((i_3le (by omega)).mpr q)
        have hqt := wM_try hM' hp hst' h1 ho he
        refine l_end (w := 7) hM' P' h1 ho (by decide) (by decide) (fun τ5 F5 P5 => ⟨n - (d + 1), by omega, d + 1, eFin μ' d 7, F5, nI_1 d, by omega, by omega, rfl, P5, wM_fin hM' h1 (by decide) (by decide), ?_, ?_⟩)
        · rw [eFin_lt hpd]; exact hst'
        · rw [show eCan p μ' d = eFin μ' d 7 from if_pos ⟨hqt, ho⟩] at e1
          exact e1
