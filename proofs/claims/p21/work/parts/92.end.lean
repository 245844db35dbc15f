/-! a call of the law is over -/
def lLE (y : Int32) (σ : mS) (Q : mS → Prop) : Prop := (∃ I163 : Nat → Int32 → mS → Prop, (∀ (n163 : Nat) (x9_163 : Int32) (σ_163 : mS), I163 n163 x9_163 σ_163 → (∃ j18, (1 : Int32) = nI j18 ∧ (j18 < 3 ∧ (((mI σ_163 0 j18) ≤ x9_163 → (Q σ_163)) ∧ (¬ (mI σ_163 0 j18) ≤ x9_163 → (∃ j21, x9_163 = nI j21 ∧ (j21 < 60 ∧ (((mI σ_163 4 j21) < 0 → (∃ k25, k25 < n163 ∧ I163 k25 (x9_163 + 1) σ_163)) ∧ (¬ (mI σ_163 4 j21) < 0 → w_L_get x9_163 (3 : Int32) (3 : Int32) σ_163 (fun x29 σ26 => (((2 : Int32) < x29 → (∃ k32, k32 < n163 ∧ I163 k32 (x9_163 + 1) σ26)) ∧ (¬ (2 : Int32) < x29 → (∃ j33, x9_163 = nI j33 ∧ (j33 < 60 ∧ w_L_get (mI σ26 4 j33) (3 : Int32) (3 : Int32) σ26 (fun x38 σ35 => (((3 : Int32) ≤ x38 → w_L_put x9_163 (3 : Int32) (3 : Int32) (7 : Int32) σ35 (fun σ40 => (∃ j43, (0 : Int32) = nI j43 ∧ (j43 < 3 ∧ (∃ j45, x9_163 = nI j45 ∧ (j45 < 60 ∧ (∀ σ48, σ48 = sI σ40 6 j45 (mI σ40 0 j43) → (∃ k50, k50 < n163 ∧ I163 k50 (x9_163 + 1) σ48)))))))) ∧ (¬ (3 : Int32) ≤ x38 → (∃ k52, k52 < n163 ∧ I163 k52 (x9_163 + 1) σ35)))))))))))))))))) ∧ ∃ n, I163 n y σ)
theorem nAdd (a b : Nat) : nI a + nI b = nI (a + b) := (Int32.ofNat_add a b).symm
theorem n8 (k : Nat) : (8 : Int32) * nI k = nI (8 * k) := pk_mul 8 k
theorem n10 (k j : Nat) : (10 : Int32) * nI k + nI j = nI (10 * k + j) := by
  rw [show (10 : Int32) * nI k = nI (10 * k) from pk_mul 10 k, nAdd]
theorem l_many {τ μ : mS} {n s k : Nat} {F : Nat → Nat → Nat} {δ : Nat → Nat} {Q : Int32 → mS → Prop} (P : PL τ μ n F δ) (hs : s < 6) (hk : k < 8) (hQ : Q (nI (cnt n (fK μ s k))) τ) : w_L_many (nI s) (nI k) τ Q := by
  obtain ⟨⟨g8, g0, g1, g2, gn, gt⟩, hS, hC⟩ := P
  unfold w_L_many
  refine ⟨fun m x y τ' => ∃ d, y = nI d ∧ d ≤ n ∧ m = n - d ∧ τ' = τ ∧ x = nI (cnt d (fK μ s k)), ?_, n, 0, rfl, by omega, by omega, rfl, rfl⟩
  rintro m x y τ' ⟨d, rfl, hd, rfl, rfl, rfl⟩
  refine ⟨1, rfl, by decide, ?_⟩
  rw [g1]
  refine ⟨fun hl => ?_, fun hl => ?_⟩
  · have h1 : n ≤ d := (nI_leI (by omega) (by omega)).mp hl
    have hdn : d = n := by omega
    rw [hdn]; exact hQ
  · have h1 : d < n := Nat.not_le.mp fun q => hl ((nI_leI (by omega) (by omega)).mpr q)
    obtain ⟨hx, ha, c12, c15, -⟩ := hC d h1
    have hx' := id hx
    unfold aBd at hx'
    have hfk : fK μ s k d = decide (F d 0 = s ∧ F d 1 = k) := by
      simp only [fK]
      rw [c12, c15]
      exact decide_eq_decide.mpr ⟨fun q => ⟨i_inj (by omega) (by omega) q.1, i_inj (by omega) (by omega) q.2⟩, fun q => ⟨by rw [q.1], by rw [q.2]⟩⟩
    refine ⟨d, rfl, by omega, ?_⟩
    rw [ha, l_low6 hx, n8, nAdd]
    refine ⟨fun hne => ⟨n - (d + 1), by omega, d + 1, nI_1 d, by omega, rfl, rfl, ?_⟩, fun he => ⟨n - (d + 1), by omega, d + 1, nI_1 d, by omega, rfl, rfl, ?_⟩⟩
    · rw [cnt_succ, hfk, if_neg (by simp only [decide_eq_true_eq]; intro q; exact hne (by rw [q.1, q.2])), Int32.add_zero]; rfl
    · have h2 := i_inj (by omega) (by omega) he
      rw [cnt_succ, hfk, if_pos (by simp only [decide_eq_true_eq]; omega)]; exact nI_1 _
theorem eC_9 {μ : mS} {c w s : Nat} : mI (eClose μ c w) 9 s = if w = 3 ∧ s = qS μ c then mI μ 9 s + (if (50 : Int32) ≤ mI μ 9 s then 0 else 1) else mI μ 9 s := by
  unfold eClose
  by_cases hw : w = 3
  · rw [if_pos hw]
    unfold eTok
    rw [oI (by omega)]
    have e9 : ∀ b, mI (eEnd μ c w) 9 b = mI μ 9 b := fun b => by unfold eEnd; rw [oI (by omega), oI (by omega)]
    by_cases hs : s = qS μ c
    · rw [if_pos (show w = 3 ∧ s = qS μ c from ⟨hw, hs⟩), ← hs, nIi, e9]
    · rw [if_neg (show ¬ (w = 3 ∧ s = qS μ c) from fun q => hs q.2), oI (fun q => hs q.2), e9]
  · rw [if_neg hw, if_neg (fun q => hw q.1)]
    unfold eEnd
    rw [oI (by omega), oI (by omega)]
theorem eC_10 {μ : mS} {c w s : Nat} : mI (eClose μ c w) 10 s = if w = 3 ∧ s = qS μ c then 0 else mI μ 10 s := by
  unfold eClose
  by_cases hw : w = 3
  · rw [if_pos hw]
    unfold eTok
    by_cases hs : s = qS μ c
    · rw [if_pos (show w = 3 ∧ s = qS μ c from ⟨hw, hs⟩), ← hs, nIi]
    · rw [if_neg (show ¬ (w = 3 ∧ s = qS μ c) from fun q => hs q.2), oI (fun q => hs q.2), oI (by omega)]
      unfold eEnd
      rw [oI (by omega), oI (by omega)]
  · rw [if_neg hw, if_neg (fun q => hw q.1)]
    unfold eEnd
    rw [oI (by omega), oI (by omega)]
def clF (μ : mS) (F : Nat → Nat → Nat) (c w : Nat) : Nat → Nat → Nat := fun d => if d = c then upx (F c) 1 w else if mI μ 14 c = nI d ∧ mI μ 15 d = 2 then (if w = 3 then upx (upx (F d) 6 (F d 6 - 1)) 7 1 else upx (F d) 6 (F d 6 - 1)) else F d
def pHalf (τ τ' μ : mS) (n : Nat) (F : Nat → Nat → Nat) (c w : Nat) : Prop := mN τ' = 8 ∧ mI τ' 0 0 = mI τ 0 0 ∧ mI τ' 0 1 = mI τ 0 1 ∧ mI τ' 0 2 = (if mI μ 14 c = -1 then mI τ 0 2 + 1 else mI τ 0 2) ∧ (∀ k, mI τ' 1 k = mI τ 1 k) ∧ (∀ d, d < n → mI τ' 2 d = nI (aw (clF μ F c w d))) ∧ (∀ d, d < n → mI τ' 3 d = mI τ 3 d ∧ mI τ' 4 d = mI τ 4 d ∧ mI τ' 5 d = mI τ 5 d ∧ mI τ' 7 d = mI τ 7 d) ∧ ∀ d, d < n → mI τ' 6 d = if d = c then mI μ 0 1 else mI τ 6 d
theorem pl_close {τ τ' τ2 μ : mS} {n c w : Nat} {F : Nat → Nat → Nat} {δ : Nat → Nat} (hM : wM μ n) (P : PL τ μ n F δ) (hδ : ∀ d, d ≠ c → δ d = 0) (hc : c < n) (ho : mI μ 15 c < 3) (hw3 : 3 ≤ w) (hw : w < 8) (H : pHalf τ τ' μ n F c w) (hN : mN τ2 = 8) (hj : ∀ j k, j ≠ 1 → mI τ2 j k = mI τ' j k)
    (hv : ∀ k, mI τ2 1 k = if w = 3 ∧ k = 10 * F c 0 + 7 then mI τ 1 k + (if (50 : Int32) ≤ mI τ 1 k then 0 else 1) else if w = 3 ∧ k = 10 * F c 0 + 8 then 0 else mI τ 1 k) : PL τ2 (eClose μ c w) n (clF μ F c w) d0 := by
  obtain ⟨⟨g8, g0, g1, g2, gn, t, ht, gt⟩, hS, hC⟩ := P
  obtain ⟨k8, k0, k1, k2, kv, ka, kr, ke⟩ := H
  have hn2 := hM.2.2.2.1
  obtain ⟨hxc, -, c12, -⟩ := hC c hc
  have hxc' := id hxc
  unfold aBd at hxc'
  have hqS : qS μ c = F c 0 := qS_e c12 (by omega)
  refine ⟨⟨hN, ?_, ?_, ?_, gn, t, ht, ?_⟩, fun s hs => ?_, fun d hd => ?_⟩
  · rw [hj _ _ (by omega), k0, g0, eC_o (by omega) (by omega) (by omega)]
  · rw [hj _ _ (by omega), k1, g1]
  · rw [hj _ _ (by omega), k2, g2, c_R hc ho hw3 hw]
    split
    · exact nI_1 _
    · rfl
  · rw [eC_o (by omega) (by omega) (by omega), gt]
  · obtain ⟨⟨w1, w2, w3⟩, ⟨a, f, a1, a2, a3, a4⟩, v0, v1, v2, v4, v5, v6, v7, v8, v9⟩ := hS s hs
    have ho2 : ∀ a b, a ≠ 15 → a ≠ 17 → a ≠ 9 → a ≠ 10 → mI (eClose μ c w) a b = mI μ a b := fun a b q1 q2 q3 q4 => eC_o (by omega) (by omega) (by omega)
    have hvj : ∀ j, j < 10 → j ≠ 7 → j ≠ 8 → mI τ2 1 (10 * s + j) = mI τ 1 (10 * s + j) := fun j q1 q2 q3 => by rw [hv, if_neg (by omega), if_neg (by omega)]
    refine ⟨⟨w1, w2, by rw [ho2 1 s (by omega) (by omega) (by omega) (by omega)]; exact w3⟩, ⟨a, f, a1, by rw [ho2 4 s (by omega) (by omega) (by omega) (by omega)]; exact a2, fun j hj => ⟨(a3 j hj).1, by rw [ho2 5 _ (by omega) (by omega) (by omega) (by omega)]; exact (a3 j hj).2⟩, by rw [hvj 3 (by omega) (by omega) (by omega)]; exact a4⟩, ?_, ?_, ?_, ?_, ?_, ?_, ?_, ?_, ?_⟩
    · rw [ho2 1 s (by omega) (by omega) (by omega) (by omega), ← v0]; exact hvj 0 (by omega) (by omega) (by omega)
    · rw [hvj 1 (by omega) (by omega) (by omega), ho2 2 s (by omega) (by omega) (by omega) (by omega)]; exact v1
    · rw [hvj 2 (by omega) (by omega) (by omega), ho2 3 s (by omega) (by omega) (by omega) (by omega)]; exact v2
    · rw [hvj 4 (by omega) (by omega) (by omega), ho2 6 s (by omega) (by omega) (by omega) (by omega)]; exact v4
    · rw [hvj 5 (by omega) (by omega) (by omega), ho2 7 s (by omega) (by omega) (by omega) (by omega)]; exact v5
    · rw [hvj 6 (by omega) (by omega) (by omega), ho2 8 s (by omega) (by omega) (by omega) (by omega)]; exact v6
    · rw [hv, eC_9, hqS, v7]
      by_cases hq : w = 3 ∧ s = F c 0
      · rw [if_pos ⟨hq.1, by rw [hq.2]⟩, if_pos hq]
      · rw [if_neg (by omega), if_neg (by omega), if_neg hq]
    · rw [hv, eC_10, hqS, v8]
      by_cases hq : w = 3 ∧ s = F c 0
      · rw [if_neg (by omega), if_pos ⟨hq.1, by rw [hq.2]⟩, if_pos hq]
      · rw [if_neg (by omega), if_neg (by omega), if_neg hq]
    · rw [hvj 9 (by omega) (by omega) (by omega), ho2 11 s (by omega) (by omega) (by omega) (by omega)]; exact v9
  · obtain ⟨hx, ha, c12d, c15d, c19d, r3, r4, r6, r5, hb, hq⟩ := hC d hd
    obtain ⟨e3, e4, e5, e7⟩ := kr d hd
    have hx' := id hx
    unfold aBd at hx'
    have ho2 : ∀ a b, a ≠ 15 → a ≠ 17 → a ≠ 9 → a ≠ 10 → mI (eClose μ c w) a b = mI μ a b := fun a b q1 q2 q3 q4 => eC_o (by omega) (by omega) (by omega)
    have hτ : mI τ2 2 d = nI (aw (clF μ F c w d)) := by rw [hj _ _ (by omega)]; exact ka d hd
    have f3 : mI τ2 3 d = mI (eClose μ c w) 13 d := by rw [hj _ _ (by omega), e3, r3, ho2 13 d (by omega) (by omega) (by omega) (by omega)]
    have f4 : mI τ2 4 d = mI (eClose μ c w) 14 d := by rw [hj _ _ (by omega), e4, r4, ho2 14 d (by omega) (by omega) (by omega) (by omega)]
    have f12 : mI (eClose μ c w) 12 d = nI (F d 0) := by rw [ho2 12 d (by omega) (by omega) (by omega) (by omega)]; exact c12d
    have f13 : -(d : Int) ≤ (mI (eClose μ c w) 13 d).toInt ∧ (mI (eClose μ c w) 13 d).toInt ≤ 2000 := by rw [ho2 13 d (by omega) (by omega) (by omega) (by omega)]; exact hb
    have f19 : ∀ p, p < d → mI (eClose μ c w) 14 d = nI p → mI (eClose μ c w) 19 d = nI (F d 8) := fun p hp h14 => by
      rw [ho2 14 d (by omega) (by omega) (by omega) (by omega)] at h14
      rw [ho2 19 d (by omega) (by omega) (by omega) (by omega)]; exact c19d p hp h14
    have f5 : mI τ2 5 d = mI τ 5 d := by rw [hj _ _ (by omega), e5]
    have f7 : mI τ2 7 d = mI τ 7 d := by rw [hj _ _ (by omega), e7]
    have f6 : mI τ2 6 d = if d = c then mI μ 0 1 else mI τ 6 d := by rw [hj _ _ (by omega)]; exact ke d hd
    by_cases hdc : d = c
    · have hF : clF μ F c w d = upx (F c) 1 w := if_pos hdc
      rw [hF] at hτ ⊢
      subst hdc
      refine ⟨?_, hτ, f12, eC_15, f19, f3, f4, by rw [f6, if_pos rfl, eC_17], fun q => ?_, f13, fun q => ?_⟩
      · unfold aBd
        simp [upx]
        omega
      · have q : w = 1 := q
        omega
      · have q : w = 2 := q
        omega
    · rw [hδ d hdc] at hq
      have f15 : mI (eClose μ c w) 15 d = mI μ 15 d := eC_o (fun q => hdc q.2) (by omega) (by omega)
      have f17 : mI τ2 6 d = mI (eClose μ c w) 17 d := by rw [f6, if_neg hdc, r6, eC_o (by omega) (fun q => hdc q.2) (by omega)]
      have fW : ∀ pl, pW τ μ d pl → pW τ2 (eClose μ c w) d pl := fun pl ⟨z, f, z1, z2, z3, z4, z5⟩ => ⟨z, f, z1, z2, by rw [ho2 21 d (by omega) (by omega) (by omega) (by omega)]; exact z3, fun j hj => ⟨(z4 j hj).1, by rw [ho2 20 _ (by omega) (by omega) (by omega) (by omega)]; exact (z4 j hj).2⟩, by rw [f7]; exact z5⟩
      have fR5 : (F d 5 = 1 → (∀ e, e < n → qTry μ d e → mI τ 5 d = mI μ 18 e) ∧ ((0 : Nat) = 1 → mI τ 5 d = mI μ 0 1)) → (F d 5 = 1 → (∀ e, e < n → qTry (eClose μ c w) d e → mI τ2 5 d = mI (eClose μ c w) 18 e) ∧ ((0 : Nat) = 1 → mI τ2 5 d = mI (eClose μ c w) 0 1)) := fun h q => ⟨fun e he hqt => by rw [f5, ho2 18 e (by omega) (by omega) (by omega) (by omega)]; exact (h q).1 e he (eC_T.mp hqt), fun z => absurd z (by decide)⟩
      have hcO := c_O (p := d) hc ho hw3 hw
      by_cases hpa : mI μ 14 c = nI d ∧ mI μ 15 d = 2
      · have h1 : F d 1 = 2 := i_inj (by omega) (by omega) (c15d.symm.trans hpa.2)
        obtain ⟨q22, q23, q24, qT, qO, qAn, qB, qR, qW⟩ := hq h1 (by decide)
        rw [if_pos hpa.1] at hcO
        have hqt : qTry μ d c := wM_try hM hd hpa.2 hc ho hpa.1
        by_cases hw33 : w = 3
        · have hF : clF μ F c w d = upx (upx (F d) 6 (F d 6 - 1)) 7 1 := by unfold clF; rw [if_neg hdc, if_pos hpa, if_pos hw33]
          rw [hF] at hτ ⊢
          refine ⟨?_, hτ, f12, by rw [f15]; exact c15d, f19, f3, f4, f17, fun q => ?_, f13, fun _ _ => ⟨?_, ?_, ?_, ?_, ?_, ?_, qB, fR5 qR, fW _ qW⟩⟩
          · unfold aBd
            simp [upx]
            omega
          · have q : F d 1 = 1 := q
            omega
          · rw [ho2 22 d (by omega) (by omega) (by omega) (by omega)]; exact q22
          · rw [ho2 23 d (by omega) (by omega) (by omega) (by omega)]; exact q23
          · rw [ho2 24 d (by omega) (by omega) (by omega) (by omega)]; exact q24
          · show F d 5 = _
            rw [eC_fT]; exact qT
          · show F d 6 - 1 = _
            rw [qO]
            show cnt n (fO μ d) + 0 - 1 = cnt n (fO (eClose μ c w) d) + 0
            omega
          · show (1 = 0) ↔ _
            refine ⟨fun q => absurd q (by decide), fun q => absurd ?_ (q c hc (eC_T.mpr hqt))⟩
            rw [eC_15, hw33]; rfl
        · have hF : clF μ F c w d = upx (F d) 6 (F d 6 - 1) := by unfold clF; rw [if_neg hdc, if_pos hpa, if_neg hw33]
          rw [hF] at hτ ⊢
          refine ⟨?_, hτ, f12, by rw [f15]; exact c15d, f19, f3, f4, f17, fun q => ?_, f13, fun _ _ => ⟨?_, ?_, ?_, ?_, ?_, ?_, qB, fR5 qR, fW _ qW⟩⟩
          · unfold aBd
            simp [upx]
            omega
          · have q : F d 1 = 1 := q
            omega
          · rw [ho2 22 d (by omega) (by omega) (by omega) (by omega)]; exact q22
          · rw [ho2 23 d (by omega) (by omega) (by omega) (by omega)]; exact q23
          · rw [ho2 24 d (by omega) (by omega) (by omega) (by omega)]; exact q24
          · show F d 5 = _
            rw [eC_fT]; exact qT
          · show F d 6 - 1 = _
            rw [qO]
            show cnt n (fO μ d) + 0 - 1 = cnt n (fO (eClose μ c w) d) + 0
            omega
          · show F d 7 = 0 ↔ _
            refine qAn.trans ⟨fun h e he hqe => ?_, fun h e he hqe => ?_⟩
            · by_cases hec : e = c
              · rw [hec, eC_15]
                intro q
                exact hw33 (i_inj (b := 3) (by omega) (by omega) q)
              · rw [eC_o (fun q => hec q.2) (by omega) (by omega)]; exact h e he (eC_T.mp hqe)
            · by_cases hec : e = c
              · rw [hec]
                intro q
                rw [q] at ho
                exact absurd ho (by decide)
              · have := h e he (eC_T.mpr hqe)
                rw [eC_o (fun q => hec q.2) (by omega) (by omega)] at this
                exact this
      · have hF : clF μ F c w d = F d := by unfold clF; rw [if_neg hdc, if_neg hpa]
        rw [hF] at hτ ⊢
        refine ⟨hx, hτ, f12, by rw [f15]; exact c15d, f19, f3, f4, f17, fun q => by rw [f5, ho2 16 d (by omega) (by omega) (by omega) (by omega)]; exact r5 q, f13, fun h1 _ => ?_⟩
        obtain ⟨q22, q23, q24, qT, qO, qAn, qB, qR, qW⟩ := hq h1 (by decide)
        have h2 : mI μ 15 d = 2 := by rw [c15d, h1]; rfl
        have hnp : mI μ 14 c ≠ nI d := fun q => hpa ⟨q, h2⟩
        rw [if_neg hnp] at hcO
        refine ⟨?_, ?_, ?_, ?_, ?_, ?_, qB, fR5 qR, fW _ qW⟩
        · rw [ho2 22 d (by omega) (by omega) (by omega) (by omega)]; exact q22
        · rw [ho2 23 d (by omega) (by omega) (by omega) (by omega)]; exact q23
        · rw [ho2 24 d (by omega) (by omega) (by omega) (by omega)]; exact q24
        · rw [eC_fT]; exact qT
        · rw [qO]
          show cnt n (fO μ d) + 0 = cnt n (fO (eClose μ c w) d) + 0
          omega
        · refine qAn.trans ⟨fun h e he hqe => ?_, fun h e he hqe => ?_⟩
          · have hqe' := eC_T.mp hqe
            have hec : e ≠ c := fun q => hnp (by rw [← q]; exact hqe'.1)
            rw [eC_o (fun q => hec q.2) (by omega) (by omega)]; exact h e he hqe'
          · have hec : e ≠ c := fun q => hnp (by rw [← q]; exact hqe.1)
            have := h e he (eC_T.mpr hqe)
            rw [eC_o (fun q => hec q.2) (by omega) (by omega)] at this
            exact this
theorem i_3le {k : Nat} (h : k < 200) : ((3 : Int32) ≤ nI k) ↔ 3 ≤ k := nI_leI (a := 3) (by omega) (by omega)
theorem i_2lt {k : Nat} (h : k < 200) : ((2 : Int32) < nI k) ↔ 2 < k := nI_ltI (a := 2) (by omega) (by omega)
theorem l_endLoop {τ μ : mS} {n d : Nat} {F : Nat → Nat → Nat} {Q : mS → Prop} (hM : wM μ n) (P : PL τ μ n F d0) (hd : d ≤ n) (hQ : ∀ τ' F', PL τ' (eLoop (n - d) d μ) n F' d0 → Q τ') : lLE (nI d) τ Q := by
  have hn := P.1.2.2.2.2.1
  unfold lLE
  refine ⟨fun m y τ' => ∃ e μ' F', y = nI e ∧ e ≤ n ∧ m = n - e ∧ PL τ' μ' n F' d0 ∧ wM μ' n ∧ eLoop (n - e) e μ' = eLoop (n - d) d μ, ?_, n - d, d, μ, F, rfl, hd, rfl, P, hM, rfl⟩
  rintro m y τ' ⟨e, μ', F', rfl, he, rfl, P', hM', e1⟩
  have P'' := id P'
  obtain ⟨⟨g8, g0, g1, g2, gn, gt⟩, hS, hC⟩ := P''
  refine ⟨1, rfl, by decide, ?_⟩
  rw [g1]
  refine ⟨fun hl => ?_, fun hl => ?_⟩
  · have h1 : n ≤ e := (nI_leI (by omega) (by omega)).mp hl
    rw [show n - e = 0 by omega] at e1
    have e1 : μ' = _ := e1
    exact hQ τ' F' (by rw [← e1]; exact P')
  · have h1 : e < n := Nat.not_le.mp fun q => hl ((nI_leI (by omega) (by omega)).mpr q)
    rw [eLoop_s h1] at e1
    obtain ⟨hx, ha, c12, c15, c19, r3, r4, r6, r5, hb, hq⟩ := hC e h1
    have hx' := id hx
    unfold aBd at hx'
    have keep : ¬ eCond μ' e → ∃ k, k < n - e ∧ ∃ e' μ2 F2, nI e + 1 = nI e' ∧ e' ≤ n ∧ k = n - e' ∧ PL τ' μ2 n F2 d0 ∧ wM μ2 n ∧ eLoop (n - e') e' μ2 = eLoop (n - d) d μ := fun hne => by
      rw [show eStep μ' e = μ' from if_neg hne] at e1
      exact ⟨n - (e + 1), by omega, e + 1, μ', F', nI_1 e, by omega, rfl, P', hM', e1⟩
    refine ⟨e, rfl, by omega, ?_⟩
    rw [r4]
    refine ⟨fun hneg => keep (fun q => ?_), fun hnn => ?_⟩
    · rcases wM_par hM' h1 with hpar | ⟨p, hp, hpar⟩
      · exact q.2.1 hpar
      · rw [hpar] at hneg; exact absurd hneg (nI_pos (by omega))
    · rcases wM_par hM' h1 with hpar | ⟨p, hp, hpar⟩
      · rw [hpar] at hnn; exact absurd (by decide) hnn
      · obtain ⟨hxp, hap, -, c15p, -⟩ := hC p (by omega)
        have hxp' := id hxp
        unfold aBd at hxp'
        refine q_get1 (by omega) hx ha ⟨fun h2 => keep (fun q => ?_), fun h2 => ⟨e, rfl, by omega, ?_⟩⟩
        · have h3 := (i_2lt (by omega)).mp h2
          have h4 := q.1
          rw [c15] at h4
          have := (i_lt3 (by omega)).mp h4
          omega
        · have ho : mI μ' 15 e < 3 := by
            rw [c15]
            refine (i_lt3 (by omega)).mpr ?_
            have : ¬ 2 < F' e 1 := fun q => h2 ((i_2lt (by omega)).mpr q)
            omega
          rw [r4, hpar]
          refine q_get1 (by omega) hxp hap ⟨fun h3 => ?_, fun h3 => keep (fun q => ?_)⟩
          · have h3' := (i_3le (by omega)).mp h3
            have hov : ¬ mI μ' 15 p < 3 := by
              rw [c15p]
              intro q
              have := (i_lt3 (by omega)).mp q
              omega
            have hcond : eCond μ' e := ⟨ho, by rw [hpar]; exact i_ne1 (by omega), by rw [qP_e hpar (by omega)]; exact hov⟩
            rw [show eStep μ' e = eClose μ' e 7 from (if_pos hcond).trans eC7.symm] at e1
            refine q_put1 (v := 7) (by omega) hx ha (by decide) ⟨0, rfl, by decide, e, rfl, by omega, ?_⟩
            rintro _ rfl
            have hcl : ∀ d, d < n → clF μ' F' e 7 d = if d = e then upx (F' e) 1 7 else F' d := fun d hd => by
              unfold clF
              by_cases hde : d = e
              · rw [if_pos hde, if_pos hde]
              · rw [if_neg hde, if_neg hde, if_neg (fun q => ?_)]
                have hdp : d = p := i_inj (by omega) (by omega) (q.1.symm.trans hpar)
                rw [hdp] at q
                rw [q.2] at hov
                exact hov (by decide)
            have hPL : PL (sI (sI τ' 2 e (nI (aw (upx (F' e) 1 7)))) 6 e (mI (sI τ' 2 e (nI (aw (upx (F' e) 1 7)))) 0 0)) (eClose μ' e 7) n (clF μ' F' e 7) d0 := by
              refine pl_close (τ' := sI (sI τ' 2 e (nI (aw (upx (F' e) 1 7)))) 6 e (mI (sI τ' 2 e (nI (aw (upx (F' e) 1 7)))) 0 0)) (w := 7) hM' P' (fun _ _ => rfl) h1 ho (by decide) (by decide) ⟨g8, ?_, ?_, ?_, fun k => ?_, fun d hd => ?_, fun d hd => ⟨?_, ?_, ?_, ?_⟩, fun d hd => ?_⟩ g8 (fun _ _ _ => rfl) (fun k => ?_)
              · rw [oI (by omega), oI (by omega)]
              · rw [oI (by omega), oI (by omega)]
              · rw [oI (by omega), oI (by omega), if_neg (by rw [hpar]; exact i_ne1 (by omega))]
              · rw [oI (by omega), oI (by omega)]
              · rw [oI (by omega), hcl d hd]
                by_cases hde : d = e
                · rw [if_pos hde, hde, nIi]
                · rw [if_neg hde, oI (fun q => hde q.2)]; exact (hC d hd).2.1
              · rw [oI (by omega), oI (by omega)]
              · rw [oI (by omega), oI (by omega)]
              · rw [oI (by omega), oI (by omega)]
              · rw [oI (by omega), oI (by omega)]
              · by_cases hde : d = e
                · rw [if_pos hde, hde, nIi, oI (by omega), g0]
                · rw [if_neg hde, oI (fun q => hde q.2), oI (by omega)]
              · rw [if_neg (by omega), if_neg (by omega), oI (by omega), oI (by omega)]
            exact ⟨n - (e + 1), by omega, e + 1, _, _, nI_1 e, by omega, rfl, hPL, wM_close hM' h1 (by decide) (by decide), e1⟩
          · have h4 := q.2.2
            rw [qP_e hpar (by omega), c15p] at h4
            refine h4 ((i_lt3 (by omega)).mpr ?_)
            exact Nat.not_le.mp fun z => h3 ((i_3le (by omega)).mpr z)
