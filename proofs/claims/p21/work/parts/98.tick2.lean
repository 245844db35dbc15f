/-- the same, where the call is told ahead of a try that is to be born -/
theorem pl_stX {τ τ' μ μ' : mS} {n c : Nat} {F : Nat → Nat → Nat} {x' : Nat → Nat} {δ' : Nat → Nat} (P : PL τ μ n F d0) (hδ' : ∀ d, d ≠ c → δ' d = 0) (hc : c < n) (ho : mI μ 15 c < 3) (ho' : mI μ' 15 c < 3) (hm : ∀ a b, ¬ (b = c ∧ (a = 15 ∨ a = 16 ∨ a = 21 ∨ a = 22 ∨ a = 23 ∨ a = 24)) → ¬ (a = 20 ∧ 3 * c ≤ b ∧ b < 3 * c + 3) → mI μ' a b = mI μ a b) (hN : mN τ' = 8) (ht : ∀ j k, ¬ ((j = 2 ∨ j = 5 ∨ j = 7) ∧ k = c) → mI τ' j k = mI τ j k) (hC' : pC τ' μ' n x' (δ' c) c) : PL τ' μ' n (fun d => if d = c then x' else F d) δ' := by
  obtain ⟨⟨g8, g0, g1, g2, gn, t, ht1, gt⟩, hS, hC⟩ := P
  have h15 : ∀ e, mI μ' 15 e < 3 ↔ mI μ 15 e < 3 := fun e => by
    by_cases hec : e = c
    · rw [hec]; exact ⟨fun _ => ho, fun _ => ho'⟩
    · rw [hm _ _ (by omega) (by omega)]
  have f2 : fR μ' = fR μ := by
    funext e
    simp only [fR]
    rw [hm 14 e (by omega) (by omega)]
    exact decide_eq_decide.mpr (and_congr Iff.rfl (not_congr (h15 e)))
  refine ⟨⟨hN, by rw [ht _ _ (by omega), hm _ _ (by omega) (by omega)]; exact g0, by rw [ht _ _ (by omega)]; exact g1, by rw [ht _ _ (by omega), f2]; exact g2, gn, t, ht1, by rw [hm _ _ (by omega) (by omega)]; exact gt⟩, fun s hs => ?_, fun d hd => ?_⟩
  · obtain ⟨⟨w1, w2, w3⟩, ⟨a, f, a1, a2, a3, a4⟩, v0, v1, v2, v4, v5, v6, v7, v8, v9⟩ := hS s hs
    refine ⟨⟨w1, w2, by rw [hm _ _ (by omega) (by omega)]; exact w3⟩, ⟨a, f, a1, by rw [hm _ _ (by omega) (by omega)]; exact a2, fun j hj => ⟨(a3 j hj).1, by rw [hm _ _ (by omega) (by omega)]; exact (a3 j hj).2⟩, by rw [ht _ _ (by omega)]; exact a4⟩, ?_, ?_, ?_, ?_, ?_, ?_, ?_, ?_, ?_⟩
    · rw [ht _ _ (by omega), hm _ _ (by omega) (by omega)]; exact v0
    · rw [ht _ _ (by omega), hm _ _ (by omega) (by omega)]; exact v1
    · rw [ht _ _ (by omega), hm _ _ (by omega) (by omega)]; exact v2
    · rw [ht _ _ (by omega), hm _ _ (by omega) (by omega)]; exact v4
    · rw [ht _ _ (by omega), hm _ _ (by omega) (by omega)]; exact v5
    · rw [ht _ _ (by omega), hm _ _ (by omega) (by omega)]; exact v6
    · rw [ht _ _ (by omega), hm _ _ (by omega) (by omega)]; exact v7
    · rw [ht _ _ (by omega), hm _ _ (by omega) (by omega)]; exact v8
    · rw [ht _ _ (by omega), hm _ _ (by omega) (by omega)]; exact v9
  · show pC τ' μ' n (if d = c then x' else F d) (δ' d) d
    by_cases hdc : d = c
    · rw [if_pos hdc, hdc]; exact hC'
    · rw [if_neg hdc, hδ' d hdc]
      obtain ⟨hx, ha, c12, c15, c19, r3, r4, r6, r5, hb, hq⟩ := hC d hd
      have fT' : fT μ' d = fT μ d := fT_c (fun b => hm _ _ (by omega) (by omega)) (fun b => hm _ _ (by omega) (by omega)) (hm _ _ (by omega) (by omega))
      have fO' : fO μ' d = fO μ d := by
        funext e
        simp only [fO]
        rw [hm 14 e (by omega) (by omega)]
        exact decide_eq_decide.mpr (and_congr Iff.rfl (h15 e))
      have fq : ∀ e, qTry μ' d e ↔ qTry μ d e := fun e => by unfold qTry; rw [hm _ _ (by omega) (by omega), hm _ _ (by omega) (by omega), hm _ _ (by omega) (by omega)]
      have f15 : ∀ e, mI μ' 15 e ≠ 3 ↔ mI μ 15 e ≠ 3 := fun e => by
        by_cases hec : e = c
        · rw [hec]
          exact ⟨fun _ q => absurd ho (by rw [q]; decide), fun _ q => absurd ho' (by rw [q]; decide)⟩
        · rw [hm _ _ (by omega) (by omega)]
      refine ⟨hx, by rw [ht _ _ (by omega)]; exact ha, by rw [hm _ _ (by omega) (by omega)]; exact c12, by rw [hm _ _ (by omega) (by omega)]; exact c15, fun p hp h14 => by rw [hm _ _ (by omega) (by omega)] at h14 ⊢; exact c19 p hp h14, by rw [ht _ _ (by omega), hm _ _ (by omega) (by omega)]; exact r3, by rw [ht _ _ (by omega), hm _ _ (by omega) (by omega)]; exact r4, by rw [ht _ _ (by omega), hm _ _ (by omega) (by omega)]; exact r6, fun q => by rw [ht _ _ (by omega), hm _ _ (by omega) (by omega)]; exact r5 q, by rw [hm _ _ (by omega) (by omega)]; exact hb, fun h1 _ => ?_⟩
      obtain ⟨q22, q23, q24, qT, qO, qAn, qB, qR, z, f, z1, z2, z3, z4, z5⟩ := hq h1 (show (0 : Nat) ≠ 2 by decide)
      refine ⟨by rw [hm _ _ (by omega) (by omega)]; exact q22, by rw [hm _ _ (by omega) (by omega)]; exact q23, by rw [hm _ _ (by omega) (by omega)]; exact q24, by rw [fT']; exact qT, by rw [fO']; exact qO, qAn.trans ⟨fun h e he hqd => (f15 e).mpr (h e he ((fq e).mp hqd)), fun h e he hqd => (f15 e).mp (h e he ((fq e).mpr hqd))⟩, qB, fun h5 => ⟨fun e he hqd => by rw [ht _ _ (by omega), hm _ _ (by omega) (by omega)]; exact (qR h5).1 e he ((fq e).mp hqd), fun hδ => by rw [ht _ _ (by omega), hm _ _ (by omega) (by omega)]; exact (qR h5).2 hδ⟩, z, f, z1, z2, by rw [hm _ _ (by omega) (by omega)]; exact z3, fun j hj => ⟨(z4 j hj).1, by rw [hm _ _ (by omega) (by omega)]; exact (z4 j hj).2⟩, by rw [ht _ _ (by omega)]; exact z5⟩
/-- the law's own field of snapshots is not there -/
theorem pl_25 {τ μ : mS} {n b : Nat} {F : Nat → Nat → Nat} {v : Int32} (P : PL τ μ n F d0) : PL τ (sI μ 25 b v) n F d0 := by
  obtain ⟨⟨g8, g0, g1, g2, gn, t, ht1, gt⟩, hS, hC⟩ := P
  have hm : ∀ x y, x ≠ 25 → mI (sI μ 25 b v) x y = mI μ x y := fun x y q => oI (by omega)
  generalize sI μ 25 b v = μ' at hm ⊢
  refine ⟨⟨g8, by rw [hm _ _ (by omega)]; exact g0, g1, by rw [fR_c (μ := μ) (fun b => hm _ _ (by omega)) (fun b => hm _ _ (by omega))]; exact g2, gn, t, ht1, by rw [hm _ _ (by omega)]; exact gt⟩, fun r hr => ?_, fun c hc => ?_⟩
  · have := hS r hr
    simp (disch := omega) only [pS, hm] at this ⊢
    exact this
  · have hq : ∀ d, qTry μ' c d ↔ qTry μ c d := fun d => by unfold qTry; rw [hm _ _ (by omega), hm _ _ (by omega), hm _ _ (by omega)]
    have := hC c hc
    have e1 : fT μ' c = fT μ c := fT_c (fun b => hm _ _ (by omega)) (fun b => hm _ _ (by omega)) (hm _ _ (by omega))
    have e2 : fO μ' c = fO μ c := fO_c (fun b => hm _ _ (by omega)) (fun b => hm _ _ (by omega))
    simp (disch := omega) only [pC, pQ, pW, hm, e1, e2, qTry] at this ⊢
    exact this
theorem pl_sn {τ : mS} {n : Nat} {F : Nat → Nat → Nat} : ∀ (k c : Nat) (μ : mS), PL τ μ n F d0 → PL τ (upL eSn k c μ) n F d0 := by
  intro k
  induction k with
  | zero => intro c μ h; exact h
  | succ k ih => intro c μ h; exact ih (c + 1) _ (pl_25 h)
/-- a tick of time -/
theorem pl_t0 {τ μ : mS} {n t : Nat} {F : Nat → Nat → Nat} (P : PL τ μ n F d0) (ht : mI μ 0 1 = nI t) (ht1 : t + 1 ≤ 1000) : PL (sI τ 0 0 (mI τ 0 0 + 1)) (eT0 μ) n F d0 := by
  obtain ⟨⟨g8, g0, g1, g2, gn, gt⟩, hS, hC⟩ := P
  have hm : ∀ x y, ¬ (x = 0 ∧ y = 1) → mI (eT0 μ) x y = mI μ x y := fun x y q => by unfold eT0; exact oI q
  have m01 : mI (eT0 μ) 0 1 = mI μ 0 1 + 1 := by unfold eT0; exact nIi
  generalize eT0 μ = μ' at hm m01 ⊢
  refine ⟨⟨g8, by rw [nIi, g0, m01], by rw [oI (by omega)]; exact g1, by rw [oI (by omega), fR_c (μ := μ) (fun b => hm _ _ (by omega)) (fun b => hm _ _ (by omega))]; exact g2, gn, t + 1, ht1, by rw [m01, ht]; exact nI_1 t⟩, fun r hr => ?_, fun c hc => ?_⟩
  · have := hS r hr
    simp (disch := omega) only [pS, hm, oI] at this ⊢
    exact this
  · obtain ⟨hx, ha, c12, c15, c19, r3, r4, r6, r5, hb, hq⟩ := hC c hc
    have e1 : fT μ' c = fT μ c := fT_c (fun b => hm _ _ (by omega)) (fun b => hm _ _ (by omega)) (hm _ _ (by omega))
    have e2 : fO μ' c = fO μ c := fO_c (fun b => hm _ _ (by omega)) (fun b => hm _ _ (by omega))
    simp (disch := omega) only [pC, hm, oI]
    refine ⟨hx, ha, c12, c15, c19, r3, r4, r6, r5, hb, fun h1 h2 => ?_⟩
    obtain ⟨q22, q23, q24, qT, qO, qAn, qB, qR, qW⟩ := hq h1 h2
    simp (disch := omega) only [pQ, pW, hm, oI, e1, e2, qTry] at *
    exact ⟨q22, q23, q24, qT, qO, qAn, qB, fun h5 => ⟨(qR h5).1, fun z => absurd (show (0 : Nat) = 1 from z) (by decide)⟩, qW⟩
theorem i_pred1 {x : Int32} (h1 : -100 ≤ x.toInt) (h2 : x.toInt ≤ 3000) : (x - 1).toInt = x.toInt - 1 := by
  rw [Int32.toInt_sub, show (1 : Int32).toInt = 1 from rfl]
  exact Int.bmod_eq_of_le (by omega) (by omega)
theorem cnt_le_of {n : Nat} {f g : Nat → Bool} (h : ∀ c, c < n → f c = true → g c = true) : cnt n f ≤ cnt n g := by
  induction n with
  | zero => exact Nat.le_refl _
  | succ n ih =>
    have h1 := ih (fun c hc => h c (by omega))
    have h2 := h n (by omega)
    rw [cnt_succ, cnt_succ]
    cases hf : f n with
    | false => simp; omega
    | true => rw [h2 hf]; simp; omega
abbrev fA (μ : mS) (d : Nat) : Nat → Bool := fun e => decide (d ≤ e ∧ mI μ 15 e = 2)
theorem fA_s {μ : mS} {n d : Nat} (hd : d < n) : cnt n (fA μ d) = cnt n (fA μ (d + 1)) + (if mI μ 15 d = 2 then 1 else 0) := by
  have h := cnt_upd (f := fA μ d) (g := fA μ (d + 1)) hd (fun e he hne => by simp only [fA]; exact decide_eq_decide.mpr ⟨fun q => ⟨by omega, q.2⟩, fun q => ⟨by omega, q.2⟩⟩)
  have h1 : fA μ (d + 1) d = false := decide_eq_false fun q => by omega
  have h2 : fA μ d d = decide (mI μ 15 d = 2) := by simp only [fA]; exact decide_eq_decide.mpr ⟨fun q => q.2, fun q => ⟨Nat.le_refl _, q⟩⟩
  rw [h1, h2] at h
  by_cases hq : mI μ 15 d = 2
  · rw [if_pos hq]; simp [hq] at h; omega
  · rw [if_neg hq]; simp [hq] at h; omega
/-- the tries that are wanted are made -/
theorem l_T4 {τ μ : mS} {n : Nat} {F : Nat → Nat → Nat} {Q : mS → Prop} (hM : wM μ n) (P : PL τ μ n F d0) (hA : n + cnt n (fA μ 0) ≤ 59) (hQ : ∀ τ' F', PL τ' (eMks μ) (qN (eMks μ)) F' d0 → lT5 τ' Q) : lT4 τ Q := by
  obtain ⟨j0, j1, jn⟩ := l_now P
  have hqn := qN_e hM
  have PS := pl_sn (qN μ) 0 μ P
  have hMS : wM (upL eSn (qN μ) 0 μ) n := wM_sn (μ := μ) _ _ _ hM
  have hF : eMks μ = upL eMkC n 0 (upL eSn (qN μ) 0 μ) := by unfold eMks; rw [hqn]
  have hA2 : n + cnt n (fA (upL eSn (qN μ) 0 μ) 0) ≤ 59 := by
    rw [cnt_congr (g := fA μ 0) (fun e he => by simp only [fA]; rw [sn_o (by omega)])]; exact hA
  generalize upL eSn (qN μ) 0 μ = μs at PS hMS hF hA2
  rw [hF] at hQ
  unfold lT4
  refine ⟨1, rfl, by decide, fun m y τ' => ∃ d μ' n' F', y = nI d ∧ d ≤ n ∧ n ≤ n' ∧ m = n - d ∧ PL τ' μ' n' F' d0 ∧ wM μ' n' ∧ n' + cnt n (fA μ' d) ≤ 59 ∧ upL eMkC (n - d) d μ' = upL eMkC n 0 μs, ?_, n, 0, μs, n, F, rfl, by omega, Nat.le_refl _, by omega, PS, hMS, hA2, rfl⟩
  rintro m y τ' ⟨d, μ', n', F', hy, hd, hnn, hm, P', hM', hA', e1⟩
  rw [hy, hm, j1]
  refine ⟨fun hl => ?_, fun hl => ?_⟩
  · have h1 : n ≤ d := (nI_leI (by omega) (by omega)).mp hl
    rw [show n - d = 0 by omega] at e1
    have e1 : μ' = _ := e1
    have h2 := qN_e hM'
    rw [e1] at h2
    exact hQ τ' F' (by rw [h2, ← e1]; exact P')
  · have h1 : d < n := Nat.not_le.mp fun q => hl ((nI_leI (by omega) (by omega)).mpr q)
    have h1' : d < n' := by omega
    have hn2 := hM'.2.2.2.1
    rw [upL_s h1] at e1
    rw [fA_s h1] at hA'
    obtain ⟨k0, k1, kn⟩ := l_now P'
    obtain ⟨hx, ha, c12, c15, c19, r3, r4, r6, r5, hb, hq⟩ := P'.2.2 d h1'
    have hx' := id hx
    unfold aBd at hx'
    obtain ⟨ho, hst⟩ := l_open P' h1'
    have keep : ¬ (mI μ' 24 d ≠ 0 ∧ mI μ' 15 d = 2) → ∃ k, k < n - d ∧ ∃ d' μ2 n2 F2, nI d + 1 = nI d' ∧ d' ≤ n ∧ n ≤ n2 ∧ k = n - d' ∧ PL τ' μ2 n2 F2 d0 ∧ wM μ2 n2 ∧ n2 + cnt n (fA μ2 d') ≤ 59 ∧ upL eMkC (n - d') d' μ2 = upL eMkC n 0 μs := fun hne => by
      rw [show eMkC μ' d = μ' from if_neg hne] at e1
      exact ⟨n - (d + 1), by omega, d + 1, μ', n', F', nI_1 d, by omega, hnn, rfl, P', hM', by omega, e1⟩
    refine q_get1 (by omega) hx ha ⟨fun h2 => keep (fun q => h2 ?_), fun h2 => q_get4 (by omega) hx ha ⟨fun h3 => ?_, fun h3 => keep (fun q => ?_)⟩⟩
    · rw [(hst 2 (by decide)).mp q.2]; rfl
    · have h12 : F' d 1 = 2 := i_inj (b := 2) (by omega) (by omega) h2
      have h15 : mI μ' 15 d = 2 := (hst 2 (by decide)).mpr h12
      obtain ⟨q22, q23, q24, qT, qO, qAn, qB, qR, z, f, z1, z2, z3, z4, z5⟩ := hq h12 (show (0 : Nat) ≠ 2 by decide)
      have hw1 : F' d 4 = 1 := by
        rcases (show F' d 4 = 0 ∨ F' d 4 = 1 by omega) with h | h
        · rw [h] at h3; exact absurd rfl h3
        · exact h
      have h24 : mI μ' 24 d ≠ 0 := by rw [q24]; exact h3
      rw [if_pos h15] at hA'
      have hst1 : mI (sI μ' 24 d 0) 15 d = 2 := by rw [oI (by omega)]; exact h15
      have hMw : wM (sI μ' 24 d 0) n' := wM_24 hM'
      obtain ⟨kk, rr, hkk, hrr, h22, h20, hqa⟩ := wM_asked hMw h1' hst1
      have hqn2 := qN_e hMw
      have hn200 : n' ≠ 200 := by omega
      have hmk : eMk1 (sI μ' 24 d 0) d = eBeg (eBorn (sI μ' 24 d 0) n' rr (mI (sI μ' 24 d 0) 13 d - 1) (some d)) (n' + 1) n' rr := by
        unfold eMk1; rw [hqn2, hqa, if_neg hn200]
      have hMk := wM_mk1 hMw h1' hst1
      rw [if_neg hn200] at hMk
      rw [show eMkC μ' d = eMk1 (sI μ' 24 d 0) d from if_pos ⟨h24, h15⟩] at e1
      have hOT : cnt n' (fO μ' d) ≤ cnt n' (fT μ' d) := cnt_le_of (fun c hc q => by
        have q := of_decide_eq_true q
        exact decide_eq_true (wM_try hM' h1' h15 hc q.2 q.1))
      have hOT2 : F' d 6 ≤ F' d 5 := by rw [qT, qO]; exact Nat.add_le_add_right hOT _
      have bx1 : aBd (upx (F' d) 4 0) := by unfold aBd; simp [upx]; omega
      have bx2 : aBd (upx (upx (F' d) 4 0) 5 (F' d 5 + 1)) := by unfold aBd; simp [upx]; omega
      have bx3 : aBd (upx (upx (upx (F' d) 4 0) 5 (F' d 5 + 1)) 6 (F' d 6 + 1)) := by unfold aBd; simp [upx]; omega
      refine q_put4 (v := 0) (by omega) hx ha (by decide) (q_get5 (x := upx (F' d) 4 0) (by omega) bx1 nIi ⟨fun σ => mN σ = 8 ∧ (∀ j k, ¬ ((j = 2 ∨ j = 5) ∧ k = d) → mI σ j k = mI τ' j k) ∧ mI σ 2 d = nI (aw (upx (F' d) 4 0)) ∧ (F' d 5 = 0 → mI σ 5 d = mI μ' 0 1), ?_, fun h5 => ⟨P'.1.1, fun j k q => oI (by omega), nIi, fun q => absurd (by show nI (F' d 5) = 0; rw [q]; rfl) h5⟩, fun h5 => ⟨0, rfl, by decide, d, rfl, by omega, ?_⟩⟩)
      · rintro σ ⟨s8, so, s2, s5⟩
        refine q_get5 (x := upx (F' d) 4 0) (by omega) bx1 s2 ?_
        show w_L_put (nI d) 11 3 (nI (F' d 5) + 1) σ _
        rw [show nI (F' d 5) + 1 = nI (F' d 5 + 1) from nI_1 _]
        refine q_put5 (x := upx (F' d) 4 0) (by omega) bx1 s2 (by omega) (q_get6 (x := upx (upx (F' d) 4 0) 5 (F' d 5 + 1)) (by omega) bx2 nIi ?_)
        show w_L_put (nI d) 14 3 (nI (F' d 6) + 1) _ _
        rw [show nI (F' d 6) + 1 = nI (F' d 6 + 1) from nI_1 _]
        refine q_put6 (x := upx (upx (F' d) 4 0) 5 (F' d 5 + 1)) (by omega) bx2 nIi (by omega) ?_
        generalize hτ1 : sI (sI σ 2 d (nI (aw (upx (upx (F' d) 4 0) 5 (F' d 5 + 1))))) 2 d (nI (aw (upx (upx (upx (F' d) 4 0) 5 (F' d 5 + 1)) 6 (F' d 6 + 1)))) = τ1
        have o1 : ∀ j k, ¬ ((j = 2 ∨ j = 5) ∧ k = d) → mI τ1 j k = mI τ' j k := fun j k q => by rw [← hτ1, oI (by omega), oI (by omega)]; exact so j k q
        have a1 : mI τ1 2 d = nI (aw (upx (upx (upx (F' d) 4 0) 5 (F' d 5 + 1)) 6 (F' d 6 + 1))) := by rw [← hτ1, nIi]
        have b5 : F' d 5 = 0 → mI τ1 5 d = mI μ' 0 1 := fun q => by rw [← hτ1, oI (by omega), oI (by omega)]; exact s5 q
        have n8' : mN τ1 = 8 := by rw [← hτ1]; exact s8
        have hm : ∀ x y, ¬ (x = 24 ∧ y = d) → mI (sI μ' 24 d 0) x y = mI μ' x y := fun x y q => oI q
        have P1 : PL τ1 (sI μ' 24 d 0) n' (fun e => if e = d then upx (upx (upx (F' d) 4 0) 5 (F' d 5 + 1)) 6 (F' d 6 + 1) else F' e) (dOf (some d)) := by
          refine pl_stX (c := d) P' (fun e he => if_neg he) h1' (by rw [h15]; decide) (by rw [hst1]; decide) (fun x y q1 q2 => hm x y (by omega)) n8' (fun j k q => o1 j k (by omega)) ⟨bx3, a1, by rw [hm _ _ (by omega)]; exact c12, by rw [hm _ _ (by omega)]; exact c15, fun p2 hp2 h14 => by rw [hm _ _ (by omega)] at h14 ⊢; exact c19 p2 hp2 h14, by rw [o1 _ _ (by omega), hm _ _ (by omega)]; exact r3, by rw [o1 _ _ (by omega), hm _ _ (by omega)]; exact r4, by rw [o1 _ _ (by omega), hm _ _ (by omega)]; exact r6, fun q => absurd (show F' d 1 = 1 from q) (by omega), by rw [hm _ _ (by omega)]; exact hb, fun _ _ => ⟨by rw [hm _ _ (by omega)]; exact q22, by rw [hm _ _ (by omega)]; exact q23, nIi, ?_, ?_, ?_, ?_, fun h5 => ?_, z, f, z1, z2, by rw [hm _ _ (by omega)]; exact z3, fun j hj => ⟨(z4 j hj).1, by rw [hm _ _ (by omega)]; exact (z4 j hj).2⟩, by rw [o1 _ _ (by omega)]; exact z5⟩⟩
          · rw [fT_c (μ := μ') (fun b => hm _ _ (by omega)) (fun b => hm _ _ (by omega)) (hm _ _ (by omega)), show dOf (some d) d = 1 from if_pos rfl]
            show F' d 5 + 1 = _
            rw [qT]
            rfl
          · rw [fO_c (μ := μ') (fun b => hm _ _ (by omega)) (fun b => hm _ _ (by omega)), show dOf (some d) d = 1 from if_pos rfl]
            show F' d 6 + 1 = _
            rw [qO]
            rfl
          · refine qAn.trans ⟨fun h e he hqe => ?_, fun h e he hqe => ?_⟩
            · rw [hm _ _ (by omega)]
              unfold qTry at hqe
              rw [hm 14 _ (by omega), hm 19 _ (by omega), hm 22 _ (by omega)] at hqe
              exact h e he hqe
            · have := h e he (by unfold qTry; rw [hm 14 _ (by omega), hm 19 _ (by omega), hm 22 _ (by omega)]; exact hqe)
              rw [hm _ _ (by omega)] at this
              exact this
          · show F' d 5 + 1 + 0 ≤ F' d 3 + 2 ∧ F' d 3 ≤ 2
            omega
          · have h5 : F' d 5 + 1 = 1 := h5
            refine ⟨fun e he hqe => ?_, fun _ => by rw [hm _ _ (by omega)]; exact b5 (by omega)⟩
            have h6 : cnt n' (fT μ' d) = 0 := by
              have : F' d 5 = cnt n' (fT μ' d) := qT
              omega
            unfold qTry at hqe
            rw [hm 14 _ (by omega), hm 19 _ (by omega), hm 22 _ (by omega)] at hqe
            have := cnt_of0 h6 e he
            rw [show fT μ' d e = true from decide_eq_true hqe] at this
            cases this
        obtain ⟨wa1, -⟩ := w_asked (μ := μ') z1 z2 (fun j hj => (z4 j hj).1) z5
        have hrf : rr = f (F' d 2) := by
          rw [← hqa]
          unfold qA
          rw [oI (by omega), oI (by omega), q22, nI_clamp (by omega), (z4 _ z2).2, nI_clamp (by have := (z4 _ z2).1; omega)]
        refine ⟨d, rfl, by omega, d, rfl, by omega, ?_⟩
        rw [o1 7 d (by omega), wa1, show nI (f (F' d 2) + 1) - 1 = nI (f (F' d 2)) from nI_pred _, o1 3 d (by omega), r3, ← hrf]
        refine l_begin (par := some d) hMw P1 (by omega) hrr (fun p hp => by cases hp; exact ⟨h1', hst1⟩) ?_ (fun τ2 F2 P2 => ⟨n - (d + 1), by omega, d + 1, _, n' + 1, F2, nI_1 d, by omega, by omega, rfl, P2, ?_, ?_, ?_⟩)
        · rw [i_pred1 (by omega) (by omega)]; omega
        · rw [hm 13 d (by omega)] at hmk; rw [hmk] at hMk; exact hMk
        · rw [hm 13 d (by omega)] at hmk
          rw [← hmk]
          have h9 : cnt n (fA (eMk1 (sI μ' 24 d 0) d) (d + 1)) ≤ cnt n (fA μ' (d + 1)) := cnt_le_of (fun e he q => by
            have q := of_decide_eq_true q
            have h8 := (mk1_2 hMw q.2).2
            rw [oI (by omega)] at h8
            exact decide_eq_true ⟨q.1, h8⟩)
          omega
        · rw [hm 13 d (by omega)] at hmk; rw [hmk] at e1; exact e1
      · rintro _ rfl
        refine ⟨P'.1.1, fun j k q => by rw [oI (by omega), oI (by omega)], by rw [oI (by omega), nIi], fun _ => by rw [nIi, oI (by omega), k0]⟩
    · have h12 : F' d 1 = 2 := (hst 2 (by decide)).mp q.2
      exact q.1 (((hq h12 (show (0 : Nat) ≠ 2 by decide)).2.2.1).trans h3)
/-- those that wait begin -/
theorem l_T5 {τ μ : mS} {n : Nat} {F : Nat → Nat → Nat} {Q : mS → Prop} (hM : wM μ n) (P : PL τ μ n F d0) (hQ : ∀ τ' F', PL τ' (upL eTQ 6 0 μ) n F' d0 → Q τ') : lT5 τ Q := by
  unfold lT5
  refine ⟨fun m y τ' => ∃ s μ' F', y = nI s ∧ s ≤ 6 ∧ m = 6 - s ∧ PL τ' μ' n F' d0 ∧ wM μ' n ∧ upL eTQ (6 - s) s μ' = upL eTQ 6 0 μ, ?_, 6, 0, μ, F, rfl, by omega, rfl, P, hM, rfl⟩
  rintro m y τ' ⟨s, μ', F', hy, hs6, hm, P', hM', e1⟩
  rw [hy, hm]
  refine ⟨fun hl => ?_, fun hl => ?_⟩
  · have h1 : 6 ≤ s := (nI_leI (a := 6) (by omega) (by omega)).mp hl
    rw [show 6 - s = 0 by omega] at e1
    have e1 : μ' = _ := e1
    exact hQ τ' F' (by rw [← e1]; exact P')
  · have hs : s < 6 := Nat.not_le.mp fun q => hl ((nI_leI (a := 6) (by omega) (by omega)).mpr q)
    rw [upL_s hs] at e1
    have hMT : wM (eTQ μ' s) n := wM_TQ hM'
    have hE : eTQ μ' s = upL (eTq s) n 0 μ' := by unfold eTQ; rw [qN_e hM']
    refine ⟨fun m2 y2 τ2 => ∃ d μ2 F2, y2 = nI d ∧ d ≤ n ∧ m2 = n - d ∧ PL τ2 μ2 n F2 d0 ∧ wM μ2 n ∧ upL (eTq s) (n - d) d μ2 = eTQ μ' s, ?_, n, 0, μ', F', rfl, by omega, by omega, P', hM', hE.symm⟩
    rintro m2 y2 τ2 ⟨d, μ2, F2, hy2, hd, hm2, P2, hM2, e2⟩
    rw [hy2, hm2]
    obtain ⟨k0, k1, kn⟩ := l_now P2
    refine ⟨1, rfl, by decide, ?_⟩
    rw [k1]
    refine ⟨fun hl2 => ?_, fun hl2 => ?_⟩
    · have h1 : n ≤ d := (nI_leI (by omega) (by omega)).mp hl2
      rw [show n - d = 0 by omega] at e2
      have e2 : μ2 = _ := e2
      exact ⟨6 - (s + 1), by omega, s + 1, eTQ μ' s, F2, nI_1 s, by omega, rfl, by rw [← e2]; exact P2, hMT, e1⟩
    · have h1 : d < n := Nat.not_le.mp fun q => hl2 ((nI_leI (by omega) (by omega)).mpr q)
      rw [upL_s h1] at e2
      have hMq : wM (eTq s μ2 d) n := wM_tq hM2 h1
      obtain ⟨hx, ha, c12, c15, c19, r3, r4, r6, r5, hb, hq⟩ := P2.2.2 d h1
      have hx' := id hx
      unfold aBd at hx'
      obtain ⟨ho, hst⟩ := l_open P2 h1
      have keep : ¬ (qQd μ2 s d ∧ nI (cnt (qN μ2) (fK μ2 s 1)) < mI μ2 6 s) → ∃ k, k < n - d ∧ ∃ d' μ3 F3, nI d + 1 = nI d' ∧ d' ≤ n ∧ k = n - d' ∧ PL τ2 μ3 n F3 d0 ∧ wM μ3 n ∧ upL (eTq s) (n - d') d' μ3 = eTQ μ' s := fun hne => by
        rw [show eTq s μ2 d = μ2 from if_neg hne] at e2
        exact ⟨n - (d + 1), by omega, d + 1, μ2, F2, nI_1 d, by omega, rfl, P2, hM2, e2⟩
      refine ⟨d, rfl, by omega, ?_⟩
      rw [ha, l_low6 hx]
      refine ⟨fun hne => keep (fun q => hne ?_), fun he => ?_⟩
      · have h2 := (hst 0 (by decide)).mp q.1.2
        have h3 : F2 d 0 = s := i_inj (by omega) (by omega) (c12.symm.trans q.1.1)
        rw [h2, h3]; rfl
      · have h2 := i_inj (by omega) (by omega) he
        have h10 : F2 d 1 = 0 := by omega
        have h00 : F2 d 0 = s := by omega
        have hqd : qQd μ2 s d := ⟨by rw [c12, h00], (hst 0 (by decide)).mpr h10⟩
        have hop : mI μ2 15 d < 3 := by rw [hqd.2]; decide
        obtain ⟨⟨wk, hwk, hwk2⟩, -, v0, v1, v2, v4, -⟩ := P2.2.1 s hs
        obtain ⟨-, -, -, -, -, t, ht1, gt⟩ := P2.1
        refine l_many P2 hs (k := 1) (by decide) ⟨10 * s + 4, n10 s 4, by omega, ?_⟩
        rw [v4]
        refine ⟨fun hfr => ⟨0, rfl, by decide, 10 * s, pk_mul 10 s, by omega, d, rfl, by omega, ?_⟩, fun hfr => keep (fun q => hfr (by have := q.2; rw [qN_e hM2] at this; exact this))⟩
        rw [k0, v0]
        intro σ51 h51
        have o51 : ∀ j k, ¬ (j = 5 ∧ k = d) → mI σ51 j k = mI τ2 j k := fun j k q => by rw [h51, oI q]
        have a51 : mI σ51 2 d = nI (aw (F2 d)) := by rw [o51 _ _ (by omega)]; exact ha
        rw [show eTq s μ2 d = _ from if_pos ⟨hqd, by rw [qN_e hM2]; exact hfr⟩] at e2 hMq
        refine ⟨d, rfl, by omega, d, rfl, by omega, ?_⟩
        rw [show mI σ51 5 d = mI μ2 0 1 + mI μ2 1 s by rw [h51, nIi], o51 3 d (by omega), r3]
        have hcmp : mI μ2 13 d - mI μ2 0 1 < mI μ2 1 s ↔ mI μ2 13 d < mI μ2 0 1 + mI μ2 1 s := by rw [gt, hwk2]; exact i_later (by omega) (by omega) ht1 hwk
        refine ⟨fun hle => ?_, fun hle => ?_⟩
        · rw [if_neg (fun q => absurd (hcmp.mp q) (Int32.not_lt.mpr hle))] at e2 hMq
          refine q_put1 (v := 1) (by omega) hx a51 (by decide) ⟨n - (d + 1), by omega, d + 1, _, _, nI_1 d, by omega, rfl, pl_wrk P2 h1 hop hs hqd.1 (by rw [h51]; exact P2.1.1) (fun j k q => by rw [oI (by omega), o51 _ _ (by omega)]) nIi (by rw [oI (by omega), h51, nIi]), hMq, e2⟩
        · rw [if_pos (hcmp.mpr (Int32.not_le.mp hle))] at e2 hMq
          have P51 : PL σ51 μ2 n (fun e => if e = d then F2 d else F2 e) d0 := pl_st (x' := F2 d) P2 h1 hop hop (fun _ _ _ _ => rfl) (by rw [h51]; exact P2.1.1) (fun j k q => o51 j k (by omega)) ⟨hx, a51, c12, c15, c19, by rw [o51 _ _ (by omega)]; exact r3, by rw [o51 _ _ (by omega)]; exact r4, by rw [o51 _ _ (by omega)]; exact r6, fun q => absurd q (by omega), hb, fun q => absurd q (by omega)⟩
          exact l_end (w := 6) hM2 P51 h1 hop (by decide) (by decide) (fun τ3 F3 P3 => ⟨n - (d + 1), by omega, d + 1, _, F3, nI_1 d, by omega, rfl, P3, hMq, e2⟩)
