theorem aBd_1 {x : Nat → Nat} {w : Nat} (h : aBd x) (hw : w < 8) : aBd (upx x 1 w) := by
  unfold aBd at *
  simp [upx]
  omega
theorem l_endX {τ μ : mS} {n c w : Nat} {F : Nat → Nat → Nat} {δ : Nat → Nat} {Q : mS → Prop} (hM : wM μ n) (P : PL τ μ n F δ) (hδ : ∀ d, d ≠ c → δ d = 0) (hc : c < n) (ho : mI μ 15 c < 3) (hw3 : 3 ≤ w) (hw : w < 8) (hQ : ∀ τ' F', PL τ' (eFin μ c w) n F' d0 → Q τ') : w_L_end (nI c) (nI w) τ Q := by
  have P'' := id P
  obtain ⟨⟨g8, g0, g1, g2, gn, gt⟩, hS, hC⟩ := P''
  obtain ⟨hx, ha, c12, c15, c19, r3, r4, r6, r5, hb, hq⟩ := hC c hc
  have hx' := id hx
  unfold aBd at hx'
  have hn2 := hM.2.2.2.1
  have fin : ∀ τ' F', PL τ' (eLoop (n - (c + 1)) (c + 1) (eClose μ c w)) n F' d0 → Q τ' := fun τ' F' h => hQ τ' F' (by unfold eFin; rw [qN_e hM]; exact h)
  unfold w_L_end
  refine q_put1 (by omega) hx ha hw ⟨0, rfl, by decide, c, rfl, by omega, ?_⟩
  rintro _ rfl
  refine ⟨c, rfl, by omega, fun τ' => pHalf τ τ' μ n F c w, fun τ' H => ?_, ?_⟩
  · have Hc : mI τ' 2 c = nI (aw (upx (F c) 1 w)) := by rw [H.2.2.2.2.2.1 c hc, show clF μ F c w c = upx (F c) 1 w from if_pos rfl]
    refine ⟨c, rfl, by omega, fun hne => ?_, fun he => ?_⟩
    · have hw33 : w ≠ 3 := fun q => hne (by rw [q]; rfl)
      show lLE (nI c + 1) τ' Q
      rw [nI_1]
      exact l_endLoop (wM_close hM hc hw3 hw) (pl_close hM P hδ hc ho hw3 hw H H.1 (fun _ _ _ => rfl) (fun k => by rw [if_neg (fun q => hw33 q.1), if_neg (fun q => hw33 q.1), H.2.2.2.2.1])) (by omega) fin
    · have hw33 : w = 3 := i_inj (b := 3) (by omega) (by omega) he
      rw [Hc, l_low3 (aBd_1 hx hw), show upx (F c) 1 w 0 = F c 0 from rfl]
      refine ⟨10 * F c 0 + 7, n10 (F c 0) 7, by omega, fun τ2 => mN τ2 = 8 ∧ (∀ j k, j ≠ 1 → mI τ2 j k = mI τ' j k) ∧ ∀ k, mI τ2 1 k = if k = 10 * F c 0 + 7 then mI τ 1 k + (if (50 : Int32) ≤ mI τ 1 k then 0 else 1) else mI τ 1 k, ?_, fun h50 => ⟨H.1, fun _ _ _ => rfl, fun k => ?_⟩, fun h50 => ⟨10 * F c 0 + 7, n10 (F c 0) 7, by omega, 10 * F c 0 + 7, n10 (F c 0) 7, by omega, ?_⟩⟩
      · rintro τ2 ⟨b1, b2, b3⟩
        refine ⟨10 * F c 0 + 8, n10 (F c 0) 8, by omega, ?_⟩
        rintro _ rfl
        show lLE (nI c + 1) (sI τ2 1 (10 * F c 0 + 8) 0) Q
        rw [nI_1]
        refine l_endLoop (wM_close hM hc hw3 hw) (pl_close hM P hδ hc ho hw3 hw H b1 (fun j k hj => by rw [oI (fun q => hj q.1), b2 j k hj]) (fun k => ?_)) (by omega) fin
        by_cases h8 : k = 10 * F c 0 + 8
        · rw [if_neg (by omega), if_pos ⟨hw33, h8⟩, h8, nIi]
        · rw [oI (fun q => h8 q.2), b3]
          by_cases h7 : k = 10 * F c 0 + 7
          · rw [if_pos h7, if_pos (show w = 3 ∧ k = 10 * F c 0 + 7 from ⟨hw33, h7⟩)]
          · rw [if_neg h7, if_neg (fun q => h7 q.2), if_neg (fun q => h8 q.2)]
      · rw [H.2.2.2.2.1] at h50 ⊢
        by_cases h7 : k = 10 * F c 0 + 7
        · rw [if_pos h7, h7, if_pos h50, Int32.add_zero]
        · rw [if_neg h7]
      · rintro _ rfl
        rw [H.2.2.2.2.1] at h50 ⊢
        refine ⟨H.1, fun j k hj => oI (fun q => hj q.1), fun k => ?_⟩
        by_cases h7 : k = 10 * F c 0 + 7
        · rw [if_pos h7, h7, nIi, if_neg h50]
        · rw [if_neg h7, oI (fun q => h7 q.2), H.2.2.2.2.1]
  · rw [oI (by omega), oI (by omega), r4]
    rcases wM_par hM hc with hpar | ⟨p, hp, hpar⟩
    · rw [hpar]
      refine ⟨fun q => absurd q (by decide), fun _ => ⟨2, rfl, by decide, 2, rfl, by decide, ?_⟩⟩
      rintro _ rfl
      refine ⟨g8, by rw [oI (by omega), oI (by omega), oI (by omega)], by rw [oI (by omega), oI (by omega), oI (by omega)], by rw [if_pos hpar, nIi, oI (by omega), oI (by omega)], fun k => by rw [oI (by omega), oI (by omega), oI (by omega)], fun d hd => ?_, fun d hd => ⟨by rw [oI (by omega), oI (by omega), oI (by omega)], by rw [oI (by omega), oI (by omega), oI (by omega)], by rw [oI (by omega), oI (by omega), oI (by omega)], by rw [oI (by omega), oI (by omega), oI (by omega)]⟩, fun d hd => ?_⟩
      · rw [oI (by omega), oI (by omega)]
        unfold clF
        by_cases hdc : d = c
        · rw [if_pos hdc, hdc, nIi]
        · rw [if_neg hdc, if_neg (fun q => by rw [hpar] at q; exact i_ne1 (by omega) q.1.symm), oI (fun q => hdc q.2)]; exact (hC d hd).2.1
      · rw [oI (by omega)]
        by_cases hdc : d = c
        · rw [if_pos hdc, hdc, nIi, oI (by omega), g0]
        · rw [if_neg hdc, oI (fun q => hdc q.2), oI (by omega)]
    · obtain ⟨hxp, hap, -, c15p, -, -, -, -, -, -, hqp⟩ := hC p (by omega)
      have hxp' := id hxp
      unfold aBd at hxp'
      have hpc : p ≠ c := by omega
      rw [hpar]
      refine ⟨fun _ => ?_, fun q => absurd (Int32.not_lt.mp (nI_pos (by omega))) q⟩
      generalize hτ9 : sI (sI τ 2 c (nI (aw (upx (F c) 1 w)))) 6 c (mI (sI τ 2 c (nI (aw (upx (F c) 1 w)))) 0 0) = τ9
      have k2 : ∀ d, mI τ9 2 d = if d = c then nI (aw (upx (F c) 1 w)) else mI τ 2 d := fun d => by
        rw [← hτ9, oI (by omega)]
        by_cases hdc : d = c
        · rw [if_pos hdc, hdc, nIi]
        · rw [if_neg hdc, oI (fun q => hdc q.2)]
      have k6 : ∀ d, mI τ9 6 d = if d = c then mI μ 0 1 else mI τ 6 d := fun d => by
        rw [← hτ9]
        by_cases hdc : d = c
        · rw [if_pos hdc, hdc, nIi, oI (by omega), g0]
        · rw [if_neg hdc, oI (fun q => hdc q.2), oI (by omega)]
      have ko : ∀ j k, j ≠ 2 → j ≠ 6 → mI τ9 j k = mI τ j k := fun j k h1 h2 => by rw [← hτ9, oI (by omega), oI (by omega)]
      have k8 : mN τ9 = 8 := by rw [← hτ9]; exact g8
      have hap9 : mI τ9 2 p = nI (aw (F p)) := by rw [k2, if_neg hpc]; exact hap
      have hac9 : mI τ9 2 c = nI (aw (upx (F c) 1 w)) := by rw [k2, if_pos rfl]
      have mk : ∀ τ', mN τ' = 8 → (∀ j k, j ≠ 2 → mI τ' j k = mI τ9 j k) → (∀ d, d < n → mI τ' 2 d = nI (aw (clF μ F c w d))) → pHalf τ τ' μ n F c w := fun τ' h1 h2 h3 =>
        ⟨h1, by rw [h2 _ _ (by omega), ko _ _ (by omega) (by omega)], by rw [h2 _ _ (by omega), ko _ _ (by omega) (by omega)], by rw [h2 _ _ (by omega), ko _ _ (by omega) (by omega), if_neg (by rw [hpar]; exact i_ne1 (by omega))], fun k => by rw [h2 _ _ (by omega), ko _ _ (by omega) (by omega)], h3, fun d hd => ⟨by rw [h2 _ _ (by omega), ko _ _ (by omega) (by omega)], by rw [h2 _ _ (by omega), ko _ _ (by omega) (by omega)], by rw [h2 _ _ (by omega), ko _ _ (by omega) (by omega)], by rw [h2 _ _ (by omega), ko _ _ (by omega) (by omega)]⟩, fun d hd => by rw [h2 _ _ (by omega), k6]⟩
      refine q_get1 (by omega) hxp hap9 ⟨fun hne => mk τ9 k8 (fun _ _ _ => rfl) (fun d hd => ?_), fun he => ?_⟩
      · rw [k2]
        unfold clF
        by_cases hdc : d = c
        · rw [if_pos hdc, if_pos hdc]
        · rw [if_neg hdc, if_neg hdc, if_neg (fun q => hne ?_)]
          · exact (hC d hd).2.1
          · have hdp : p = d := i_inj (by omega) (by omega) (hpar.symm.trans q.1)
            rw [← c15p, hdp]; exact q.2
      · have hst : mI μ 15 p = 2 := c15p.trans he
        have hst2 : F p 1 = 2 := i_inj (b := 2) (by omega) (by omega) he
        obtain ⟨q22, q23, q24, qT, qO, qAn, qB, qR, qW⟩ := hqp hst2 (by rw [hδ p hpc]; decide)
        rw [hδ p hpc] at qT qO qR
        have hqt : qTry μ p c := wM_try hM (by omega) hst hc ho hpar
        have h18 : F p 2 = F c 8 := i_inj (by omega) (by omega) (q22.symm.trans (hqt.2.symm.trans (c19 p hp hpar)))
        have hO1 : 0 < F p 6 := by
          rw [qO]
          have := cnt_pos (f := fO μ p) hc (decide_eq_true ⟨hpar, ho⟩)
          omega
        refine q_get2 (by omega) hxp hap9 (q_get8 (by omega) (aBd_1 hx hw) hac9 ⟨fun hne => absurd (by rw [h18]; rfl) hne, fun _ => q_get6 (by omega) hxp hap9 ?_⟩)
        rw [i_sub1 hO1]
        refine q_put6 (by omega) hxp hap9 (by omega) ⟨fun hne => mk _ k8 (fun j k hj => oI (fun q => hj q.1)) (fun d hd => ?_), fun he3 => q_put7 (v := 1) (x := upx (F p) 6 (F p 6 - 1)) (by omega) ?_ nIi (by decide) (mk _ k8 (fun j k hj => by rw [oI (fun q => hj q.1), oI (fun q => hj q.1)]) (fun d hd => ?_))⟩
        · have hw33 : w ≠ 3 := fun q => hne (by rw [q]; rfl)
          unfold clF
          by_cases hdc : d = c
          · rw [if_pos hdc, oI (by omega), hdc, hac9]
          · rw [if_neg hdc]
            by_cases hdp : d = p
            · rw [if_pos ⟨by rw [hdp]; exact hpar, by rw [hdp]; exact hst⟩, if_neg hw33, hdp, nIi]
            · rw [if_neg (fun q => hdp (i_inj (by omega) (by omega) (q.1.symm.trans hpar))), oI (fun q => hdp q.2), k2, if_neg hdc]; exact (hC d hd).2.1
        · unfold aBd
          simp [upx]
          omega
        · have hw33 : w = 3 := i_inj (b := 3) (by omega) (by omega) he3
          unfold clF
          by_cases hdc : d = c
          · rw [if_pos hdc, oI (by omega), oI (by omega), hdc, hac9]
          · rw [if_neg hdc]
            by_cases hdp : d = p
            · rw [if_pos ⟨by rw [hdp]; exact hpar, by rw [hdp]; exact hst⟩, if_pos hw33, hdp, nIi]
            · rw [if_neg (fun q => hdp (i_inj (by omega) (by omega) (q.1.symm.trans hpar))), oI (fun q => hdp q.2), oI (fun q => hdp q.2), k2, if_neg hdc]; exact (hC d hd).2.1
theorem l_end {τ μ : mS} {n c w : Nat} {F : Nat → Nat → Nat} {Q : mS → Prop} (hM : wM μ n) (P : PL τ μ n F d0) (hc : c < n) (ho : mI μ 15 c < 3) (hw3 : 3 ≤ w) (hw : w < 8) (hQ : ∀ τ' F', PL τ' (eFin μ c w) n F' d0 → Q τ') : w_L_end (nI c) (nI w) τ Q := l_endX hM P (fun _ _ => rfl) hc ho hw3 hw hQ
/-- a service alone is changed -/
theorem pl_svc {τ τ' μ μ' : mS} {n s : Nat} {F : Nat → Nat → Nat} {δ : Nat → Nat} (P : PL τ μ n F δ) (hs : s < 6) (hN : mN τ' = 8) (ht : ∀ j k, ¬ (j = 1 ∧ 10 * s ≤ k ∧ k < 10 * s + 10) → mI τ' j k = mI τ j k) (hm : ∀ a b, ¬ (b = s ∧ 1 ≤ a ∧ a ≤ 11 ∧ a ≠ 4 ∧ a ≠ 5) → mI μ' a b = mI μ a b) (hS' : pS τ' μ' s) : PL τ' μ' n F δ := by
  obtain ⟨⟨g8, g0, g1, g2, gn, t, ht1, gt⟩, hS, hC⟩ := P
  have f2 : fR μ' = fR μ := fR_c (fun b => hm _ _ (by omega)) (fun b => hm _ _ (by omega))
  refine ⟨⟨hN, by rw [ht _ _ (by omega), hm _ _ (by omega)]; exact g0, by rw [ht _ _ (by omega)]; exact g1, by rw [ht _ _ (by omega), f2]; exact g2, gn, t, ht1, by rw [hm _ _ (by omega)]; exact gt⟩, fun r hr => ?_, fun c hc => ?_⟩
  · by_cases hrs : r = s
    · rw [hrs]; exact hS'
    · obtain ⟨⟨w1, w2, w3⟩, ⟨a, f, a1, a2, a3, a4⟩, v0, v1, v2, v4, v5, v6, v7, v8, v9⟩ := hS r hr
      refine ⟨⟨w1, w2, by rw [hm _ _ (by omega)]; exact w3⟩, ⟨a, f, a1, by rw [hm _ _ (by omega)]; exact a2, fun j hj => ⟨(a3 j hj).1, by rw [hm _ _ (by omega)]; exact (a3 j hj).2⟩, by rw [ht _ _ (by omega)]; exact a4⟩, ?_, ?_, ?_, ?_, ?_, ?_, ?_, ?_, ?_⟩
      · rw [ht _ _ (by omega), hm _ _ (by omega)]; exact v0
      · rw [ht _ _ (by omega), hm _ _ (by omega)]; exact v1
      · rw [ht _ _ (by omega), hm _ _ (by omega)]; exact v2
      · rw [ht _ _ (by omega), hm _ _ (by omega)]; exact v4
      · rw [ht _ _ (by omega), hm _ _ (by omega)]; exact v5
      · rw [ht _ _ (by omega), hm _ _ (by omega)]; exact v6
      · rw [ht _ _ (by omega), hm _ _ (by omega)]; exact v7
      · rw [ht _ _ (by omega), hm _ _ (by omega)]; exact v8
      · rw [ht _ _ (by omega), hm _ _ (by omega)]; exact v9
  · obtain ⟨hx, ha, c12, c15, c19, r3, r4, r6, r5, hb, hq⟩ := hC c hc
    have fT' : fT μ' c = fT μ c := fT_c (fun b => hm _ _ (by omega)) (fun b => hm _ _ (by omega)) (hm _ _ (by omega))
    have fO' : fO μ' c = fO μ c := fO_c (fun b => hm _ _ (by omega)) (fun b => hm _ _ (by omega))
    have fq : ∀ d, qTry μ' c d ↔ qTry μ c d := fun d => by unfold qTry; rw [hm _ _ (by omega), hm _ _ (by omega), hm _ _ (by omega)]
    refine ⟨hx, by rw [ht _ _ (by omega)]; exact ha, by rw [hm _ _ (by omega)]; exact c12, by rw [hm _ _ (by omega)]; exact c15, fun p hp h14 => by rw [hm _ _ (by omega)] at h14 ⊢; exact c19 p hp h14, by rw [ht _ _ (by omega), hm _ _ (by omega)]; exact r3, by rw [ht _ _ (by omega), hm _ _ (by omega)]; exact r4, by rw [ht _ _ (by omega), hm _ _ (by omega)]; exact r6, fun q => by rw [ht _ _ (by omega), hm _ _ (by omega)]; exact r5 q, by rw [hm _ _ (by omega)]; exact hb, fun h1 h1b => ?_⟩
    obtain ⟨q22, q23, q24, qT, qO, qAn, qB, qR, z, f, z1, z2, z3, z4, z5⟩ := hq h1 h1b
    refine ⟨by rw [hm _ _ (by omega)]; exact q22, by rw [hm _ _ (by omega)]; exact q23, by rw [hm _ _ (by omega)]; exact q24, by rw [fT']; exact qT, by rw [fO']; exact qO, qAn.trans ⟨fun h d hd hqd => by rw [hm _ _ (by omega)]; exact h d hd ((fq d).mp hqd), fun h d hd hqd => by have := h d hd ((fq d).mpr hqd); rw [hm _ _ (by omega)] at this; exact this⟩, qB, fun h5 => ⟨fun d hd hqd => by rw [ht _ _ (by omega), hm _ _ (by omega)]; exact (qR h5).1 d hd ((fq d).mp hqd), fun hδ => by rw [ht _ _ (by omega), hm _ _ (by omega)]; exact (qR h5).2 hδ⟩, z, f, z1, z2, by rw [hm _ _ (by omega)]; exact z3, fun j hj => ⟨(z4 j hj).1, by rw [hm _ _ (by omega)]; exact (z4 j hj).2⟩, by rw [ht _ _ (by omega)]; exact z5⟩
theorem l_fault {τ μ : mS} {n s : Nat} {F : Nat → Nat → Nat} {Q : mS → Prop} (hM : wM μ n) (P : PL τ μ n F d0) (hs : s < 6) (hQ : ∀ τ', PL τ' (eTrb μ s) n F d0 → Q τ') : w_L_fault (nI s) τ Q := by
  have P'' := id P
  obtain ⟨⟨g8, g0, g1, g2, gn, gt⟩, hS, hC⟩ := P''
  obtain ⟨⟨w1, w2, w3⟩, ⟨a, f, a1, a2, a3, a4⟩, v0, v1, v2, v4, v5, v6, v7, v8, v9⟩ := hS s hs
  obtain ⟨⟨f3, hf3, hf⟩, -⟩ := hM.2.2.2.2.1 s hs
  unfold w_L_fault
  refine ⟨10 * s + 8, n10 s 8, by omega, 10 * s + 8, n10 s 8, by omega, ?_⟩
  rintro _ rfl
  refine ⟨10 * s + 8, n10 s 8, by omega, ?_⟩
  rw [nIi, v8, hf, show nI f3 + 1 = nI (f3 + 1) from nI_1 f3]
  unfold eTrb at hQ
  rw [hf, show nI f3 + 1 = nI (f3 + 1) from nI_1 f3] at hQ
  refine ⟨fun h3 => ⟨10 * s + 8, n10 s 8, by omega, ?_⟩, fun h3 => hQ _ ?_⟩
  · have h4 := (i_3le (by omega)).mp h3
    have h5 : nI (f3 + 1) = 3 := by rw [show f3 + 1 = 3 by omega]; rfl
    rw [if_pos h5] at hQ
    rintro _ rfl
    refine ⟨0, rfl, by decide, 10 * s + 9, n10 s 9, by omega, ?_⟩
    rintro _ rfl
    refine hQ _ (pl_svc P hs g8 (fun j k hjk => by rw [oI (by omega), oI (by omega), oI (by omega)]) (fun a b hab => by rw [oI (by omega), oI (by omega), oI (by omega)]) ?_)
    simp (disch := omega) only [pS, oI, nIi]
    exact ⟨⟨w1, w2, w3⟩, ⟨a, f, a1, a2, a3, a4⟩, v0, v1, v2, v4, v5, v6, v7, trivial, by rw [g0]⟩
  · have h4 : ¬ 3 ≤ f3 + 1 := fun q => h3 ((i_3le (by omega)).mpr q)
    have h5 : ¬ nI (f3 + 1) = 3 := fun q => by
      have := i_inj (b := 3) (by omega) (by omega) q
      omega
    rw [if_neg h5]
    refine pl_svc P hs g8 (fun j k hjk => by rw [oI (by omega)]) (fun a b hab => by rw [oI (by omega)]) ?_
    simp (disch := omega) only [pS, oI, nIi]
    exact ⟨⟨w1, w2, w3⟩, ⟨a, f, a1, a2, a3, a4⟩, v0, v1, v2, v4, v5, v6, v7, trivial, v9⟩
