/-- a call that stays open is changed -/
theorem pl_st {τ τ' μ μ' : mS} {n c : Nat} {F : Nat → Nat → Nat} {x' : Nat → Nat} (P : PL τ μ n F d0) (hc : c < n) (ho : mI μ 15 c < 3) (ho' : mI μ' 15 c < 3) (hm : ∀ a b, ¬ (b = c ∧ (a = 15 ∨ a = 16 ∨ a = 21 ∨ a = 22 ∨ a = 23 ∨ a = 24)) → ¬ (a = 20 ∧ 3 * c ≤ b ∧ b < 3 * c + 3) → mI μ' a b = mI μ a b) (hN : mN τ' = 8) (ht : ∀ j k, ¬ ((j = 2 ∨ j = 5 ∨ j = 7) ∧ k = c) → mI τ' j k = mI τ j k) (hC' : pC τ' μ' n x' 0 c) : PL τ' μ' n (fun d => if d = c then x' else F d) d0 := by
  obtain ⟨⟨g8, g0, g1, g2, gn, t, ht1, gt⟩, hS, hC⟩ := P
  have h15 : ∀ e, mI μ' 15 e < 3 ↔ mI μ 15 e < 3 := fun e => by
    by_cases hec : e = c
    · rw [hec]; exact ⟨fun _ => ho, fun _ => ho'⟩
    · rw [hm _ _ (by omega) (by omega)]
  have f2 : fR μ' = fR μ := by
    funext e
    simp only [fR]
    rw [hm 14 e (by omega) (by omega)]
    exact decide_eq_decide.mpr (and_congr Iff.rfl (not_congr (h15 e)))
  refine ⟨⟨hN, by rw [ht _ _ (by omega), hm _ _ (by omega) (by omega)]; exact g0, by rw [ht _ _ (by omega)]; exact g1, by rw [ht _ _ (by omega), f2]; exact g2, gn, t, ht1, by rw [hm _ _ (by omega) (by omega)]; exact gt⟩, fun s hs => ?_, fun d hd => ?_⟩
  · obtain ⟨⟨w1, w2, w3⟩, ⟨a, f, a1, a2, a3, a4⟩, v0, v1, v2, v4, v5, v6, v7, v8, v9⟩ := hS s hs
    refine ⟨⟨w1, w2, by rw [hm _ _ (by omega) (by omega)]; exact w3⟩, ⟨a, f, a1, by rw [hm _ _ (by omega) (by omega)]; exact a2, fun j hj => ⟨(a3 j hj).1, by rw [hm _ _ (by omega) (by omega)]; exact (a3 j hj).2⟩, by rw [ht _ _ (by omega)]; exact a4⟩, ?_, ?_, ?_, ?_, ?_, ?_, ?_, ?_, ?_⟩
    · rw [ht _ _ (by omega), hm _ _ (by omega) (by omega)]; exact v0
    · rw [ht _ _ (by omega), hm _ _ (by omega) (by omega)]; exact v1
    · rw [ht _ _ (by omega), hm _ _ (by omega) (by omega)]; exact v2
    · rw [ht _ _ (by omega), hm _ _ (by omega) (by omega)]; exact v4
    · rw [ht _ _ (by omega), hm _ _ (by omega) (by omega)]; exact v5
    · rw [ht _ _ (by omega), hm _ _ (by omega) (by omega)]; exact v6
    · rw [ht _ _ (by omega), hm _ _ (by omega) (by omega)]; exact v7
    · rw [ht _ _ (by omega), hm _ _ (by omega) (by omega)]; exact v8
    · rw [ht _ _ (by omega), hm _ _ (by omega) (by omega)]; exact v9
  · show pC τ' μ' n (if d = c then x' else F d) 0 d
    by_cases hdc : d = c
    · rw [if_pos hdc, hdc]; exact hC'
    · rw [if_neg hdc]
      obtain ⟨hx, ha, c12, c15, c19, r3, r4, r6, r5, hb, hq⟩ := hC d hd
      have fT' : fT μ' d = fT μ d := fT_c (fun b => hm _ _ (by omega) (by omega)) (fun b => hm _ _ (by omega) (by omega)) (hm _ _ (by omega) (by omega))
      have fO' : fO μ' d = fO μ d := by
        funext e
        simp only [fO]
        rw [hm 14 e (by omega) (by omega)]
        exact decide_eq_decide.mpr (and_congr Iff.rfl (h15 e))
      have fq : ∀ e, qTry μ' d e ↔ qTry μ d e := fun e => by unfold qTry; rw [hm _ _ (by omega) (by omega), hm _ _ (by omega) (by omega), hm _ _ (by omega) (by omega)]
      have f15 : ∀ e, mI μ' 15 e ≠ 3 ↔ mI μ 15 e ≠ 3 := fun e => by
        by_cases hec : e = c
        · rw [hec]
          exact ⟨fun _ q => absurd ho (by rw [q]; decide), fun _ q => absurd ho' (by rw [q]; decide)⟩
        · rw [hm _ _ (by omega) (by omega)]
      refine ⟨hx, by rw [ht _ _ (by omega)]; exact ha, by rw [hm _ _ (by omega) (by omega)]; exact c12, by rw [hm _ _ (by omega) (by omega)]; exact c15, fun p hp h14 => by rw [hm _ _ (by omega) (by omega)] at h14 ⊢; exact c19 p hp h14, by rw [ht _ _ (by omega), hm _ _ (by omega) (by omega)]; exact r3, by rw [ht _ _ (by omega), hm _ _ (by omega) (by omega)]; exact r4, by rw [ht _ _ (by omega), hm _ _ (by omega) (by omega)]; exact r6, fun q => by rw [ht _ _ (by omega), hm _ _ (by omega) (by omega)]; exact r5 q, by rw [hm _ _ (by omega) (by omega)]; exact hb, fun h1 _ => ?_⟩
      obtain ⟨q22, q23, q24, qT, qO, qAn, qB, qR, z, f, z1, z2, z3, z4, z5⟩ := hq h1 (show (0 : Nat) ≠ 2 by decide)
      refine ⟨by rw [hm _ _ (by omega) (by omega)]; exact q22, by rw [hm _ _ (by omega) (by omega)]; exact q23, by rw [hm _ _ (by omega) (by omega)]; exact q24, by rw [fT']; exact qT, by rw [fO']; exact qO, qAn.trans ⟨fun h e he hqd => (f15 e).mpr (h e he ((fq e).mp hqd)), fun h e he hqd => (f15 e).mp (h e he ((fq e).mpr hqd))⟩, qB, fun h5 => ⟨fun e he hqd => by rw [ht _ _ (by omega), hm _ _ (by omega) (by omega)]; exact (qR h5).1 e he ((fq e).mp hqd), fun hδ => by rw [ht _ _ (by omega), hm _ _ (by omega) (by omega)]; exact (qR h5).2 hδ⟩, z, f, z1, z2, by rw [hm _ _ (by omega) (by omega)]; exact z3, fun j hj => ⟨(z4 j hj).1, by rw [hm _ _ (by omega) (by omega)]; exact (z4 j hj).2⟩, by rw [ht _ _ (by omega)]; exact z5⟩
theorem pl_wrk {τ τ' μ : mS} {n c s : Nat} {F : Nat → Nat → Nat} (P : PL τ μ n F d0) (hc : c < n) (ho : mI μ 15 c < 3) (hs : s < 6) (hsv : mI μ 12 c = nI s) (hN : mN τ' = 8) (ht : ∀ j k, ¬ ((j = 2 ∨ j = 5) ∧ k = c) → mI τ' j k = mI τ j k) (h2 : mI τ' 2 c = nI (aw (upx (F c) 1 1))) (h5 : mI τ' 5 c = mI μ 0 1 + mI μ 1 s) : PL τ' (eWrk μ c) n (fun d => if d = c then upx (F c) 1 1 else F d) d0 := by
  obtain ⟨hx, ha, c12, c15, c19, r3, r4, r6, r5, hb, hq⟩ := P.2.2 c hc
  have hm : ∀ a b, ¬ (b = c ∧ (a = 15 ∨ a = 16)) → mI (eWrk μ c) a b = mI μ a b := fun a b h => by unfold eWrk; rw [oI (by omega), oI (by omega)]
  have h15 : mI (eWrk μ c) 15 c = 1 := by unfold eWrk; rw [oI (by omega), nIi]
  refine pl_st P hc ho (by rw [h15]; decide) (fun a b q1 q2 => hm a b (by omega)) hN (fun j k q => ht j k (by omega)) ⟨aBd_1 hx (by decide), h2, by rw [hm _ _ (by omega)]; exact c12, h15, fun p hp h14 => by rw [hm _ _ (by omega)] at h14 ⊢; exact c19 p hp h14, by rw [ht _ _ (by omega), hm _ _ (by omega)]; exact r3, by rw [ht _ _ (by omega), hm _ _ (by omega)]; exact r4, by rw [ht _ _ (by omega), hm _ _ (by omega)]; exact r6, fun _ => ?_, by rw [hm _ _ (by omega)]; exact hb, fun q => absurd q (by simp [upx])⟩
  unfold eWrk
  rw [h5, nIi, qS_e hsv hs]
/-- numbers that are small: later than, in two ways -/
theorem i_later {x : Int32} {t w : Nat} (h1 : -100 ≤ x.toInt) (h2 : x.toInt ≤ 3000) (ht : t ≤ 1000) (hw : w ≤ 1000) : x - nI t < nI w ↔ x < nI t + nI w := by
  rw [nAdd, Int32.lt_iff_toInt_lt, Int32.lt_iff_toInt_lt, Int32.toInt_sub, nI_toInt (by omega), nI_toInt (by omega), nI_toInt (by omega), Int.bmod_eq_of_le (by omega) (by omega)]
  omega
def xNew (s pm : Nat) : Nat → Nat := fun j => if j = 0 then s else if j = 8 then pm else 0
theorem xNew_bd {s pm : Nat} (hs : s < 6) (hp : pm < 4) : aBd (xNew s pm) := by
  unfold aBd
  simp [xNew]
  omega
theorem xNew_aw {s pm : Nat} : aw (xNew s pm) = s + 262144 * pm := by
  unfold aw
  simp [xNew]
def dOf : Option Nat → Nat → Nat
  | none => d0
  | some p => fun d => if d = p then 1 else 0
theorem dOf_2 (par : Option Nat) (d : Nat) : dOf par d ≠ 2 := by
  cases par with
  | none => exact (by decide : (0 : Nat) ≠ 2)
  | some p =>
    show (if d = p then 1 else 0) ≠ 2
    split <;> decide
theorem pl_born {τ τ' μ : mS} {n s pm : Nat} {dl : Int32} {par : Option Nat} {F : Nat → Nat → Nat} (P : PL τ μ n F (dOf par)) (hn1 : n + 1 < 60) (hs : s < 6) (hpm : pm < 4) (hp : ∀ p, par = some p → p < n ∧ mI μ 15 p = 2 ∧ pm = F p 2) (hdl : -(n : Int) ≤ dl.toInt ∧ dl.toInt ≤ 2000)
    (hN : mN τ' = 8) (t0 : mI τ' 0 0 = mI τ 0 0) (t1 : mI τ' 0 1 = nI (n + 1)) (t2 : mI τ' 0 2 = mI τ 0 2) (tv : ∀ k, mI τ' 1 k = mI τ 1 k) (tr : ∀ j d, 2 ≤ j → j ≤ 7 → d ≠ n → mI τ' j d = mI τ j d) (n2 : mI τ' 2 n = nI (aw (xNew s pm))) (n3 : mI τ' 3 n = dl) (n4 : mI τ' 4 n = pv par) (n6 : mI τ' 6 n = -1) :
    PL τ' (sI (eBorn μ n s dl par) 15 n 0) (n + 1) (fun d => if d = n then xNew s pm else F d) d0 := by
  obtain ⟨⟨g8, g0, g1, g2, gn, t, ht1, gt⟩, hS, hC⟩ := P
  obtain ⟨x12, x13, x14, x15, x17, x18, x19, x0⟩ := eBorn_x (μ := μ) (n := n) (s := s) (dl := dl) (par := par)
  have hm : ∀ a b, b ≠ n → ¬ (a = 0 ∧ b = 13) → mI (sI (eBorn μ n s dl par) 15 n 0) a b = mI μ a b := fun a b q1 q2 => by rw [oI (by omega), eBorn_o (by omega) (by omega)]
  have hm2 : ∀ a b, a ≠ 12 → a ≠ 13 → a ≠ 14 → a ≠ 15 → a ≠ 17 → a ≠ 18 → a ≠ 19 → a ≠ 24 → a ≠ 0 → mI (sI (eBorn μ n s dl par) 15 n 0) a b = mI μ a b := fun a b q1 q2 q3 q4 q5 q6 q7 q8 q9 => by rw [oI (by omega), eBorn_o (by omega) (by omega)]
  have hat : ∀ a, a ≠ 15 → mI (sI (eBorn μ n s dl par) 15 n 0) a n = mI (eBorn μ n s dl par) a n := fun a q => oI (by omega)
  have m15 : mI (sI (eBorn μ n s dl par) 15 n 0) 15 n = 0 := nIi
  have m01 : mI (sI (eBorn μ n s dl par) 15 n 0) 0 1 = mI μ 0 1 := by rw [oI (by omega), eBorn_o (by omega) (by omega)]
  generalize sI (eBorn μ n s dl par) 15 n 0 = μ' at hm hm2 hat m15 m01 ⊢
  have hpv : ∀ d, d < n → (mI μ' 14 n = nI d ↔ par = some d) := fun d hd => by
    rw [hat 14 (by omega), x14]
    cases par with
    | none => exact ⟨fun q => absurd q.symm (i_ne1 (by omega)), fun q => by cases q⟩
    | some p => exact ⟨fun q => by rw [i_inj (by have := (hp p rfl).1; omega) (by omega) q], fun q => by cases q; rfl⟩
  have e2 : cnt (n + 1) (fR μ') = cnt n (fR μ) := by
    rw [cnt_succ, if_neg (by simp [fR, m15]), cnt_congr (g := fR μ) (fun d hd => by simp only [fR]; rw [hm 14 d (by omega) (by omega), hm 15 d (by omega) (by omega)])]
    rfl
  refine ⟨⟨hN, by rw [t0, g0, m01], t1, by rw [t2, g2, e2], hn1, t, ht1, by rw [m01]; exact gt⟩, fun r hr => ?_, fun d hd => ?_⟩
  · obtain ⟨⟨w1, w2, w3⟩, ⟨a, f, a1, a2, a3, a4⟩, v0, v1, v2, v4, v5, v6, v7, v8, v9⟩ := hS r hr
    have hm3 : ∀ a b, 1 ≤ a → a ≤ 11 → mI μ' a b = mI μ a b := fun a b q1 q2 => hm2 a b (by omega) (by omega) (by omega) (by omega) (by omega) (by omega) (by omega) (by omega) (by omega)
    simp (disch := omega) only [pS, tv, hm3]
    exact ⟨⟨w1, w2, w3⟩, ⟨a, f, a1, a2, a3, a4⟩, v0, v1, v2, v4, v5, v6, v7, v8, v9⟩
  · show pC τ' μ' (n + 1) (if d = n then xNew s pm else F d) 0 d
    by_cases hdn : d = n
    · rw [if_pos hdn, hdn]
      refine ⟨xNew_bd hs hpm, n2, by rw [hat 12 (by omega), x12]; rfl, by rw [m15]; rfl, fun p hpn h14 => ?_, by rw [n3, hat 13 (by omega), x13], by rw [n4, hat 14 (by omega), x14], by rw [n6, hat 17 (by omega), x17], fun q => absurd q (by simp [xNew]), by rw [hat 13 (by omega), x13]; exact hdl, fun q => absurd q (by simp [xNew])⟩
      have h1 := (hpv p hpn).mp h14
      obtain ⟨h2, h3, h4⟩ := hp p h1
      have hxp := hC p h2
      have h5 : F p 1 = 2 := i_inj (b := 2) (by have := hxp.1; unfold aBd at this; omega) (by omega) (hxp.2.2.2.1.symm.trans h3)
      have h6 := (hxp.2.2.2.2.2.2.2.2.2.2 h5 (dOf_2 par p)).1
      rw [hat 19 (by omega), x19, h1]
      show mI μ 22 p = nI (xNew s pm 8)
      rw [h6, ← h4]
      rfl
    · rw [if_neg hdn]
      have hd' : d < n := by omega
      obtain ⟨hx, ha, c12, c15, c19, r3, r4, r6, r5, hb, hq⟩ := hC d hd'
      refine ⟨hx, by rw [tr _ _ (by omega) (by omega) hdn]; exact ha, by rw [hm _ _ hdn (by omega)]; exact c12, by rw [hm _ _ hdn (by omega)]; exact c15, fun p hp2 h14 => by rw [hm _ _ hdn (by omega)] at h14 ⊢; exact c19 p hp2 h14, by rw [tr _ _ (by omega) (by omega) hdn, hm _ _ hdn (by omega)]; exact r3, by rw [tr _ _ (by omega) (by omega) hdn, hm _ _ hdn (by omega)]; exact r4, by rw [tr _ _ (by omega) (by omega) hdn, hm _ _ hdn (by omega)]; exact r6, fun q => by rw [tr _ _ (by omega) (by omega) hdn, hm _ _ hdn (by omega)]; exact r5 q, by rw [hm _ _ hdn (by omega)]; exact hb, fun h1 _ => ?_⟩
      obtain ⟨q22, q23, q24, qT, qO, qAn, qB, qR, z, f, z1, z2, z3, z4, z5⟩ := hq h1 (dOf_2 par d)
      have h22 : mI μ' 22 d = mI μ 22 d := hm2 22 d (by omega) (by omega) (by omega) (by omega) (by omega) (by omega) (by omega) (by omega) (by omega)
      have fq : ∀ e, e < n → (qTry μ' d e ↔ qTry μ d e) := fun e he => by unfold qTry; rw [hm 14 e (by omega) (by omega), hm 19 e (by omega) (by omega), h22]
      have fqn : qTry μ' d n ↔ par = some d := by
        refine ⟨fun q => (hpv d hd').mp q.1, fun q => ⟨(hpv d hd').mpr q, ?_⟩⟩
        rw [hat 19 (by omega), x19, h22, q]
        rfl
      have hδ : dOf par d = if par = some d then 1 else 0 := by
        cases par with
        | none => rw [if_neg (by simp)]; rfl
        | some p =>
          show (if d = p then 1 else 0) = _
          by_cases hdp : d = p
          · rw [if_pos hdp, if_pos (by rw [hdp])]
          · rw [if_neg hdp, if_neg (fun q => hdp (by cases q; rfl))]
      have eT : cnt (n + 1) (fT μ' d) = cnt n (fT μ d) + dOf par d := by
        rw [cnt_succ, hδ, cnt_congr (g := fT μ d) (fun e he => by simp only [fT]; exact decide_eq_decide.mpr (fq e he))]
        congr 1
        by_cases hpd : par = some d
        · rw [if_pos hpd, if_pos (decide_eq_true (fqn.mpr hpd))]
        · rw [if_neg hpd, if_neg (by simp only [fT, decide_eq_true_eq]; exact fun q => hpd (fqn.mp q))]
      have eO : cnt (n + 1) (fO μ' d) = cnt n (fO μ d) + dOf par d := by
        rw [cnt_succ, hδ, cnt_congr (g := fO μ d) (fun e he => by simp only [fO]; rw [hm 14 e (by omega) (by omega), hm 15 e (by omega) (by omega)])]
        congr 1
        by_cases hpd : par = some d
        · rw [if_pos hpd, if_pos (decide_eq_true ⟨(hpv d hd').mpr hpd, by rw [m15]; decide⟩)]
        · rw [if_neg hpd, if_neg (by simp only [fO, decide_eq_true_eq]; exact fun q => hpd ((hpv d hd').mp q.1))]
      refine ⟨by rw [h22]; exact q22, by rw [hm _ _ hdn (by omega)]; exact q23, by rw [hm _ _ hdn (by omega)]; exact q24, by rw [eT]; exact qT, by rw [eO]; exact qO, qAn.trans ⟨fun h e he hqe => ?_, fun h e he hqe => ?_⟩, qB, fun h5 => ⟨fun e he hqe => ?_, fun z => absurd z (by decide)⟩, z, f, z1, z2, by rw [hm _ _ hdn (by omega)]; exact z3, fun j hj => ⟨(z4 j hj).1, by rw [hm2 20 _ (by omega) (by omega) (by omega) (by omega) (by omega) (by omega) (by omega) (by omega) (by omega)]; exact (z4 j hj).2⟩, by rw [tr _ _ (by omega) (by omega) hdn]; exact z5⟩
      · by_cases hen : e = n
        · rw [hen, m15]; decide
        · rw [hm _ _ hen (by omega)]; exact h e (by omega) ((fq e (by omega)).mp hqe)
      · have := h e (by omega) ((fq e he).mpr hqe)
        rw [hm _ _ (by omega) (by omega)] at this
        exact this
      · rw [tr _ _ (by omega) (by omega) hdn]
        by_cases hen : e = n
        · have h6 := fqn.mp (by rw [← hen]; exact hqe)
          rw [hen, hat 18 (by omega), x18]
          exact (qR h5).2 (by rw [hδ, if_pos h6])
        · rw [hm _ _ hen (by omega)]; exact (qR h5).1 e (by omega) ((fq e (by omega)).mp hqe)
