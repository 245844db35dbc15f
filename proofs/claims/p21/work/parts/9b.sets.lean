/-! the law sets a service: its works, whom it asks, its room -/
section TS
variable {σ μ : mS} {n h b : Nat} {y y2 y3 y4 : Int32} {Q : Int32 → mS → Prop}
theorem t_setWork0 (R : R0 σ μ n h) (hb : 3 ≤ b) (hno : ∀ s, s < 6 → y ≠ nI s) (hQ : Q (-71) σ) : w_L_setWork y y2 y3 σ b Q := s_setWork0 R hb hno (Or.inl ⟨rfl, hQ⟩)
theorem t_setWork1 (R : R0 σ μ n h) (hb : 3 ≤ b) {s : Nat} (hs : s < 6) (hbad : (y2 < 1 ∨ 20 < y2) ∨ (y3 < 0 ∨ 20 < y3)) (hQ : Q (-72) σ) : w_L_setWork (nI s) y2 y3 σ b Q := s_setWork1 R hb hs hbad (Or.inr ⟨rfl, hQ⟩)
theorem t_setWork (R : R0 σ μ n h) (hb : 3 ≤ b) {s : Nat} (hs : s < 6) (g1 : ¬ y2 < 1 ∧ ¬ 20 < y2) (g2 : ¬ y3 < 0 ∧ ¬ 20 < y3) (hQ : ∀ σ', R0 σ' (eSW μ s y2 y3) n h → Q (mI μ 1 s) σ') : w_L_setWork (nI s) y2 y3 σ b Q := s_setWork R hb hs g1 g2 hQ
theorem t_setRoom0 (R : R0 σ μ n h) (hb : 4 ≤ b) (hno : ∀ s, s < 6 → y ≠ nI s) (hQ : Q (-71) σ) : w_L_setRoom y y2 y3 y4 σ b Q := s_setRoom0 R hb hno (Or.inl ⟨rfl, hQ⟩)
theorem t_setRoom1 (R : R0 σ μ n h) (hb : 4 ≤ b) {s : Nat} (hs : s < 6) (hbad : (y2 < 1 ∨ 5 < y2) ∨ (y3 < 0 ∨ 8 < y3) ∨ (y4 < 0 ∨ 50 < y4)) (hQ : Q (-72) σ) : w_L_setRoom (nI s) y2 y3 y4 σ b Q := s_setRoom1 R hb hs hbad (Or.inr ⟨rfl, hQ⟩)
theorem t_setRoom (R : R0 σ μ n h) (hb : 4 ≤ b) {s : Nat} (hs : s < 6) (g1 : ¬ y2 < 1 ∧ ¬ 5 < y2) (g2 : ¬ y3 < 0 ∧ ¬ 8 < y3) (g3 : ¬ y4 < 0 ∧ ¬ 50 < y4) (hQ : ∀ σ', R0 σ' (eSR μ s y2 y3 y4) n h → Q (mI μ 6 s) σ') : w_L_setRoom (nI s) y2 y3 y4 σ b Q := s_setRoom R hb hs g1 g2 g3 hQ
theorem t_ask0 (R : R0 σ μ n h) (hb : 3 ≤ b) (hno : (∀ s, s < 6 → y ≠ nI s) ∨ (∀ s, s < 6 → y2 ≠ nI s)) (hQ : Q (-71) σ) : w_L_ask y y2 σ b Q := by
  refine s_ask R hb (fun s o a hs ho hy hy2 _ _ _ _ _ => ?_) (fun s o hs ho hy hy2 _ _ => ?_) (fun s o hs ho hy hy2 _ => ?_) (fun _ => Or.inl ⟨rfl, hQ⟩)
  · rcases hno with q | q
    · exact absurd hy (q s hs)
    · exact absurd hy2 (q o ho)
  · rcases hno with q | q
    · exact absurd hy (q s hs)
    · exact absurd hy2 (q o ho)
  · rcases hno with q | q
    · exact absurd hy (q s hs)
    · exact absurd hy2 (q o ho)
theorem t_ask1 (R : R0 σ μ n h) (hb : 3 ≤ b) {s o : Nat} (hs : s < 6) (ho : o < 6) (hso : ¬ nI s < nI o) (hQ : Q (-72) σ) : w_L_ask (nI s) (nI o) σ b Q := by
  refine s_ask R hb (fun s2 o2 a hs2 ho2 hy hy2 hlt _ _ _ _ => ?_) (fun s2 o2 hs2 ho2 hy hy2 hlt _ => ?_) (fun _ _ _ _ _ _ _ => Or.inr (Or.inl ⟨rfl, hQ⟩)) (fun q => ?_)
  · rw [← hy, ← hy2] at hlt; exact absurd hlt hso
  · rw [← hy, ← hy2] at hlt; exact absurd hlt hso
  · rcases q with q | q
    · exact absurd rfl (q s hs)
    · exact absurd rfl (q o ho)
theorem t_ask3 (R : R0 σ μ n h) (hb : 3 ≤ b) {s o : Nat} (hs : s < 6) (ho : o < 6) (hso : nI s < nI o) (h4 : mI μ 4 s = nI 3) (hQ : Q (-73) σ) : w_L_ask (nI s) (nI o) σ b Q := by
  refine s_ask R hb (fun s2 o2 a hs2 ho2 hy hy2 hlt ha h42 _ _ => ?_) (fun s2 o2 hs2 ho2 hy hy2 hlt _ => Or.inr (Or.inr ⟨rfl, hQ⟩)) (fun s2 o2 hs2 ho2 hy hy2 hge => ?_) (fun q => ?_)
  · have h1 : s = s2 := i_inj (by omega) (by omega) hy
    subst h1
    have := i_inj (a := 3) (b := a) (by omega) (by omega) (h4.symm.trans h42)
    omega
  · rw [← hy, ← hy2] at hge; exact absurd hso hge
  · rcases q with q | q
    · exact absurd rfl (q s hs)
    · exact absurd rfl (q o ho)
theorem t_ask (R : R0 σ μ n h) (hb : 3 ≤ b) {s o a : Nat} (hs : s < 6) (ho : o < 6) (hso : nI s < nI o) (ha : a < 3) (h4 : mI μ 4 s = nI a) (hQ : ∀ σ', R0 σ' (sI (sI μ 5 (3 * s + a) (nI o)) 4 s (nI (a + 1))) n h → Q (nI (a + 1)) σ') : w_L_ask (nI s) (nI o) σ b Q := by
  refine s_ask R hb (fun s2 o2 a2 hs2 ho2 hy hy2 hlt ha2 h42 σ' R' => ?_) (fun s2 o2 hs2 ho2 hy hy2 hlt h43 => ?_) (fun s2 o2 hs2 ho2 hy hy2 hge => ?_) (fun q => ?_)
  · have h1 : s = s2 := i_inj (by omega) (by omega) hy
    have h2 : o = o2 := i_inj (by omega) (by omega) hy2
    subst h1
    subst h2
    have h3 : a = a2 := i_inj (by omega) (by omega) (h4.symm.trans h42)
    subst h3
    exact hQ σ' R'
  · have h1 : s = s2 := i_inj (by omega) (by omega) hy
    subst h1
    have := i_inj (a := a) (b := 3) (by omega) (by omega) (h4.symm.trans h43)
    omega
  · rw [← hy, ← hy2] at hge; exact absurd hso hge
  · rcases q with q | q
    · exact absurd rfl (q s hs)
    · exact absurd rfl (q o ho)
end TS
theorem i_rng {k lo hi : Nat} (h1 : lo ≤ k) (h2 : k ≤ hi) (hh : hi < 1000) : ¬ nI k < nI lo ∧ ¬ nI hi < nI k := ⟨fun q => by have := (nI_ltI (b := lo) (by omega) (by omega)).mp q; omega, fun q => by have := (nI_ltI (a := hi) (by omega) (by omega)).mp q; omega⟩
/-- a row of asked services has one more -/
theorem rwv_snoc {f : Nat → Nat} {o : Nat} : ∀ (k j : Nat), rwv (fun i => if i = j + k then o else f i) (k + 1) j = rwv f k j + (o + 1) * 8 ^ k := by
  intro k
  induction k with
  | zero =>
    intro j
    simp [rwv]
  | succ k ih =>
    intro j
    have h := ih (j + 1)
    show ((if j = j + (k + 1) then o else f j) + 1) + 8 * rwv (fun i => if i = j + (k + 1) then o else f i) (k + 1) (j + 1) = ((f j + 1) + 8 * rwv f k (j + 1)) + (o + 1) * 8 ^ (k + 1)
    rw [show (fun i => if i = j + (k + 1) then o else f i) = (fun i => if i = j + 1 + k then o else f i) from funext fun i => by rw [show j + (k + 1) = j + 1 + k by omega], h, if_neg (by omega), Nat.pow_succ]
    rw [Nat.mul_add, show (o + 1) * (8 ^ k * 8) = 8 * ((o + 1) * 8 ^ k) by rw [← Nat.mul_assoc, Nat.mul_comm]]
    omega
theorem rwv_congr {f g : Nat → Nat} : ∀ (k j : Nat), (∀ i, j ≤ i → i < j + k → f i = g i) → rwv f k j = rwv g k j := by
  intro k
  induction k with
  | zero => intro j _; rfl
  | succ k ih =>
    intro j h
    show (f j + 1) + 8 * rwv f k (j + 1) = (g j + 1) + 8 * rwv g k (j + 1)
    rw [h j (Nat.le_refl _) (by omega), ih (j + 1) (fun i h1 h2 => h i (by omega) (by omega))]
theorem pl_row {τ τ' μ : mS} {n s a o : Nat} {F : Nat → Nat → Nat} (P : PL τ μ n F d0) (hs : s < 6) (ho : o < 6) (ha : a < 3) (h4 : mI μ 4 s = nI a) (hN : mN τ' = 8) (ht : ∀ j k, ¬ (j = 1 ∧ k = 10 * s + 3) → mI τ' j k = mI τ j k) (h3 : ∀ f, mI τ 1 (10 * s + 3) = nI (rwv f a 0) → mI τ' 1 (10 * s + 3) = nI (rwv f a 0 + (o + 1) * 8 ^ a)) : PL τ' (sI (sI μ 5 (3 * s + a) (nI o)) 4 s (nI (a + 1))) n F d0 := by
  obtain ⟨⟨g8, g0, g1, g2, gn, t, ht1, gt⟩, hS, hC⟩ := P
  have hm : ∀ x y, x ≠ 4 → x ≠ 5 → mI (sI (sI μ 5 (3 * s + a) (nI o)) 4 s (nI (a + 1))) x y = mI μ x y := fun x y q1 q2 => by rw [oI (by omega), oI (by omega)]
  have m4 : ∀ r, mI (sI (sI μ 5 (3 * s + a) (nI o)) 4 s (nI (a + 1))) 4 r = if r = s then nI (a + 1) else mI μ 4 r := fun r => by
    by_cases hrs : r = s
    · rw [if_pos hrs, hrs, nIi]
    · rw [if_neg hrs, oI (fun q => hrs q.2), oI (by omega)]
  have m5 : ∀ k, mI (sI (sI μ 5 (3 * s + a) (nI o)) 4 s (nI (a + 1))) 5 k = if k = 3 * s + a then nI o else mI μ 5 k := fun k => by
    rw [oI (by omega)]
    by_cases hks : k = 3 * s + a
    · rw [if_pos hks, hks, nIi]
    · rw [if_neg hks, oI (fun q => hks q.2)]
  generalize sI (sI μ 5 (3 * s + a) (nI o)) 4 s (nI (a + 1)) = μ' at hm m4 m5 ⊢
  refine ⟨⟨hN, by rw [ht _ _ (by omega), hm _ _ (by omega) (by omega)]; exact g0, by rw [ht _ _ (by omega)]; exact g1, by rw [ht _ _ (by omega), fR_c (μ := μ) (fun b => hm _ _ (by omega) (by omega)) (fun b => hm _ _ (by omega) (by omega))]; exact g2, gn, t, ht1, by rw [hm _ _ (by omega) (by omega)]; exact gt⟩, fun r hr6 => ?_, fun c hc => ?_⟩
  · obtain ⟨⟨w1, w2, w3⟩, ⟨a', f, a1, a2, a3, a4⟩, v0, v1, v2, v4, v5, v6, v7, v8, v9⟩ := hS r hr6
    refine ⟨⟨w1, w2, by rw [hm _ _ (by omega) (by omega)]; exact w3⟩, ?_, ?_, ?_, ?_, ?_, ?_, ?_, ?_, ?_, ?_⟩
    · by_cases hrs : r = s
      · subst hrs
        have haa : a' = a := i_inj (by omega) (by omega) (a2.symm.trans h4)
        subst haa
        refine ⟨a' + 1, fun i => if i = 0 + a' then o else f i, by omega, by rw [m4, if_pos rfl], fun j hj => ?_, ?_⟩
        · show (if j = 0 + a' then o else f j) < 6 ∧ mI μ' 5 (3 * r + j) = nI (if j = 0 + a' then o else f j)
          rw [m5]
          by_cases hja : j = a'
          · rw [if_pos (by omega), if_pos (by omega)]; exact ⟨ho, rfl⟩
          · rw [if_neg (by omega), if_neg (by omega)]; exact a3 j (by omega)
        · rw [h3 f a4, rwv_snoc]
      · refine ⟨a', f, a1, by rw [m4, if_neg hrs]; exact a2, fun j hj => ⟨(a3 j hj).1, by rw [m5, if_neg (by omega)]; exact (a3 j hj).2⟩, by rw [ht _ _ (by omega)]; exact a4⟩
    · rw [ht _ _ (by omega), hm _ _ (by omega) (by omega)]; exact v0
    · rw [ht _ _ (by omega), hm _ _ (by omega) (by omega)]; exact v1
    · rw [ht _ _ (by omega), hm _ _ (by omega) (by omega)]; exact v2
    · rw [ht _ _ (by omega), hm _ _ (by omega) (by omega)]; exact v4
    · rw [ht _ _ (by omega), hm _ _ (by omega) (by omega)]; exact v5
    · rw [ht _ _ (by omega), hm _ _ (by omega) (by omega)]; exact v6
    · rw [ht _ _ (by omega), hm _ _ (by omega) (by omega)]; exact v7
    · rw [ht _ _ (by omega), hm _ _ (by omega) (by omega)]; exact v8
    · rw [ht _ _ (by omega), hm _ _ (by omega) (by omega)]; exact v9
  · have e1 : fT μ' c = fT μ c := fT_c (fun b => hm _ _ (by omega) (by omega)) (fun b => hm _ _ (by omega) (by omega)) (hm _ _ (by omega) (by omega))
    have e2 : fO μ' c = fO μ c := fO_c (fun b => hm _ _ (by omega) (by omega)) (fun b => hm _ _ (by omega) (by omega))
    have := hC c hc
    simp (disch := omega) only [pC, pQ, pW, hm, ht, e1, e2, qTry] at this ⊢
    exact this

theorem k_mN {σ σ' μ μ' : mS} {n h h' : Nat} (R : R0 σ μ n h) (R' : R0 σ' μ' n h') : mN σ ≤ mN σ' := by rw [R.2.1.1, R'.2.1.1]; exact Nat.le_refl _
theorem l_sets {σ τ μ : mS} {n h b : Nat} {y1 y2 y3 z : Int32} {F : Nat → Nat → Nat} {Q : Int32 → mS → mS → Prop} (R : R0 σ μ n h) (C : CZ z n μ) (P : PL τ μ n F d0) (hb : 30 ≤ b) (hQ : ∀ σ' τ' μ' F', R0 σ' μ' n h → CZ z n μ' → PL τ' μ' n F' d0 → mI μ' 0 1 = mI μ 0 1 → Q 1 σ' τ') : w_L_sets y1 y2 y3 σ τ b Q := by
  obtain ⟨k0, k1, kn⟩ := l_now P
  have hn2 := R.n2
  have n8' : mN τ = 8 := P.1.1
  unfold w_L_sets
  refine l_low (m := 6) (by decide) (by decide) (fun s hs => ⟨n8', fun hge3 => ⟨fun hge7 => ?_, fun hlt7 => ?_⟩, fun hlt3 => ?_⟩)
  · obtain ⟨⟨w1, w2, w3⟩, ⟨a, f, a1, a2, a3, a4⟩, v0, v1, v2, v4, v5, v6, v7, v8, v9⟩ := P.2.1 s hs
    refine ⟨fun x u σ' τ' => (∃ m, x = nI m ∧ 0 < m ∧ m ≤ 5) ∧ u = 0 ∧ σ' = σ ∧ τ' = τ, ?_, fun _ => ⟨⟨2, rfl, by decide, by decide⟩, rfl, rfl, rfl⟩, fun _ => ⟨⟨5, rfl, by decide, by decide⟩, rfl, rfl, rfl⟩⟩
    rintro x u σ' τ' ⟨⟨m, hx, hm0, hm5⟩, hu, hσ, hτ⟩
    rw [hx, hu, hσ, hτ]
    refine l_low hm0 (by omega) (fun k hk => ⟨n8', fun x u σ' τ' => (∃ m, x = nI m ∧ 0 < m ∧ m ≤ 9) ∧ u = 0 ∧ σ' = σ ∧ τ' = τ, ?_, fun _ => ⟨⟨3, rfl, by decide, by decide⟩, rfl, rfl, rfl⟩, fun _ => ⟨⟨9, rfl, by decide, by decide⟩, rfl, rfl, rfl⟩⟩)
    rintro x u σ' τ' ⟨⟨m2, hx, hm20, hm29⟩, hu, hσ, hτ⟩
    rw [hx, hu, hσ, hτ]
    refine l_low hm20 (by omega) (fun k2 hk2 => ⟨n8', fun x u σ' τ' => (∃ m, x = nI m ∧ m ≤ 50) ∧ u = 0 ∧ σ' = σ ∧ τ' = τ, ?_, fun _ => ?_, fun _ => ⟨⟨0, rfl, by decide⟩, rfl, rfl, rfl⟩⟩)
    · rintro x u σ' τ' ⟨⟨pt, hx, hpt⟩, hu, hσ, hτ⟩
      rw [hx, hu, hσ, hτ, n1eq]
      refine ⟨10 * s + 4, n10 s 4, by omega, 10 * s + 4, n10 s 4, by omega, ?_⟩
      intro τ25 h25
      refine ⟨10 * s + 5, n10 s 5, by omega, ?_⟩
      intro τ29 h29
      refine ⟨10 * s + 6, n10 s 6, by omega, ?_⟩
      intro τ33 h33
      have PS : PL τ33 (eSR μ s (nI (1 + k)) (nI k2) (nI pt)) n F d0 := by
        refine pl_svc P hs (by rw [h33, h29, h25]; exact n8') (fun j q hj => by rw [h33, oI (by omega), h29, oI (by omega), h25, oI (by omega)]) (fun x y q => by unfold eSR; rw [oI (by omega), oI (by omega), oI (by omega)]) ?_
        rw [h33, h29, h25]
        simp (disch := omega) only [pS, eSR, oI, nIi]
        exact ⟨⟨w1, w2, w3⟩, ⟨a, f, a1, a2, a3, a4⟩, v0, v1, v2, trivial, trivial, trivial, v7, v8, v9⟩
      refine ⟨R.rk, 4, by omega, t_setRoom0 R (Nat.le_refl _) no6 ⟨Nat.le_refl _, fun hne => absurd rfl hne, fun _ => ⟨R.rk, 4, by omega, ?_⟩⟩⟩
      refine t_setRoom1 R (Nat.le_refl _) hs (Or.inl (Or.inl (by decide))) ⟨Nat.le_refl _, fun hne => absurd rfl hne, fun _ => ⟨R.rk, 4, by omega, ?_⟩⟩
      refine t_setRoom1 R (Nat.le_refl _) hs (Or.inl (Or.inr (by decide))) ⟨Nat.le_refl _, fun hne => absurd rfl hne, fun _ => ⟨R.rk, 4, by omega, ?_⟩⟩
      refine t_setRoom1 R (Nat.le_refl _) hs (Or.inr (Or.inl (Or.inr (by decide)))) ⟨Nat.le_refl _, fun hne => absurd rfl hne, fun _ => ⟨R.rk, 4, by omega, ?_⟩⟩
      refine t_setRoom1 R (Nat.le_refl _) hs (Or.inr (Or.inr (Or.inr (by decide)))) ⟨Nat.le_refl _, fun hne => absurd rfl hne, fun _ => ⟨R.rk, 4, by omega, ?_⟩⟩
      refine t_setRoom R (Nat.le_refl _) hs (i_rng (lo := 1) (hi := 5) (by omega) (by omega) (by decide)) (i_rng (lo := 0) (hi := 8) (by omega) (by omega) (by decide)) (i_rng (lo := 0) (hi := 50) (by omega) (by omega) (by decide)) (fun σ' R' => ⟨k_mN R R', fun hne => absurd v4.symm hne, fun _ => hQ σ' τ33 _ F R' ?_ PS ?_⟩)
      · exact cz_c C (fun d _ => by unfold eSR; rw [oI (by omega), oI (by omega), oI (by omega)]) (fun d _ => by unfold eSR; rw [oI (by omega), oI (by omega), oI (by omega)]) (by unfold eSR; rw [oI (by omega), oI (by omega), oI (by omega)])
      · unfold eSR; rw [oI (by omega), oI (by omega), oI (by omega)]
    · refine ⟨fun x u σ' τ' => (∃ m, x = nI m ∧ 0 < m ∧ m ≤ 50) ∧ u = 0 ∧ σ' = σ ∧ τ' = τ, ?_, fun _ => ⟨⟨6, rfl, by decide, by decide⟩, rfl, rfl, rfl⟩, fun _ => ⟨⟨50, rfl, by decide, by decide⟩, rfl, rfl, rfl⟩⟩
      rintro x u σ' τ' ⟨⟨m3, hx, hm30, hm3⟩, hu, hσ, hτ⟩
      rw [hx, hu, hσ, hτ]
      exact l_low hm30 (by omega) (fun k3 hk3 => ⟨n8', ⟨1 + k3, n1eq k3, by omega⟩, rfl, rfl, rfl⟩)
  · obtain ⟨⟨w1, w2, w3⟩, ⟨a, f, a1, a2, a3, a4⟩, v0, v1, v2, v4, v5, v6, v7, v8, v9⟩ := P.2.1 s hs
    refine l_low (m := 6) (by decide) (by decide) (fun o ho => ⟨n8', R.rk, 3, by omega, ?_⟩)
    refine t_ask0 R (Nat.le_refl _) (Or.inl no6) ⟨Nat.le_refl _, fun hne => absurd rfl hne, fun _ => ⟨R.rk, 3, by omega, ?_⟩⟩
    refine t_ask0 R (Nat.le_refl _) (Or.inr (nom1 (by decide))) ⟨Nat.le_refl _, fun hne => absurd rfl hne, fun _ => ⟨R.rk, 3, by omega, ?_⟩⟩
    refine t_ask1 R (Nat.le_refl _) hs hs (fun q => Int32.lt_irrefl q) ⟨Nat.le_refl _, fun _ => ⟨10 * s + 3, n10 s 3, by omega, ?_⟩, fun hne => absurd rfl hne⟩
    rw [a4]
    have hl := rwv_lt (f := f) a 0 (fun i q1 q2 => (a3 i (by omega)).1)
    refine ⟨fun x u σ' τ' => x = nI a ∧ u = 9 ∧ σ' = σ ∧ τ' = τ, ?_, ?_⟩
    · rintro x u σ' τ' ⟨hx, hu, hσ, hτ⟩
      rw [hx, hu, hσ, hτ]
      refine ⟨fun hlt => ⟨fun hne => ⟨10 * s + 3, n10 s 3, by omega, ?_⟩, fun he => ⟨R.rk, 3, by omega, ?_⟩⟩, fun hge => ⟨R.rk, 3, by omega, ?_⟩⟩
      · have ha3 : a < 3 := by
          have : a ≠ 3 := fun q => hne (by rw [q]; rfl)
          omega
        have hsh : (nI o + 1) <<< (((3 : Int32) * nI a) &&& 31) = nI ((o + 1) * 8 ^ a) := by
          rw [show nI o + 1 = nI (o + 1) from nI_1 o]
          match a, ha3 with
          | 0, _ => exact pk_shlN (n := o + 1) ((3 : Int32) * nI 0 &&& 31) 0 (by decide) (by omega)
          | 1, _ => exact pk_shlN (n := o + 1) ((3 : Int32) * nI 1 &&& 31) 3 (by decide) (by omega)
          | 2, _ => exact pk_shlN (n := o + 1) ((3 : Int32) * nI 2 &&& 31) 6 (by decide) (by omega)
          | a + 3, h => omega
        rw [hsh, nAdd]
        intro τ119 h119
        have PS : PL τ119 (sI (sI μ 5 (3 * s + a) (nI o)) 4 s (nI (a + 1))) n F d0 := by
          refine pl_row P hs ho ha3 a2 (by rw [h119]; exact n8') (fun j k q => by rw [h119, oI q]) (fun f2 hf2 => ?_)
          rw [h119, nIi, ← nAdd, ← nAdd, ← a4, hf2]
        refine ⟨R.rk, 3, by omega, t_ask R (Nat.le_refl _) hs ho hlt ha3 a2 (fun σ' R' => ⟨k_mN R R', fun hne2 => absurd (nI_1 a).symm hne2, fun _ => hQ σ' τ119 _ F R' ?_ PS ?_⟩)⟩
        · exact cz_c C (fun d _ => by rw [oI (by omega), oI (by omega)]) (fun d _ => by rw [oI (by omega), oI (by omega)]) (by rw [oI (by omega), oI (by omega)])
        · rw [oI (by omega), oI (by omega)]
      · have ha3 : a = 3 := i_inj (b := 3) (by omega) (by omega) he
        exact t_ask3 R (Nat.le_refl _) hs ho hlt (by rw [a2, ha3]) ⟨Nat.le_refl _, fun hne => absurd rfl hne, fun _ => hQ σ τ μ F R C P rfl⟩
      · exact t_ask1 R (Nat.le_refl _) hs ho hge ⟨Nat.le_refl _, fun hne => absurd rfl hne, fun _ => hQ σ τ μ F R C P rfl⟩
    · have hle : ∀ c m, c < 1000 → m < 1000 → ((nI c : Int32) ≤ nI m ↔ c ≤ m) := fun c m h1 h2 => nI_leI (by omega) (by omega)
      match a, a1 with
      | 0, _ => exact ⟨fun hne => absurd rfl hne, fun _ => ⟨rfl, rfl, rfl, rfl⟩⟩
      | 1, _ =>
        have e : rwv f 1 0 = f 0 + 1 := by show (f 0 + 1) + 8 * 0 = _; omega
        have f0 := (a3 0 (by decide)).1
        rw [e]
        refine ⟨fun _ => ⟨fun q => ?_, fun _ => ⟨rfl, rfl, rfl, rfl⟩⟩, fun q => ?_⟩
        · have := (hle 8 (f 0 + 1) (by omega) (by omega)).mp q; omega
        · have := i_inj (b := 0) (by omega) (by omega) q; omega
      | 2, _ =>
        have e : rwv f 2 0 = f 0 + 1 + 8 * (f 1 + 1) := by show (f 0 + 1) + 8 * ((f 1 + 1) + 8 * 0) = _; omega
        have f0 := (a3 0 (by decide)).1
        have f1 := (a3 1 (by decide)).1
        rw [e]
        refine ⟨fun _ => ⟨fun _ => ⟨fun q => ?_, fun _ => ⟨rfl, rfl, rfl, rfl⟩⟩, fun q => ?_⟩, fun q => ?_⟩
        · have := (hle 64 (f 0 + 1 + 8 * (f 1 + 1)) (by omega) (by omega)).mp q; omega
        · exact absurd ((hle 8 (f 0 + 1 + 8 * (f 1 + 1)) (by omega) (by omega)).mpr (by omega)) q
        · have := i_inj (b := 0) (by omega) (by omega) q; omega
      | 3, _ =>
        have e : rwv f 3 0 = f 0 + 1 + 8 * (f 1 + 1 + 8 * (f 2 + 1)) := by show (f 0 + 1) + 8 * ((f 1 + 1) + 8 * ((f 2 + 1) + 8 * 0)) = _; omega
        have f0 := (a3 0 (by decide)).1
        have f1 := (a3 1 (by decide)).1
        have f2 := (a3 2 (by decide)).1
        rw [e]
        refine ⟨fun _ => ⟨fun _ => ⟨fun _ => ⟨rfl, rfl, rfl, rfl⟩, fun q => ?_⟩, fun q => ?_⟩, fun q => ?_⟩
        · exact absurd ((hle 64 (f 0 + 1 + 8 * (f 1 + 1 + 8 * (f 2 + 1))) (by omega) (by omega)).mpr (by omega)) q
        · exact absurd ((hle 8 (f 0 + 1 + 8 * (f 1 + 1 + 8 * (f 2 + 1))) (by omega) (by omega)).mpr (by omega)) q
        · have := i_inj (b := 0) (by omega) (by omega) q; omega
      | a + 4, h => omega
  · obtain ⟨⟨w1, w2, w3⟩, ⟨a, f, a1, a2, a3, a4⟩, v0, v1, v2, v4, v5, v6, v7, v8, v9⟩ := P.2.1 s hs
    refine ⟨fun x u σ' τ' => (∃ m, x = nI m ∧ 0 < m ∧ m ≤ 20) ∧ u = 0 ∧ σ' = σ ∧ τ' = τ, ?_, fun _ => ⟨⟨4, rfl, by decide, by decide⟩, rfl, rfl, rfl⟩, fun _ => ⟨⟨20, rfl, by decide, by decide⟩, rfl, rfl, rfl⟩⟩
    rintro x u σ' τ' ⟨⟨m, hx, hm0, hm5⟩, hu, hσ, hτ⟩
    rw [hx, hu, hσ, hτ]
    refine l_low hm0 (by omega) (fun k hk => ⟨n8', fun x u σ' τ' => (∃ m, x = nI m ∧ m ≤ 20) ∧ u = 0 ∧ σ' = σ ∧ τ' = τ, ?_, fun _ => ⟨fun _ => ⟨⟨0, rfl, by decide⟩, rfl, rfl, rfl⟩, fun _ => ?_⟩, fun _ => ?_⟩)
    · rintro x u σ' τ' ⟨⟨each, hx, hea⟩, hu, hσ, hτ⟩
      rw [hx, hu, hσ, hτ, n1eq]
      refine ⟨10 * s, pk_mul 10 s, by omega, 10 * s, pk_mul 10 s, by omega, ?_⟩
      intro τ25 h25
      refine ⟨10 * s + 1, n10 s 1, by omega, ?_⟩
      intro τ29 h29
      refine ⟨10 * s + 2, n10 s 2, by omega, ?_⟩
      intro τ33 h33
      have PS : PL τ33 (eSW μ s (nI (1 + k)) (nI each)) n F d0 := by
        refine pl_svc P hs (by rw [h33, h29, h25]; exact n8') (fun j q hj => by rw [h33, oI (by omega), h29, oI (by omega), h25, oI (by omega)]) (fun x y q => by unfold eSW; rw [oI (by omega), oI (by omega), oI (by omega)]) ?_
        rw [h33, h29, h25]
        simp (disch := omega) only [pS, eSW, oI, nIi]
        exact ⟨⟨1 + k, by omega, rfl⟩, ⟨a, f, a1, a2, a3, a4⟩, trivial, trivial, trivial, v4, v5, v6, v7, v8, v9⟩
      refine ⟨R.rk, 3, by omega, t_setWork0 R (Nat.le_refl _) no6 ⟨Nat.le_refl _, fun hne => absurd rfl hne, fun _ => ⟨R.rk, 3, by omega, ?_⟩⟩⟩
      refine t_setWork1 R (Nat.le_refl _) hs (Or.inl (Or.inl (by decide))) ⟨Nat.le_refl _, fun hne => absurd rfl hne, fun _ => ⟨R.rk, 3, by omega, ?_⟩⟩
      refine t_setWork1 R (Nat.le_refl _) hs (Or.inl (Or.inr (by decide))) ⟨Nat.le_refl _, fun hne => absurd rfl hne, fun _ => ⟨R.rk, 3, by omega, ?_⟩⟩
      refine t_setWork1 R (Nat.le_refl _) hs (Or.inr (Or.inr (by decide))) ⟨Nat.le_refl _, fun hne => absurd rfl hne, fun _ => ⟨R.rk, 3, by omega, ?_⟩⟩
      refine t_setWork1 R (Nat.le_refl _) hs (Or.inr (Or.inl (by decide))) ⟨Nat.le_refl _, fun hne => absurd rfl hne, fun _ => ⟨R.rk, 3, by omega, ?_⟩⟩
      refine t_setWork R (Nat.le_refl _) hs (i_rng (lo := 1) (hi := 20) (by omega) (by omega) (by decide)) (i_rng (lo := 0) (hi := 20) (by omega) (by omega) (by decide)) (fun σ' R' => ⟨k_mN R R', fun hne => absurd v0.symm hne, fun _ => hQ σ' τ33 _ F R' ?_ PS ?_⟩)
      · exact cz_c C (fun d _ => by unfold eSW; rw [oI (by omega), oI (by omega), oI (by omega)]) (fun d _ => by unfold eSW; rw [oI (by omega), oI (by omega), oI (by omega)]) (by unfold eSW; rw [oI (by omega), oI (by omega), oI (by omega)])
      · unfold eSW; rw [oI (by omega), oI (by omega), oI (by omega)]
    · exact l_low (m := 3) (by decide) (by decide) (fun k3 hk3 => ⟨n8', ⟨1 + k3, n1eq k3, by omega⟩, rfl, rfl, rfl⟩)
    · exact l_low (m := 21) (by decide) (by decide) (fun k3 hk3 => ⟨n8', ⟨k3, rfl, by omega⟩, rfl, rfl, rfl⟩)
