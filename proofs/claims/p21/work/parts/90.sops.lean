/-! the class's calls alone: what they answer, what they throw, and the store behind them -/
theorem s_state {σ μ : mS} {n h b : Nat} {y : Int32} {Q : Int32 → mS → Prop} {X : String → mS → Prop} (R : R0 σ μ n h) (hb : 1 ≤ b) (h1 : ∀ c, c < n → y = nI c → Q (mI μ 15 c) σ) (h0 : (∀ c, c < n → y ≠ nI c) → X xIO σ) : w_X2_state y σ b Q X := by
  unfold w_X2_state
  exact ⟨1, by omega, s_callAt R (Nat.le_refl 1) (fun c hc hy => ⟨21 + c, rfl, R.mo hc, by rw [R.st hc]; exact h1 c hc hy⟩) (fun hno => h0 hno)⟩
theorem s_deadline {σ μ : mS} {n h b c : Nat} {Q : Int32 → mS → Prop} {X : String → mS → Prop} (R : R0 σ μ n h) (hb : 1 ≤ b) (hc : c < n) (h1 : Q (mI μ 13 c) σ) : w_X2_deadline (nI c) σ b Q X := by
  have hn := R.n2
  unfold w_X2_deadline
  exact ⟨1, by omega, s_callAt R (Nat.le_refl 1) (fun d hd hy => ⟨21 + d, rfl, R.mo hd, by rw [(R.2.2.2.2.1 d hd).2.2.2.2.2.1, i_inj (a := d) (b := c) (by omega) (by omega) hy.symm]; exact h1⟩) (fun hno => absurd rfl (hno c hc))⟩
theorem s_overAt {σ μ : mS} {n h b c : Nat} {Q : Int32 → mS → Prop} {X : String → mS → Prop} (R : R0 σ μ n h) (hb : 1 ≤ b) (hc : c < n) (h1 : Q (mI μ 17 c) σ) : w_X2_overAt (nI c) σ b Q X := by
  have hn := R.n2
  unfold w_X2_overAt
  exact ⟨1, by omega, s_callAt R (Nat.le_refl 1) (fun d hd hy => ⟨21 + d, rfl, R.mo hd, by rw [(R.2.2.2.2.1 d hd).2.2.2.2.2.2.2.1, i_inj (a := d) (b := c) (by omega) (by omega) hy.symm]; exact h1⟩) (fun hno => absurd rfl (hno c hc))⟩
theorem s_place {σ μ : mS} {n h b : Nat} {y : Int32} {Q : Int32 → mS → Prop} {X : String → mS → Prop} (R : R0 σ μ n h) (hb : 1 ≤ b) (h1 : ∀ c, c < n → y = nI c → Q (if mI μ 15 c = 2 then mI μ 22 c else -1) σ) (h0 : (∀ c, c < n → y ≠ nI c) → X xIO σ) : w_X2_place y σ b Q X := by
  unfold w_X2_place
  refine ⟨1, by omega, s_callAt R (Nat.le_refl 1) (fun c hc hy => ⟨21 + c, rfl, R.mo hc, ?_⟩) (fun hno => h0 hno)⟩
  have h2 := h1 c hc hy
  rw [R.st hc]
  refine ⟨fun hne => ?_, fun he => ?_⟩
  · rw [if_neg hne] at h2; exact h2
  · rw [if_pos he] at h2
    rw [(R.2.2.2.2.2.2.1 c hc he).2.1]; exact h2
theorem s_origin {σ μ : mS} {n h b c s : Nat} {Q : Int32 → mS → Prop} {X : String → mS → Prop} (R : R0 σ μ n h) (hb : 1 ≤ b) (hc : c < n) (hs : s < 6) (hsv : mI μ 12 c = nI s) (h1 : Q (1000 * nI s + (mI μ 14 c + 1)) σ) : w_X2_origin (nI c) σ b Q X := by
  have hn := R.n2
  unfold w_X2_origin
  refine ⟨1, by omega, s_callAt R (Nat.le_refl 1) (fun d hd hy => ⟨21 + d, rfl, R.mo hd, ?_⟩) (fun hno => absurd rfl (hno c hc))⟩
  have hdc : d = c := i_inj (by omega) (by omega) hy.symm
  subst hdc
  obtain ⟨-, -, v3, v4, v5, -⟩ := R.2.2.2.2.1 d hd
  have hnum := (R.2.2.1 s hs).2.1
  rintro _ rfl
  rcases wM_par R.1 hd with hpar | ⟨p, hp, hpar⟩
  · rw [v4 hpar]
    refine ⟨fun _ => ?_, fun i q => (by cases q)⟩
    rintro _ rfl
    rw [v3 s hs hsv]
    refine ⟨3 + 3 * s, rfl, kS hs, ?_⟩
    rw [hnum]
    rw [hpar, show (-1 : Int32) + 1 = 0 from by decide] at h1
    exact h1
  · rw [v5 p hp hpar]
    refine ⟨fun q => (by cases q), ?_⟩
    rintro _ ⟨⟩ _ rfl
    refine ⟨21 + p, rfl, R.mo (by omega), ?_⟩
    rintro _ rfl
    rw [v3 s hs hsv]
    refine ⟨3 + 3 * s, rfl, kS hs, ?_⟩
    rw [hnum, (R.2.2.2.2.1 p (by omega)).2.1]
    rw [hpar] at h1
    exact h1
theorem s_below {σ μ : mS} {n h b t : Nat} {Q : Int32 → mS → Prop} {X : String → mS → Prop} (R : R0 σ μ n h) (C : wCl μ n) (hb : 1 ≤ b) (ht : t < n) (hQ : Q (nI (cnt n (fB μ t))) σ) : w_X2_below (nI t) σ b Q X := by
  have hn := R.n2
  unfold w_X2_below
  refine ⟨1, by omega, s_callAt R (Nat.le_refl 1) (fun d hd hy => ⟨21 + d, rfl, R.mo hd, ?_⟩) (fun hno => absurd rfl (hno t ht))⟩
  have hdt : d = t := i_inj (by omega) (by omega) hy.symm
  subst hdt
  rintro _ rfl
  have z0 : ∀ e, e ≤ d + 1 → cnt e (fB μ d) = 0 := fun e he => cnt_zero fun c hc => by
    cases hq : belQ μ d c with
    | false => simp [fB, hq]
    | true => have := bB_lt R.1 200 c (by omega) hq; omega
  have zov : ∀ e, e ≤ n → ¬ mI μ 15 d < 3 → cnt e (fB μ d) = 0 := fun e he hov => cnt_zero fun c hc => by
    cases hq : belQ μ d c with
    | false => simp [fB, hq]
    | true => have := bB_over R.1 C hd hov 200 c (by omega) hq; simp [fB, this]
  have next : ∀ e, d ≤ e → e < n → (mR σ (21 + e) 8 = none ∧ nI (cnt (e + 1) (fB μ d)) = nI (cnt n (fB μ d))) ∨ (mR σ (21 + e) 8 = some (21 + (e + 1)) ∧ e + 1 < n) := fun e hde he => by
    rcases R.nxt2 he with ⟨h1, h2 | h2⟩ | h1
    · exact Or.inl ⟨h1, by rw [h2]⟩
    · have hov := R.ov d (by omega)
      exact Or.inl ⟨h1, by rw [zov (e + 1) (by omega) hov, zov n (Nat.le_refl _) hov]⟩
    · exact Or.inr h1
  refine ⟨fun k x r σ' => σ' = σ ∧ ((r = none ∧ x = nI (cnt n (fB μ d))) ∨ ∃ e, d < e ∧ e < n ∧ k = n - e ∧ r = some (21 + e) ∧ x = nI (cnt e (fB μ d))), ?_, n - (d + 1), rfl, ?_⟩
  · intro k x r σ' ⟨hσ, hP⟩
    rw [hσ]
    refine ⟨fun hr => ?_, fun i hi => ?_⟩
    · rcases hP with ⟨-, hx⟩ | ⟨e, -, -, -, hr2, -⟩
      · rw [hx]; exact hQ
      · rw [hr2] at hr; cases hr
    · rcases hP with ⟨hr2, -⟩ | ⟨e, hte, hen, hk, hr2, hx⟩
      · rw [hr2] at hi; cases hi
      · have hid : 21 + e = i := Option.some.inj (hr2.symm.trans hi)
        rw [← hid, hk, hx]
        have go : ∀ x, x = nI (cnt (e + 1) (fB μ d)) → ∃ k', k' < n - e ∧ (σ = σ ∧ ((mR σ (21 + e) 8 = none ∧ x = nI (cnt n (fB μ d))) ∨ ∃ d', d < d' ∧ d' < n ∧ k' = n - d' ∧ mR σ (21 + e) 8 = some (21 + d') ∧ x = nI (cnt d' (fB μ d)))) := fun x hx => by
          refine ⟨n - (e + 1), by omega, rfl, ?_⟩
          rcases next e (by omega) hen with ⟨h1, h2⟩ | ⟨h1, h2⟩
          · exact Or.inl ⟨h1, hx.trans h2⟩
          · exact Or.inr ⟨e + 1, by omega, h2, rfl, h1, hx⟩
        refine ⟨R.mo hen, s_isOver R hen (fun ho => ⟨fun q => absurd rfl q, fun _ => ⟨R.mo hen, s_isBelow R hen (fun hb => ⟨fun q => absurd q (by decide), fun _ => ⟨R.mo hen, ?_⟩⟩) (fun hb => ⟨fun _ => ⟨R.mo hen, ?_⟩, fun q => absurd rfl q⟩)⟩⟩) (fun ho => ⟨fun _ => ⟨R.mo hen, ?_⟩, fun q => absurd q (by decide)⟩)⟩
        · rintro _ rfl
          exact go _ (by rw [cnt_succ, if_pos (by simp [fB, hb, ho])]; exact nI_1 _)
        · rintro _ rfl
          exact go _ (by rw [cnt_succ, if_neg (by simp [fB, hb])]; rfl)
        · rintro _ rfl
          exact go _ (by rw [cnt_succ, if_neg (by simp [fB, ho])]; rfl)
  · rcases next d (Nat.le_refl _) ht with ⟨h1, h2⟩ | ⟨h1, h2⟩
    · refine Or.inl ⟨h1, ?_⟩
      rw [← h2, z0 (d + 1) (Nat.le_refl _)]; rfl
    · refine Or.inr ⟨d + 1, by omega, h2, rfl, h1, ?_⟩
      rw [z0 (d + 1) (Nat.le_refl _)]; rfl
/-- the queue of a service: the call at a place, or none -/
theorem s_queuedAt {σ μ : mS} {n h b : Nat} {y y2 : Int32} {Q : Int32 → mS → Prop} {X : String → mS → Prop} (R : R0 σ μ n h) (hb : 2 ≤ b) (h1 : ∀ s d, s < 6 → y = nI s → d < n → fK μ s 0 d = true → y2 = nI (cnt d (fK μ s 0)) → Q (nI d) σ) (h0 : (∀ s, s < 6 → y ≠ nI s) ∨ (∃ s, s < 6 ∧ y = nI s ∧ ∀ e, e < n → fK μ s 0 e = true → nI (cnt e (fK μ s 0)) ≠ y2) → X xIO σ) : w_X2_queuedAt y y2 σ b Q X := by
  have hn := R.n2
  have hh := R.hn
  unfold w_X2_queuedAt
  refine ⟨1, by omega, s_serviceAt R (Nat.le_refl 1) (fun s hs hy => ?_) (fun hno => h0 (Or.inl hno))⟩
  rintro _ rfl
  rw [R.old]
  refine ⟨fun k x r σ' => ∃ d, h ≤ d ∧ d ≤ n ∧ k = n - d ∧ r = nx d n ∧ σ' = σ ∧ x = nI (cnt d (fK μ s 0)) ∧ ∀ e, e < d → fK μ s 0 e = true → nI (cnt e (fK μ s 0)) ≠ y2, ?_, n - h, h, Nat.le_refl _, hh, rfl, rfl, rfl, ?_, ?_⟩
  · intro k x r σ' ⟨d, hd1, hd2, hk, hr, hσ, hx, hno⟩
    rw [hk, hr, hσ, hx]
    refine ⟨fun hnone => ⟨by omega, ?_⟩, fun i hi => ?_⟩
    · have h2 := nx_none hnone
      have hdn : d = n := by omega
      rw [hdn] at hno
      exact h0 (Or.inr ⟨s, hs, hy, hno⟩)
    · obtain ⟨hdn, rfl⟩ := nx_some hi
      obtain ⟨s2, hs2, hsv2, hr2⟩ := R.svc hdn
      have keep : fK μ s 0 d = false → ∃ k, k < n - d ∧ ∃ d', h ≤ d' ∧ d' ≤ n ∧ k = n - d' ∧ mR σ (21 + d) 8 = nx d' n ∧ σ = σ ∧ nI (cnt d (fK μ s 0)) = nI (cnt d' (fK μ s 0)) ∧ ∀ e, e < d' → fK μ s 0 e = true → nI (cnt e (fK μ s 0)) ≠ y2 := fun hf => by
        refine ⟨n - (d + 1), by omega, d + 1, by omega, by omega, rfl, R.nxt hd1 hdn, rfl, by rw [cnt_succ, hf]; rfl, fun e he hfe => ?_⟩
        by_cases hed : e = d
        · rw [hed, hf] at hfe; cases hfe
        · exact hno e (by omega) hfe
      refine ⟨R.mo hdn, ?_⟩
      unfold w_X0_isOf
      refine ⟨R.mo hdn, ?_⟩
      rintro _ rfl
      rw [hr2, R.st hdn]
      refine ⟨fun hne => ⟨fun _ => ⟨R.mo hdn, ?_⟩, fun q => absurd rfl q⟩, fun heq => ⟨fun hne => ⟨fun _ => ⟨R.mo hdn, ?_⟩, fun q => absurd rfl q⟩, fun hst => ⟨fun q => absurd q (by decide), fun _ => ?_⟩⟩⟩
      · rintro _ rfl
        exact keep (decide_eq_false fun q => hne (by rw [i_inj (by omega) (by omega) (hsv2.symm.trans q.1)]))
      · rintro _ rfl
        exact keep (decide_eq_false fun q => hne q.2)
      · have hss : s2 = s := by have := Option.some.inj heq; omega
        rw [hss] at hsv2
        have hfd : fK μ s 0 d = true := decide_eq_true ⟨hsv2, hst⟩
        refine ⟨fun hne => ⟨R.mo hdn, ?_⟩, fun heq2 => ⟨R.mo hdn, ?_⟩⟩
        · rintro _ rfl
          refine ⟨n - (d + 1), by omega, d + 1, by omega, by omega, rfl, R.nxt hd1 hdn, rfl, by rw [cnt_succ, hfd]; exact nI_1 _, fun e he hfe => ?_⟩
          by_cases hed : e = d
          · rw [hed]; exact hne
          · exact hno e (by omega) hfe
        · rw [(R.2.2.2.2.1 d hdn).2.1]
          exact h1 s d hs hy hdn hfd heq2.symm
  · rw [cnt_zero (fun c hc => decide_eq_false fun q => R.ov c hc (by rw [q.2]; decide))]
    rfl
  · intro e he hfe
    exact absurd (of_decide_eq_true hfe) (fun q => R.ov e he (by rw [q.2]; decide))
theorem s_count {σ μ : mS} {n h b : Nat} {y y2 : Int32} {Q : Int32 → mS → Prop} {X : String → mS → Prop} (R : R0 σ μ n h) (hb : 2 ≤ b) (h1 : ∀ s k, s < 6 → y = nI s → k < 8 → y2 = nI k → Q (nI (cnt n (fK μ s k))) σ) (h2 : (y2 < 0 ∨ 7 < y2) → (∃ s, s < 6 ∧ y = nI s) → X xIA σ) (h0 : (∀ s, s < 6 → y ≠ nI s) → X xIO σ) : w_X2_count y y2 σ b Q X := by
  unfold w_X2_count
  refine ⟨1, by omega, s_serviceAt R (Nat.le_refl 1) (fun s hs hy => ⟨1, by omega, s_range (Nat.le_refl 1) (fun q1 q2 => ⟨3 + 3 * s, rfl, kS hs, ?_⟩) (fun q => h2 q ⟨s, hs, hy⟩)⟩) (fun hno => h0 hno)⟩
  obtain ⟨k, hk, hyk⟩ := nI_of2 (M := 7) (n := 7) rfl q1 (Int32.not_lt.mp q2)
  rw [hyk]
  exact s_countOf R hs (by omega) (h1 s k hs hy (by omega) hyk)
theorem s_tokens {σ μ : mS} {n h b : Nat} {y : Int32} {Q : Int32 → mS → Prop} {X : String → mS → Prop} (R : R0 σ μ n h) (hb : 1 ≤ b) (h1 : ∀ s, s < 6 → y = nI s → Q (mI μ 9 s) σ) (h0 : (∀ s, s < 6 → y ≠ nI s) → X xIO σ) : w_X2_tokens y σ b Q X := by
  unfold w_X2_tokens
  exact ⟨1, by omega, s_serviceAt R (Nat.le_refl 1) (fun s hs hy => ⟨3 + 3 * s, rfl, kS hs, by rw [(R.2.2.1 s hs).2.2.2.2.2.2.2.2.1]; exact h1 s hs hy⟩) (fun hno => h0 hno)⟩
theorem s_isOpen {σ μ : mS} {n h b s : Nat} {Q : Int32 → mS → Prop} {X : String → mS → Prop} (R : R0 σ μ n h) (hb : 1 ≤ b) (hs : s < 6) (h1 : mI μ 0 1 < mI μ 11 s → Q 1 σ) (h0 : ¬ mI μ 0 1 < mI μ 11 s → Q 0 σ) : w_X2_isOpen (nI s) σ b Q X := by
  unfold w_X2_isOpen
  refine ⟨1, by omega, s_serviceAt R (Nat.le_refl 1) (fun d hd hy => ⟨3 + 3 * d, rfl, kS hd, ?_⟩) (fun hno => absurd rfl (hno s hs))⟩
  have hds : d = s := i_inj (by omega) (by omega) hy.symm
  subst hds
  exact s_refuses R hd h1 h0
theorem R0_01 {σ μ : mS} {n h : Nat} (R : R0 σ μ n h) : mI σ 0 3 = mI μ 0 1 ∧ mI σ 0 2 = nI n := ⟨R.now, R.2.1.2.2.1⟩
/-- numbers of services that there are not, and numbers out of range -/
theorem no6 : ∀ s, s < 6 → (6 : Int32) ≠ nI s := fun s hs q => by
  have := i_inj (a := 6) (b := s) (by omega) (by omega) q
  omega
theorem nom1 {n : Nat} (hn : n ≤ 200) : ∀ s, s < n → (-1 : Int32) ≠ nI s := fun s hs q => i_ne1 (p := s) (by omega) q.symm
theorem noN {n : Nat} (hn : n ≤ 200) : ∀ s, s < n → nI n ≠ nI s := fun s hs q => by
  have := i_inj (a := n) (b := s) (by omega) (by omega) q
  omega
def eSW (μ : mS) (s : Nat) (y2 y3 : Int32) : mS := sI (sI (sI μ 1 s y2) 2 s y3) 3 s 0
def eSR (μ : mS) (s : Nat) (y2 y3 y4 : Int32) : mS := sI (sI (sI μ 6 s y2) 7 s y3) 8 s y4
theorem s_setWork {σ μ : mS} {n h b s : Nat} {y2 y3 : Int32} {Q : Int32 → mS → Prop} {X : String → mS → Prop} (R : R0 σ μ n h) (hb : 3 ≤ b) (hs : s < 6) (g1 : ¬ y2 < 1 ∧ ¬ 20 < y2) (g2 : ¬ y3 < 0 ∧ ¬ 20 < y3) (hQ : ∀ σ', R0 σ' (eSW μ s y2 y3) n h → Q (mI μ 1 s) σ') : w_X2_setWork (nI s) y2 y3 σ b Q X := by
  unfold w_X2_setWork
  refine ⟨1, by omega, s_serviceAt R (Nat.le_refl 1) (fun d hd hy => ⟨1, by omega, s_range (Nat.le_refl 1) (fun a1 a2 => ⟨1, by omega, s_range (Nat.le_refl 1) (fun b1 b2 => ⟨3 + 3 * d, rfl, kS hd, ?_⟩) (fun q => absurd q (fun z => z.elim g2.1 g2.2))⟩) (fun q => absurd q (fun z => z.elim g1.1 g1.2))⟩) (fun hno => absurd rfl (hno s hs))⟩
  have hds : d = s := i_inj (by omega) (by omega) hy.symm
  subst hds
  rintro _ rfl _ rfl _ rfl
  obtain ⟨v1, v2, v3, v4, v5, v6, v7, v8, v9, v10, v11, v12, v13⟩ := R.2.2.1 d hd
  rw [v3]
  refine hQ _ (R0_sv R hd rfl (fun _ _ => rfl) (fun a b ha => by rw [oI (by omega), oI (by omega), oI (by omega)]) (wM_ir (wM_ir (wM_ir R.1 (by unfold irr; omega)) (by unfold irr; omega)) (by unfold irr; omega)) (fun a b ha => by unfold eSW; rw [oI (by omega), oI (by omega), oI (by omega)]) (by simp (disch := omega) only [oI]) (by simp (disch := omega) only [oI]) ?_)
  simp (disch := omega) only [eSW, oI, nIi]
  exact ⟨trivial, trivial, trivial, v6, v7, v8, v9, v10, v11⟩
theorem s_setRoom {σ μ : mS} {n h b s : Nat} {y2 y3 y4 : Int32} {Q : Int32 → mS → Prop} {X : String → mS → Prop} (R : R0 σ μ n h) (hb : 4 ≤ b) (hs : s < 6) (g1 : ¬ y2 < 1 ∧ ¬ 5 < y2) (g2 : ¬ y3 < 0 ∧ ¬ 8 < y3) (g3 : ¬ y4 < 0 ∧ ¬ 50 < y4) (hQ : ∀ σ', R0 σ' (eSR μ s y2 y3 y4) n h → Q (mI μ 6 s) σ') : w_X2_setRoom (nI s) y2 y3 y4 σ b Q X := by
  unfold w_X2_setRoom
  refine ⟨1, by omega, s_serviceAt R (Nat.le_refl 1) (fun d hd hy => ⟨1, by omega, s_range (Nat.le_refl 1) (fun a1 a2 => ⟨1, by omega, s_range (Nat.le_refl 1) (fun b1 b2 => ⟨1, by omega, s_range (Nat.le_refl 1) (fun c1 c2 => ⟨3 + 3 * d, rfl, kS hd, ?_⟩) (fun q => absurd q (fun z => z.elim g3.1 g3.2))⟩) (fun q => absurd q (fun z => z.elim g2.1 g2.2))⟩) (fun q => absurd q (fun z => z.elim g1.1 g1.2))⟩) (fun hno => absurd rfl (hno s hs))⟩
  have hds : d = s := i_inj (by omega) (by omega) hy.symm
  subst hds
  rintro _ rfl _ rfl _ rfl
  obtain ⟨v1, v2, v3, v4, v5, v6, v7, v8, v9, v10, v11, v12, v13⟩ := R.2.2.1 d hd
  rw [v6]
  refine hQ _ (R0_sv R hd rfl (fun _ _ => rfl) (fun a b ha => by rw [oI (by omega), oI (by omega), oI (by omega)]) (wM_ir (wM_ir (wM_ir R.1 (by unfold irr; omega)) (by unfold irr; omega)) (by unfold irr; omega)) (fun a b ha => by unfold eSR; rw [oI (by omega), oI (by omega), oI (by omega)]) (by simp (disch := omega) only [oI]) (by simp (disch := omega) only [oI]) ?_)
  simp (disch := omega) only [eSR, oI, nIi]
  exact ⟨v3, v4, v5, trivial, trivial, trivial, v9, v10, v11⟩
theorem s_setWork0 {σ μ : mS} {n h b : Nat} {y y2 y3 : Int32} {Q : Int32 → mS → Prop} {X : String → mS → Prop} (R : R0 σ μ n h) (hb : 3 ≤ b) (hno : ∀ s, s < 6 → y ≠ nI s) (hX : X xIO σ) : w_X2_setWork y y2 y3 σ b Q X := by
  unfold w_X2_setWork
  exact ⟨1, by omega, s_serviceAt R (Nat.le_refl 1) (fun s hs hy => absurd hy (hno s hs)) (fun _ => hX)⟩
theorem s_setWork1 {σ μ : mS} {n h b s : Nat} {y2 y3 : Int32} {Q : Int32 → mS → Prop} {X : String → mS → Prop} (R : R0 σ μ n h) (hb : 3 ≤ b) (hs : s < 6) (hbad : (y2 < 1 ∨ 20 < y2) ∨ (y3 < 0 ∨ 20 < y3)) (hX : X xIA σ) : w_X2_setWork (nI s) y2 y3 σ b Q X := by
  unfold w_X2_setWork
  refine ⟨1, by omega, s_serviceAt R (Nat.le_refl 1) (fun d hd hy => ⟨1, by omega, s_range (Nat.le_refl 1) (fun a1 a2 => ⟨1, by omega, s_range (Nat.le_refl 1) (fun b1 b2 => ?_) (fun _ => hX)⟩) (fun _ => hX)⟩) (fun hno => absurd rfl (hno s hs))⟩
  rcases hbad with (q | q) | (q | q)
  · exact absurd q a1
  · exact absurd q a2
  · exact absurd q b1
  · exact absurd q b2
theorem s_setRoom0 {σ μ : mS} {n h b : Nat} {y y2 y3 y4 : Int32} {Q : Int32 → mS → Prop} {X : String → mS → Prop} (R : R0 σ μ n h) (hb : 4 ≤ b) (hno : ∀ s, s < 6 → y ≠ nI s) (hX : X xIO σ) : w_X2_setRoom y y2 y3 y4 σ b Q X := by
  unfold w_X2_setRoom
  exact ⟨1, by omega, s_serviceAt R (Nat.le_refl 1) (fun s hs hy => absurd hy (hno s hs)) (fun _ => hX)⟩
theorem s_setRoom1 {σ μ : mS} {n h b s : Nat} {y2 y3 y4 : Int32} {Q : Int32 → mS → Prop} {X : String → mS → Prop} (R : R0 σ μ n h) (hb : 4 ≤ b) (hs : s < 6) (hbad : (y2 < 1 ∨ 5 < y2) ∨ (y3 < 0 ∨ 8 < y3) ∨ (y4 < 0 ∨ 50 < y4)) (hX : X xIA σ) : w_X2_setRoom (nI s) y2 y3 y4 σ b Q X := by
  unfold w_X2_setRoom
  refine ⟨1, by omega, s_serviceAt R (Nat.le_refl 1) (fun d hd hy => ⟨1, by omega, s_range (Nat.le_refl 1) (fun a1 a2 => ⟨1, by omega, s_range (Nat.le_refl 1) (fun b1 b2 => ⟨1, by omega, s_range (Nat.le_refl 1) (fun c1 c2 => ?_) (fun _ => hX)⟩) (fun _ => hX)⟩) (fun _ => hX)⟩) (fun hno => absurd rfl (hno s hs))⟩
  rcases hbad with (q | q) | (q | q) | (q | q)
  · exact absurd q a1
  · exact absurd q a2
  · exact absurd q b1
  · exact absurd q b2
  · exact absurd q c1
  · exact absurd q c2
theorem s_ask {σ μ : mS} {n h b : Nat} {y y2 : Int32} {Q : Int32 → mS → Prop} {X : String → mS → Prop} (R : R0 σ μ n h) (hb : 3 ≤ b)
    (h1 : ∀ s o a, s < 6 → o < 6 → y = nI s → y2 = nI o → nI s < nI o → a < 3 → mI μ 4 s = nI a → ∀ σ', R0 σ' (sI (sI μ 5 (3 * s + a) (nI o)) 4 s (nI (a + 1))) n h → Q (nI (a + 1)) σ')
    (h3 : ∀ s o, s < 6 → o < 6 → y = nI s → y2 = nI o → nI s < nI o → mI μ 4 s = nI 3 → X xIS σ) (h2 : ∀ s o, s < 6 → o < 6 → y = nI s → y2 = nI o → ¬ nI s < nI o → X xIA σ) (h0 : (∀ s, s < 6 → y ≠ nI s) ∨ (∀ s, s < 6 → y2 ≠ nI s) → X xIO σ) : w_X2_ask y y2 σ b Q X := by
  unfold w_X2_ask
  refine ⟨1, by omega, s_serviceAt R (Nat.le_refl 1) (fun s hs hy => ⟨1, by omega, s_serviceAt R (Nat.le_refl 1) (fun o ho hy2 => ⟨fun hlt => ⟨3 + 3 * s, rfl, kS hs, ?_⟩, fun hge => ⟨by omega, ?_⟩⟩) (fun hno => h0 (Or.inr hno))⟩) (fun hno => h0 (Or.inl hno))⟩
  · obtain ⟨-, a, ha, h4, -⟩ := R.1.2.2.2.2.1 s hs
    have v12 : mI σ (3 + 3 * s) 11 = nI a := ((R.2.2.1 s hs).2.2.2.2.2.2.2.2.2.2.2.1).trans h4
    have hlt' : nI s < nI o := by rw [← hy, ← hy2]; exact hlt
    unfold w_X1_addToRow
    rw [v12]
    refine ⟨kS hs, fun h3' => ?_, fun h3' => ⟨fun q => absurd rfl q, fun _ => ⟨by omega, ?_⟩⟩⟩
    · have ha3 : a < 3 := (i_lt3 (by omega)).mp h3'
      refine ⟨3 + 3 * o, rfl, kS ho, a, rfl, ha3, ?_⟩
      rintro _ rfl _ rfl
      rw [show mI (sR σ (3 + 3 * s + 1) a (some (3 + 3 * o))) (3 + 3 * s) 11 = nI a from v12, nI_1, show 3 + 3 * s + 1 = 4 + 3 * s by omega]
      refine ⟨fun _ => ?_, fun q => absurd q (by decide)⟩
      rw [nIi]
      exact h1 s o a hs ho hy hy2 hlt' ha3 h4 _ (R0_row R hs ha3 h4 ho)
    · have ha3 : a = 3 := by
        have : ¬ a < 3 := fun q => h3' ((i_lt3 (by omega)).mpr q)
        omega
      exact h3 s o hs ho hy hy2 hlt' (by rw [h4, ha3])
  · have hge' : ¬ nI s < nI o := by rw [← hy, ← hy2]; exact hge
    exact h2 s o hs ho hy hy2 hge'
theorem s_cancel {σ μ : mS} {n h b : Nat} {y : Int32} {Q : Int32 → mS → Prop} {X : String → mS → Prop} (R : R0 σ μ n h) (hb : 2 ≤ b)
    (h1 : ∀ c, c < n → y = nI c → mI μ 15 c < 3 → mI μ 14 c = -1 → ∀ σ', R0 σ' (eFin μ c 7) n h → Q (1 + eFcn μ c 7) σ') (h2 : ∀ c, c < n → y = nI c → (¬ mI μ 15 c < 3 ∨ mI μ 14 c ≠ -1) → X xIS σ) (h0 : (∀ c, c < n → y ≠ nI c) → X xIO σ) : w_X2_cancel y σ b Q X := by
  have hn := R.n2
  unfold w_X2_cancel
  refine ⟨1, by omega, s_callAt R (Nat.le_refl 1) (fun c hc hy => ⟨21 + c, rfl, R.mo hc, s_isOver R hc (fun ho => ⟨fun q => absurd rfl q, fun _ => ⟨R.mo hc, ?_⟩⟩) (fun ho => ⟨fun _ => ⟨by omega, h2 c hc hy (Or.inl ho)⟩, fun q => absurd q (by decide)⟩)⟩) (fun hno => h0 hno)⟩
  rintro _ rfl
  obtain ⟨-, -, -, v4, v5, -⟩ := R.2.2.2.2.1 c hc
  rcases wM_par R.1 hc with hpar | ⟨p, hp, hpar⟩
  · rw [v4 hpar]
    refine ⟨fun _ => ?_, fun i q => (by cases q)⟩
    exact s_finish (w := 7) R hc ho (by omega) (by omega) (fun σ1 R2 => h1 c hc hy ho hpar σ1 R2)
  · rw [v5 p hp hpar]
    exact ⟨fun q => (by cases q), fun i _ => ⟨by omega, h2 c hc hy (Or.inr (by rw [hpar]; exact i_ne1 (by omega)))⟩⟩
abbrev eCall (μ : mS) (n s : Nat) (y2 : Int32) : mS := eBeg (eBorn μ n s (mI μ 0 1 + y2) none) (n + 1) n s
theorem s_call {σ μ : mS} {n h b s : Nat} {y2 : Int32} {Q : Int32 → mS → Prop} {X : String → mS → Prop} (R : R0 σ μ n h) (hb : 3 ≤ b) (hn2 : n < 200) (hs : s < 6) (g1 : ¬ y2 < 1 ∧ ¬ 100 < y2) (hQ : ∀ σ', R0 σ' (eCall μ n s y2) (n + 1) h → Q (nI n) σ') : w_X2_call (nI s) y2 σ b Q X := by
  have h2 : mI σ 0 2 = nI n := R.2.1.2.2.1
  unfold w_X2_call
  refine ⟨1, by omega, s_serviceAt R (Nat.le_refl 1) (fun d hd hy => ⟨1, by omega, s_range (Nat.le_refl 1) (fun q1 q2 => ?_) (fun q => absurd q (fun z => z.elim g1.1 g1.2))⟩) (fun hno => absurd rfl (hno s hs))⟩
  have hds : d = s := i_inj (by omega) (by omega) hy.symm
  subst hds
  unfold w_X2_isFull
  rw [h2]
  refine ⟨fun hlt => ⟨fun _ => ⟨1, by omega, ?_⟩, fun q => absurd rfl q⟩, fun hlt => absurd ((nI_ltI (b := 200) (by omega) (by omega)).mpr hn2) hlt⟩
  rw [R.now]
  refine s_makeCall (par := none) R hn2 hd (fun p hp => by cases hp) rfl (fun _ _ => rfl) (fun a b hab => rfl) (fun p hp => by cases hp) (Nat.le_refl 1) (fun σ1 RB => ?_)
  obtain ⟨x12, -, -, x15, -⟩ := eBorn_x (μ := μ) (n := n) (s := d) (dl := mI μ 0 1 + y2) (par := none)
  refine s_begin RB (by omega) hd x12 (by rw [x15]; decide) (born_ch RB.1 hn2) (fun σ2 R2 => ⟨21 + n, rfl, R2.mo (by omega), ?_⟩)
  rw [(R2.2.2.2.2.1 n (by omega)).2.1]
  exact hQ σ2 R2
theorem s_call0 {σ μ : mS} {n h b : Nat} {y y2 : Int32} {Q : Int32 → mS → Prop} {X : String → mS → Prop} (R : R0 σ μ n h) (hb : 3 ≤ b) (hno : ∀ s, s < 6 → y ≠ nI s) (hX : X xIO σ) : w_X2_call y y2 σ b Q X := by
  unfold w_X2_call
  exact ⟨1, by omega, s_serviceAt R (Nat.le_refl 1) (fun s hs hy => absurd hy (hno s hs)) (fun _ => hX)⟩
theorem s_call1 {σ μ : mS} {n h b s : Nat} {y2 : Int32} {Q : Int32 → mS → Prop} {X : String → mS → Prop} (R : R0 σ μ n h) (hb : 3 ≤ b) (hs : s < 6) (hbad : y2 < 1 ∨ 100 < y2) (hX : X xIA σ) : w_X2_call (nI s) y2 σ b Q X := by
  unfold w_X2_call
  exact ⟨1, by omega, s_serviceAt R (Nat.le_refl 1) (fun d hd hy => ⟨1, by omega, s_range (Nat.le_refl 1) (fun q1 q2 => absurd hbad (fun z => z.elim q1 q2)) (fun _ => hX)⟩) (fun hno => absurd rfl (hno s hs))⟩
theorem s_pass0 {σ μ : mS} {n h b : Nat} {y : Int32} {Q : Int32 → mS → Prop} {X : String → mS → Prop} (R : R0 σ μ n h) (hb : 1 ≤ b) (hbad : y < 1 ∨ 100 < y) (hX : X xIA σ) : w_X2_pass y σ b Q X := by
  unfold w_X2_pass
  exact ⟨1, by omega, s_range (Nat.le_refl 1) (fun q1 q2 => absurd hbad (fun z => z.elim q1 q2)) (fun _ => hX)⟩
/-- one tick -/
theorem s_pass1 {σ μ : mS} {n h b : Nat} {Q : Int32 → mS → Prop} {X : String → mS → Prop} (R : R0 σ μ n h) (hb : 1 + (qN (eMks (eT4 μ)) - n) ≤ b) (hn : n ≤ qN (eMks (eT4 μ))) (hQ : ∀ σ' h', R0 σ' (eTick μ) (qN (eMks (eT4 μ))) h' → Q (nI (cnt (qN (eMks (eT4 μ))) (fR (eTick μ))) - nI (cnt n (fR μ))) σ') : w_X2_pass 1 σ b Q X := by
  unfold w_X2_pass
  refine ⟨1, by omega, s_range (Nat.le_refl 1) (fun _ _ => ⟨fun k x u σ' => (k = 1 ∧ x = nI 0 ∧ u = 1 ∧ σ' = σ) ∨ (k = 0 ∧ x = nI 1 ∧ u = 1 + (qN (eMks (eT4 μ)) - n) ∧ ∃ h', R0 σ' (eTick μ) (qN (eMks (eT4 μ))) h'), ?_, 1, Or.inl ⟨rfl, rfl, rfl, rfl⟩⟩) (fun q => absurd q (by decide))⟩
  intro k x u σ' hP
  rcases hP with ⟨hk, hx, hu, hσ⟩ | ⟨hk, hx, hu, h', R'⟩
  · rw [hk, hx, hu, hσ]
    refine ⟨fun hl => absurd hl (by decide), fun _ => ?_⟩
    rintro _ rfl
    exact s_tick R (by omega) (fun σ2 h2 R2 => ⟨0, by omega, Or.inr ⟨rfl, nI_1 0, rfl, h2, R2⟩⟩)
  · rw [hk, hx, hu]
    refine ⟨fun _ => ?_, fun hl => absurd (by decide) hl⟩
    have h9 := hQ σ' h' R'
    rw [R'.2.1.2.2.2.2.1, R.2.1.2.2.2.2.1]
    exact h9
