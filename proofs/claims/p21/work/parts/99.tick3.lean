/-! a whole tick, and what stands still -/
abbrev st12 (μ : mS) (e : Nat) : Prop := mI μ 15 e = 1 ∨ mI μ 15 e = 2
theorem eEnd_k {μ : mS} {c w d : Nat} (hw3 : 3 ≤ w) (hw : w < 8) (h : st12 (eEnd μ c w) d) : st12 μ d := by
  unfold eEnd at h
  by_cases hdc : d = c
  · rw [hdc] at h
    simp (disch := omega) only [st12, oI, nIi] at h
    rcases h with h | h
    · have := i_inj (b := 1) (by omega) (by omega) h; omega
    · have := i_inj (b := 2) (by omega) (by omega) h; omega
  · simp (disch := omega) only [st12, oI] at h
    exact h
theorem eClose_k {μ : mS} {c w d : Nat} (hw3 : 3 ≤ w) (hw : w < 8) (h : st12 (eClose μ c w) d) : st12 μ d := by
  unfold eClose at h
  split at h
  · unfold st12 at h
    rw [eTok_o (by omega) (by omega)] at h
    exact eEnd_k hw3 hw h
  · exact eEnd_k hw3 hw h
theorem eLoop_k {d : Nat} : ∀ (k c : Nat) (μ : mS), st12 (eLoop k c μ) d → st12 μ d := by
  intro k
  induction k with
  | zero => intro c μ h; exact h
  | succ k ih =>
    intro c μ h
    have h1 := ih (c + 1) _ h
    unfold eStep at h1
    split at h1
    · exact eEnd_k (w := 7) (by decide) (by decide) h1
    · exact h1
theorem eFin_k {μ : mS} {c w d : Nat} (hw3 : 3 ≤ w) (hw : w < 8) (h : st12 (eFin μ c w) d) : st12 μ d := eClose_k hw3 hw (eLoop_k _ _ _ h)
theorem st12_o {μ μ' : mS} {d : Nat} (e : mI μ' 15 d = mI μ 15 d) (h : st12 μ' d) : st12 μ d := by
  unfold st12 at h ⊢
  rw [e] at h
  exact h
theorem eLate_k {μ : mS} {c d : Nat} (h : st12 (eLate μ c) d) : st12 μ d := by
  unfold eLate at h
  split at h
  · exact eFin_k (w := 5) (by decide) (by decide) (st12_o (eTrb_o (by omega)) h)
  · exact h
theorem eWork_k {μ : mS} {c d : Nat} (h : st12 (eWork μ c) d) : st12 μ d := by
  unfold eWork at h
  split at h
  · next q =>
    unfold eWk2 at h
    have e1 : mI (eWk1 μ (qS μ c)) 15 d = mI μ 15 d := eWk1_o (by omega)
    split at h
    · exact st12_o e1 (eFin_k (w := 4) (by decide) (by decide) (st12_o (eTrb_o (by omega)) h))
    · split at h
      · exact st12_o e1 (eFin_k (w := 3) (by decide) (by decide) h)
      · by_cases hdc : d = c
        · rw [hdc]; exact Or.inl q.1
        · exact st12_o e1 (st12_o (eAsk_o (by omega) (by omega)) h)
  · exact h
theorem upL_k {f : mS → Nat → mS} {d : Nat} (hf : ∀ μ c, st12 (f μ c) d → st12 μ d) : ∀ (k c : Nat) (μ : mS), st12 (upL f k c μ) d → st12 μ d := by
  intro k
  induction k with
  | zero => intro c μ h; exact h
  | succ k ih => intro c μ h; exact hf μ c (ih (c + 1) _ h)
theorem dnL_k {f : mS → Nat → mS} {d : Nat} (hf : ∀ μ c, st12 (f μ c) d → st12 μ d) : ∀ (k : Nat) (μ : mS), st12 (dnL f k μ) d → st12 μ d := by
  intro k
  induction k with
  | zero => intro μ h; exact h
  | succ k ih => intro μ h; exact hf μ k (ih _ h)
theorem eCan_k {p : Nat} {μ : mS} {c d : Nat} (h : st12 (eCan p μ c) d) : st12 μ d := by
  unfold eCan at h
  split at h
  · exact eFin_k (w := 7) (by decide) (by decide) h
  · exact h
theorem eLook_k {μ : mS} {c d : Nat} (h : st12 (eLook μ c) d) : st12 μ d := by
  unfold eLook at h
  split at h
  · unfold eGo eNxt at h
    split at h
    · have e1 : mI (sI (sI (eFin (eGoL μ c) c 3) 22 c (mI (eGoL μ c) 22 c + 1)) 23 c 0) 15 d = mI (eFin (eGoL μ c) c 3) 15 d := by rw [oI (by omega), oI (by omega)]
      have h1 : st12 (eGoL μ c) d := eFin_k (w := 3) (by decide) (by decide) (st12_o e1 h)
      unfold eGoL at h1
      exact upL_k (f := eCan c) (fun μ e h => eCan_k h) _ _ _ h1
    · have e1 : mI (sI (sI (sI (eGoL μ c) 22 c (mI (eGoL μ c) 22 c + 1)) 23 c 0) 24 c 1) 15 d = mI (eGoL μ c) 15 d := by rw [oI (by omega), oI (by omega), oI (by omega)]
      have h1 : st12 (eGoL μ c) d := st12_o e1 h
      unfold eGoL at h1
      exact upL_k (f := eCan c) (fun μ e h => eCan_k h) _ _ _ h1
  · split at h
    · split at h
      · refine st12_o ?_ h
        unfold eAgn
        rw [oI (by omega), oI (by omega), oI (by omega)]
      · exact eFin_k (w := 4) (by decide) (by decide) h
    · split at h
      · exact st12_o (oI (by omega)) h
      · exact h
theorem eJdg_k {μ : mS} {c d : Nat} (h : st12 (eJdg μ c) d) : st12 μ d := by
  unfold eJdg at h
  split at h
  · exact eLook_k h
  · exact h
abbrev f12 (μ : mS) : Nat → Bool := fun e => decide (st12 μ e)
theorem t4_A {μ : mS} {n : Nat} : cnt n (fA (eT4 μ) 0) ≤ cnt n (f12 μ) := cnt_le_of (fun e he q => by
  have q := of_decide_eq_true q
  refine decide_eq_true ?_
  have h1 : st12 (eT4 μ) e := Or.inr q.2
  unfold eT4 at h1
  exact st12_o (μ := μ) (by unfold eT0; rw [oI (by omega)]) (upL_k (fun _ _ => eLate_k) _ _ _ (upL_k (fun _ _ => eWork_k) _ _ _ (dnL_k (fun _ _ => eJdg_k) _ _ h1))))
theorem l_tick {τ μ : mS} {n t : Nat} {F : Nat → Nat → Nat} {Q : mS → Prop} (hM : wM μ n) (P : PL τ μ n F d0) (ht : mI μ 0 1 = nI t) (ht1 : t + 1 ≤ 1000) (hA : n + cnt n (f12 μ) ≤ 58) (hQ : ∀ τ' F', PL τ' (eTick μ) (qN (eMks (eT4 μ))) F' d0 → Q τ') : w_L_tick τ Q := by
  have h0 : wM (eT0 μ) n := wM_ir hM (by unfold irr; omega)
  have h1 : wM (upL eLate n 0 (eT0 μ)) n := upL_keep (P := fun μ => wM μ n) (fun μ c hc h => wM_late h hc) n 0 _ (by omega) h0
  have h2 : wM (upL eWork n 0 (upL eLate n 0 (eT0 μ))) n := upL_keep (P := fun μ => wM μ n) (fun μ c hc h => wM_work h hc) n 0 _ (by omega) h1
  have h3 : wM (dnL eJdg n (upL eWork n 0 (upL eLate n 0 (eT0 μ)))) n := dnL_keep (P := fun μ => wM μ n) (n := n) (fun μ c hc h => wM_jdg h hc) n _ (Nat.le_refl _) h2
  have hqn := qN_e hM
  have e4 : eT4 μ = dnL eJdg n (upL eWork n 0 (upL eLate n 0 (eT0 μ))) := by unfold eT4; rw [hqn]
  have hA4 := t4_A (μ := μ) (n := n)
  unfold eTick at hQ
  rw [e4] at hQ hA4
  obtain ⟨n5, -, h5⟩ := wM_mks h3
  have hq5 := qN_e h5
  unfold w_L_tick
  refine ⟨0, rfl, by decide, 0, rfl, by decide, ?_⟩
  rintro _ rfl
  show lT1 _ Q
  refine l_T1 h0 (pl_t0 P ht ht1) (fun τ1 F1 P1 => l_T2 h1 P1 (fun τ2 F2 P2 => l_T3 h2 P2 (fun τ3 F3 P3 => l_T4 h3 P3 (by omega) (fun τ4 F4 P4 => ?_))))
  rw [hq5] at P4 hQ
  exact l_T5 h5 P4 hQ
theorem l_low {y : Int32} {m : Nat} {τ : mS} {Q : Int32 → mS → Prop} (hm : 0 < m) (hm2 : m < 2 ^ 31) (hQ : ∀ k, k < m → Q (nI k) τ) : w_L_low y (nI m) τ Q := by
  unfold w_L_low
  refine ⟨fun q => ?_, ?_⟩
  · have := i_inj (b := 0) hm2 (by decide) q
    omega
  · have h1 : (mUsh y (1 : Int32)).toBitVec.toNat = y.toBitVec.toNat / 2 ^ 1 := pk_ushr y 1 1 (by decide)
    have h2 : mUsh y (1 : Int32) = nI (y.toBitVec.toNat / 2) := Int32.toBitVec_inj.mp (BitVec.eq_of_toNat_eq (by
      rw [h1]
      show _ = (BitVec.ofNat 32 _).toNat
      rw [BitVec.toNat_ofNat]
      have := y.toBitVec.isLt
      omega))
    have h3 := y.toBitVec.isLt
    rw [h2, pk_rem (by omega) hm hm2]
    exact hQ _ (Nat.mod_lt _ hm)
theorem l_below {τ μ : mS} {n t : Nat} {F : Nat → Nat → Nat} {Q : Int32 → mS → Prop} (hM : wM μ n) (P : PL τ μ n F d0) (ht : t < n) (hQ : Q (nI (cnt n (fB μ t))) τ) : w_L_below (nI t) τ Q := by
  obtain ⟨k0, k1, kn⟩ := l_now P
  have hn2 := hM.2.2.2.1
  have z0 : cnt (t + 1) (fB μ t) = 0 := cnt_zero fun c hc => by
    cases hq : belQ μ t c with
    | false => simp [fB, hq]
    | true => have := bB_lt hM 200 c (by omega) hq; omega
  unfold w_L_below
  refine ⟨fun m x y τ' => ∃ d, y = nI d ∧ t < d ∧ d ≤ n ∧ m = n - d ∧ τ' = τ ∧ x = nI (cnt d (fB μ t)), ?_, n - (t + 1), t + 1, nI_1 t, by omega, by omega, rfl, rfl, by rw [z0]; rfl⟩
  rintro m x y τ' ⟨d, hy, htd, hd, hm, hτ, hx⟩
  rw [hy, hm, hτ, hx]
  refine ⟨1, rfl, by decide, ?_⟩
  rw [k1]
  refine ⟨fun hl => ?_, fun hl => ?_⟩
  · have h1 : n ≤ d := (nI_leI (by omega) (by omega)).mp hl
    have hdn : d = n := by omega
    rw [hdn]; exact hQ
  · have h1 : d < n := Nat.not_le.mp fun q => hl ((nI_leI (by omega) (by omega)).mpr q)
    obtain ⟨hxd, ha, c12, c15, c19, r3, r4, -⟩ := P.2.2 d h1
    have hx' := id hxd
    unfold aBd at hx'
    obtain ⟨ho, -⟩ := l_open P h1
    have nxt0 : fB μ t d = false → ∃ k, k < n - d ∧ ∃ d', nI d + 1 = nI d' ∧ t < d' ∧ d' ≤ n ∧ k = n - d' ∧ τ = τ ∧ nI (cnt d (fB μ t)) + (0 : Int32) = nI (cnt d' (fB μ t)) := fun hf => ⟨n - (d + 1), by omega, d + 1, nI_1 d, by omega, by omega, rfl, rfl, by rw [cnt_succ, hf, Int32.add_zero]; rfl⟩
    refine ⟨d, rfl, by omega, fun m2 y2 τ2 => τ2 = τ ∧ ((y2 = -1 ∧ belQ μ t d = false ∧ m2 = 0) ∨ ∃ q, q < d ∧ y2 = nI q ∧ belQ μ t d = (decide (q = t) || belQ μ t q) ∧ m2 = q + 1), ?_, ?_⟩
    · rintro m2 y2 τ2 ⟨hτ2, hy2⟩
      rw [hτ2]
      rcases hy2 with ⟨hy2, hb, hm2⟩ | ⟨q, hqd, hy2, hb, hm2⟩
      · rw [hy2]
        have hneg : (-1 : Int32) ≤ nI t := by
          rw [Int32.le_iff_toInt_le, nI_toInt (by omega)]
          show (-1 : Int) ≤ _
          omega
        exact ⟨fun _ => ⟨fun _ => nxt0 (by simp [fB, hb]), fun q => absurd q.symm (i_ne1 (by omega))⟩, fun q => absurd hneg q⟩
      · rw [hy2, hm2]
        refine ⟨fun hle => ⟨fun hne => nxt0 ?_, fun he => ?_⟩, fun hle => ⟨q, rfl, by omega, ?_⟩⟩
        · have h2 : q ≤ t := (nI_leI (by omega) (by omega)).mp hle
          have h3 : q ≠ t := fun z => hne (by rw [z])
          have h4 : belQ μ t q = false := by
            cases hz : belQ μ t q with
            | false => rfl
            | true => have := bB_lt hM 200 q (by omega) hz; omega
          have h5 : belQ μ t d = false := by rw [hb, h4]; simp [h3]
          simp [fB, h5]
        · have h3 : q = t := i_inj (by omega) (by omega) he
          have h5 : belQ μ t d = true := by rw [hb]; simp [h3]
          refine q_get1 (by omega) hxd ha ⟨fun hge => nxt0 ?_, fun hge => ⟨n - (d + 1), by omega, d + 1, nI_1 d, by omega, by omega, rfl, rfl, ?_⟩⟩
          · have h6 := (i_3le (by omega)).mp hge
            have h7 : ¬ mI μ 15 d < 3 := fun z => by have := ho.mp z; omega
            simp [fB, h7]
          · have h7 : mI μ 15 d < 3 := ho.mpr (Nat.not_le.mp fun z => hge ((i_3le (by omega)).mpr z))
            rw [cnt_succ, if_pos (by simp [fB, h5, h7])]
            exact nI_1 _
        · have h2 : t < q := Nat.not_le.mp fun z => hle ((nI_leI (by omega) (by omega)).mpr z)
          have hq4 : mI τ 4 q = mI μ 14 q := (P.2.2 q (by omega)).2.2.2.2.2.2.1
          rw [hq4]
          have hqt : decide (q = t) = false := decide_eq_false (by omega)
          rcases wM_par hM (c := q) (by omega) with hpar | ⟨p, hp, hpar⟩
          · exact ⟨0, by omega, rfl, Or.inl ⟨hpar, by rw [hb, hqt, bel_r hpar]; rfl, rfl⟩⟩
          · exact ⟨p + 1, by omega, rfl, Or.inr ⟨p, by omega, hpar, by rw [hb, hqt, Bool.false_or, bel_p hM (by omega) hp hpar], rfl⟩⟩
    · rw [r4]
      rcases wM_par hM h1 with hpar | ⟨p, hp, hpar⟩
      · exact ⟨0, rfl, Or.inl ⟨hpar, bel_r hpar, rfl⟩⟩
      · exact ⟨p + 1, rfl, Or.inr ⟨p, hp, hpar, bel_p hM h1 hp hpar, rfl⟩⟩
