/-! a layer of the law, from a new object on -/
theorem pl_begin {τ : mS} (h8 : mN τ = 8) (h0 : ∀ j, mI τ 0 j = 0) (h1 : ∀ r j, r < 6 → j < 10 → mI τ 1 (10 * r + j) = (if j = 0 then 1 else if j = 4 then 2 else if j = 5 then 4 else if j = 7 then 20 else 0)) : PL τ k3_73 0 (fun _ _ => 0) d0 := by
  have hv : ∀ s, s < 6 → mI k3_73 1 s = 1 ∧ mI k3_73 2 s = 0 ∧ mI k3_73 3 s = 0 ∧ mI k3_73 4 s = 0 ∧ mI k3_73 6 s = 2 ∧ mI k3_73 7 s = 4 ∧ mI k3_73 8 s = 0 ∧ mI k3_73 9 s = 20 ∧ mI k3_73 10 s = 0 ∧ mI k3_73 11 s = 0 := by decide +kernel
  have h01 : mI k3_73 0 1 = 0 := by decide +kernel
  refine ⟨⟨h8, by rw [h0, h01], by rw [h0]; rfl, by rw [h0]; rfl, by decide, 0, by decide, h01⟩, fun s hs => ?_, fun c hc => absurd hc (Nat.not_lt_zero c)⟩
  obtain ⟨v1, v2, v3, v4, v6, v7, v8, v9, v10, v11⟩ := hv s hs
  refine ⟨⟨1, by decide, v1⟩, ⟨0, fun _ => 0, by decide, v4, fun j hj => absurd hj (Nat.not_lt_zero j), by rw [h1 s 3 hs (by decide)]; rfl⟩, ?_, ?_, ?_, ?_, ?_, ?_, ?_, ?_, ?_⟩
  · rw [v1]; exact h1 s 0 hs (by decide)
  · rw [v2]; exact h1 s 1 hs (by decide)
  · rw [v3]; exact h1 s 2 hs (by decide)
  · rw [v6]; exact h1 s 4 hs (by decide)
  · rw [v7]; exact h1 s 5 hs (by decide)
  · rw [v8]; exact h1 s 6 hs (by decide)
  · rw [v9]; exact h1 s 7 hs (by decide)
  · rw [v10]; exact h1 s 8 hs (by decide)
  · rw [v11]; exact h1 s 9 hs (by decide)
set_option maxRecDepth 50000 in
theorem l_runs {L : Nat} {xs : Nat → Int32} {k : Nat} {τ : mS} (hk : k < 3) : w_L_runs L xs (nI (50 * k)) k2_21 (tG τ) 95000 (fun r _ _ => r = 1) := by
  obtain ⟨n0, h0, RR, CC⟩ := rel_begin
  have hn0 : n0 = 0 := by
    have e1 := RR.2.1.1
    have e2 : mN k2_21 = 21 := rfl
    omega
  subst hn0
  unfold w_L_runs
  refine ⟨fun m x u σ' τ' => ∃ d, x = nI d ∧ d ≤ 60 ∧ m = 60 - d ∧ u = 1 ∧ σ' = k2_21 ∧ mN τ' = 8 ∧ (∀ j, mI τ' 0 j = 0) ∧ ∀ j, j < d → mI τ' 1 j = 0, ?_, 60, 0, rfl, by decide, rfl, rfl, rfl, rfl, fun _ => rfl, fun j hj => absurd hj (Nat.not_lt_zero j)⟩
  rintro m x u σ' τ' ⟨d, hx, hd, hm, hu, hσ, h8, hg, hv⟩
  rw [hx, hm, hu, hσ]
  refine ⟨fun hl => ?_, fun hl => ?_⟩
  · have hd60 : 60 ≤ d := (nI_leI (a := 60) (by decide) (by omega)).mp hl
    refine ⟨fun m x u σ' τ' => ∃ s, x = nI s ∧ s ≤ 6 ∧ m = 6 - s ∧ u = 1 ∧ σ' = k2_21 ∧ mN τ' = 8 ∧ (∀ j, mI τ' 0 j = 0) ∧ ∀ r j, r < 6 → j < 10 → mI τ' 1 (10 * r + j) = if r < s then (if j = 0 then 1 else if j = 4 then 2 else if j = 5 then 4 else if j = 7 then 20 else 0) else 0, ?_, 6, 0, rfl, by decide, rfl, rfl, rfl, h8, hg, fun r j hr hj => by rw [if_neg (Nat.not_lt_zero r)]; exact hv _ (by omega)⟩
    rintro m x u σ' τ1 ⟨s, hx, hs6, hm, hu, hσ, h81, hg1, hv1⟩
    rw [hx, hm, hu, hσ]
    refine ⟨fun hl => ?_, fun hl => ?_⟩
    · have hs66 : 6 ≤ s := (nI_leI (a := 6) (by decide) (by omega)).mp hl
      have P0 : PL τ1 k3_73 0 (fun _ _ => 0) d0 := pl_begin h81 hg1 (fun r j hr hj => by rw [hv1 r j hr hj, if_pos (by omega)])
      have C0 : CZ (mI k3_73 0 0) 0 k3_73 := ⟨CC, rfl⟩
      refine ⟨1110, by decide, l_told RR CC P0 (Nat.le_refl _) ⟨fun _ => ?_, fun q => absurd q (by decide)⟩⟩
      refine ⟨fun m x u σ' τ' => ∃ i μ' n' h' F', x = nI (50 * k + i) ∧ i ≤ 70 ∧ m = 70 - i ∧ u ≤ 1111 + 1200 * i ∧ R0 σ' μ' n' h' ∧ CZ (mI k3_73 0 0) n' μ' ∧ PL τ' μ' n' F' d0 ∧ ∃ t, t ≤ i ∧ mI μ' 0 1 = nI t, ?_, 70, 0, k3_73, 0, h0, _, rfl, by decide, rfl, by decide, RR, C0, P0, 0, Nat.le_refl _, by decide +kernel⟩
      rintro m x u σ' τ' ⟨i, μ', n', h', F', hx, hi, hm, hu, R', C', P', t, ht, ht2⟩
      rw [hx, hm, show nI (50 * k) + (70 : Int32) = nI (50 * k + 70) from nAdd _ 70, show nI (50 * k) + (6 : Int32) = nI (50 * k + 6) from nAdd _ 6]
      refine ⟨fun _ => rfl, fun hl => ?_⟩
      have hi70 : i < 70 := by
        have : ¬ (50 * k + 70 ≤ 50 * k + i) := fun q => hl ((nI_leI (by omega) (by omega)).mpr q)
        omega
      refine ⟨3 * (50 * k + i), pk_mul 3 _, by omega, 3 * (50 * k + i) + 1, by rw [show (3 : Int32) * nI (50 * k + i) = nI (3 * (50 * k + i)) from pk_mul 3 _]; exact nI_1 _, by omega, 3 * (50 * k + i) + 2, by rw [show (3 : Int32) * nI (50 * k + i) = nI (3 * (50 * k + i)) from pk_mul 3 _]; exact nAdd _ 2, by omega, ?_⟩
      have K : ∀ u' σ2 τ2 μ2 n2 h2 F2, u' ≤ u + 1200 → R0 σ2 μ2 n2 h2 → CZ (mI k3_73 0 0) n2 μ2 → PL τ2 μ2 n2 F2 d0 → (mI μ2 0 1 = nI t ∨ mI μ2 0 1 = nI (t + 1)) → ∃ q, q < 70 - i ∧ ∃ i' μ' n' h' F', nI (50 * k + i) + 1 = nI (50 * k + i') ∧ i' ≤ 70 ∧ q = 70 - i' ∧ u' ≤ 1111 + 1200 * i' ∧ R0 σ2 μ' n' h' ∧ CZ (mI k3_73 0 0) n' μ' ∧ PL τ2 μ' n' F' d0 ∧ ∃ t, t ≤ i' ∧ mI μ' 0 1 = nI t := fun u' σ2 τ2 μ2 n2 h2 F2 q1 q2 q3 q4 q5 => by
        refine ⟨70 - (i + 1), by omega, i + 1, μ2, n2, h2, F2, (nI_1 (50 * k + i)).trans (congrArg nI (Nat.add_assoc (50 * k) i 1)), by omega, rfl, by omega, q2, q3, q4, ?_⟩
        rcases q5 with q5 | q5
        · exact ⟨t, by omega, q5⟩
        · exact ⟨t + 1, by omega, q5⟩
      refine ⟨fun _ => l_low (m := 22) (by decide) (by decide) (fun act hact => ⟨P'.1.1, ?_⟩), fun _ => ?_⟩
      · exact l_turn (b := 95000) (Q := fun r _ _ => r = 1) (K := fun u' σ2 τ2 => ∃ q, q < 70 - i ∧ ∃ i' μ' n' h' F', nI (50 * k + i) + 1 = nI (50 * k + i') ∧ i' ≤ 70 ∧ q = 70 - i' ∧ u' ≤ 1111 + 1200 * i' ∧ R0 σ2 μ' n' h' ∧ CZ (mI k3_73 0 0) n' μ' ∧ PL τ2 μ' n' F' d0 ∧ ∃ t, t ≤ i' ∧ mI μ' 0 1 = nI t) R' C' P' ht2 (by omega) (by omega) (fun _ _ => rfl) K
      · exact l_turn (act := 4) (b := 95000) (Q := fun r _ _ => r = 1) (K := fun u' σ2 τ2 => ∃ q, q < 70 - i ∧ ∃ i' μ' n' h' F', nI (50 * k + i) + 1 = nI (50 * k + i') ∧ i' ≤ 70 ∧ q = 70 - i' ∧ u' ≤ 1111 + 1200 * i' ∧ R0 σ2 μ' n' h' ∧ CZ (mI k3_73 0 0) n' μ' ∧ PL τ2 μ' n' F' d0 ∧ ∃ t, t ≤ i' ∧ mI μ' 0 1 = nI t) R' C' P' ht2 (by omega) (by omega) (fun _ _ => rfl) K
    · have hs : s < 6 := Nat.not_le.mp fun q => hl ((nI_leI (a := 6) (by decide) (by omega)).mpr q)
      refine ⟨10 * s, pk_mul 10 s, by omega, ?_⟩
      intro τa ha
      refine ⟨10 * s + 4, n10 s 4, by omega, ?_⟩
      intro τb hb
      refine ⟨10 * s + 5, n10 s 5, by omega, ?_⟩
      intro τc hc
      refine ⟨10 * s + 7, n10 s 7, by omega, ?_⟩
      intro τd hd
      refine ⟨6 - (s + 1), by omega, s + 1, nI_1 s, by omega, rfl, rfl, rfl, by rw [hd, hc, hb, ha]; exact h81, fun j => by rw [hd, oI (by omega), hc, oI (by omega), hb, oI (by omega), ha, oI (by omega)]; exact hg1 j, fun r j hr hj => ?_⟩
      by_cases hrs : r = s
      · subst hrs
        rw [if_pos (Nat.lt_succ_self r)]
        by_cases h7 : j = 7
        · rw [hd, h7, nIi]; rfl
        · rw [hd, oI (by omega), hc]
          by_cases h5 : j = 5
          · rw [h5, nIi]; rfl
          · rw [oI (by omega), hb]
            by_cases h4 : j = 4
            · rw [h4, nIi]; rfl
            · rw [oI (by omega), ha]
              by_cases h00 : j = 0
              · rw [h00, Nat.add_zero, nIi]; rfl
              · rw [oI (by omega), hv1 r j hr hj, if_neg (Nat.lt_irrefl r), if_neg h00, if_neg h4, if_neg h5, if_neg h7]
      · rw [hd, oI (by omega), hc, oI (by omega), hb, oI (by omega), ha, oI (by omega), hv1 r j hr hj]
        by_cases hr2 : r < s
        · rw [if_pos hr2, if_pos (show r < s + 1 by omega)]
        · rw [if_neg hr2, if_neg (show ¬ r < s + 1 by omega)]
  · have hd60 : d < 60 := Nat.not_le.mp fun q => hl ((nI_leI (a := 60) (by decide) (by omega)).mpr q)
    refine ⟨d, rfl, hd60, ?_⟩
    intro τa ha
    refine ⟨60 - (d + 1), by omega, d + 1, nI_1 d, by omega, rfl, rfl, rfl, by rw [ha]; exact h8, fun j => by rw [ha, oI (by omega)]; exact hg j, fun j hj => ?_⟩
    by_cases hjd : j = d
    · rw [ha, hjd, nIi]
    · rw [ha, oI (fun q => hjd q.2)]; exact hv j (by omega)
