abbrev eFails (μ : mS) (s : Nat) : Prop := ¬ mI μ 2 s ≤ 0 ∧ mI μ 3 s - mI μ 3 s / mI μ 2 s * mI μ 2 s = 0
def eWk1 (μ : mS) (s : Nat) : mS := sI μ 3 s (mI μ 3 s + 1)
def eWk2 (μ : mS) (c s : Nat) : mS := if eFails μ s then eTrb (eFin μ c 4) s else if mI μ 4 s = 0 then eFin μ c 3 else eAsk μ c
def eWork (μ : mS) (c : Nat) : mS := if mI μ 15 c = 1 ∧ ¬ mI μ 0 1 < mI μ 16 c then eWk2 (eWk1 μ (qS μ c)) c (qS μ c) else μ
theorem eWk1_o {μ : mS} {s a b : Nat} (h : ¬ (a = 3 ∧ b = s)) : mI (eWk1 μ s) a b = mI μ a b := oI h
theorem wM_wk1 {μ : mS} {n s : Nat} (h : wM μ n) : wM (eWk1 μ s) n := wM_ir h (by unfold irr; omega)
theorem wM_wk2 {μ : mS} {n c s : Nat} (h : wM μ n) (hc : c < n) (h1 : mI μ 15 c = 1) (hs : s < 6) (hsv : mI μ 12 c = nI s) : wM (eWk2 μ c s) n := by
  unfold eWk2
  split
  · exact wM_trb (wM_fin (w := 4) h hc (by omega) (by omega)) hs
  · split
    · exact wM_fin (w := 3) h hc (by omega) (by omega)
    · next ha => exact wM_ask h hc h1 hs hsv ha
theorem wM_work {μ : mS} {n c : Nat} (h : wM μ n) (hc : c < n) : wM (eWork μ c) n := by
  unfold eWork
  split
  · next hq =>
    obtain ⟨s, hs, hsv⟩ := wM_svc h hc
    rw [qS_e hsv hs]
    exact wM_wk2 (wM_wk1 h) hc (by rw [eWk1_o (by omega)]; exact hq.1) hs (by rw [eWk1_o (by omega)]; exact hsv)
  · exact h
theorem s_fails {σ μ : mS} {n h s : Nat} {Q : Int32 → mS → Prop} (R : R0 σ μ n h) (hs : s < 6) (h1 : ∀ σ', R0 σ' (eWk1 μ s) n h → eFails (eWk1 μ s) s → Q 1 σ') (h0 : ∀ σ', R0 σ' (eWk1 μ s) n h → ¬ eFails (eWk1 μ s) s → Q 0 σ') : w_X1_failsNextWork (3 + 3 * s) σ Q := by
  obtain ⟨v1, v2, v3, v4, v5, v6, v7, v8, v9, v10, v11, v12, v13⟩ := R.2.2.1 s hs
  unfold w_X1_failsNextWork
  refine ⟨kS hs, ?_⟩
  rintro _ rfl
  have R' : R0 (sI σ (3 + 3 * s) 3 (mI σ (3 + 3 * s) 3 + 1)) (eWk1 μ s) n h := by
    refine R0_sv R hs rfl (fun _ _ => rfl) (fun a b ha => oI (by omega)) (wM_wk1 R.1) (fun a b ha => eWk1_o (by omega)) (oI (by omega)) (oI (by omega)) ?_
    unfold eWk1
    simp (disch := omega) only [oI, nIi]
    exact ⟨v3, v4, by rw [v5], v6, v7, v8, v9, v10, v11⟩
  obtain ⟨-, -, -, x4, x5, -⟩ := R'.2.2.1 s hs
  rw [x4, x5]
  refine ⟨fun q => h0 _ R' (fun z => z.1 q), fun q => ⟨fun z => q (by rw [z]; decide), fun z => h0 _ R' (fun y => z y.2), fun z => h1 _ R' ⟨q, z⟩⟩⟩
theorem s_rowAt {σ μ : mS} {n h c s z a k : Nat} {Q : Option Nat → mS → Prop} (R : R0 σ μ n h) (hc : c < n) (hs : s < 6) (hsv : mI μ 12 c = nI s) (hz : mI σ (21 + c) 9 = nI z) (ha : mI μ 4 s = nI a) (hza : z ≤ a) (ha3 : a ≤ 3) (hk : k < 200) (h0 : z ≤ k → Q none σ) (h1 : k < z → ∀ r, r < 6 → mI μ 5 (3 * s + k) = nI r → Q (some (3 + 3 * r)) σ) : w_X0_rowAt (21 + c) (nI k) σ Q := by
  obtain ⟨v1, v2, v3, v4, v5, v6, v7, v8, v9, v10, v11, v12, v13⟩ := R.2.2.1 s hs
  obtain ⟨-, a', ha3', ha', har⟩ := R.1.2.2.2.2.1 s hs
  have haa : a' = a := i_inj (by omega) (by omega) (ha'.symm.trans ha)
  subst haa
  unfold w_X0_rowAt
  refine ⟨R.mo hc, ?_⟩
  rintro _ rfl
  rw [(R.2.2.2.2.1 c hc).2.2.1 s hs hsv, hz]
  refine ⟨3 + 3 * s, rfl, kS hs, fun q => absurd q (nI_pos (by omega)), fun _ => ⟨fun q => h0 ((nI_leI (by omega) (by omega)).mp q), fun q => ?_⟩⟩
  have hkz : k < z := Nat.not_le.mp fun y => q ((nI_leI (by omega) (by omega)).mpr y)
  refine ⟨fun y => absurd y (nI_ge (b := 3) (by omega) (by omega)), fun _ => ⟨k, rfl, by omega, ?_⟩⟩
  rintro _ rfl
  obtain ⟨r, hr, hrv⟩ := har k (by omega)
  rw [show 3 + 3 * s + 1 = 4 + 3 * s by omega, v13 k r (by omega) hr (by rw [ha]; exact nI_lt (by omega) (by omega)) hrv]
  exact h1 hkz r hr hrv
theorem s_endWork {σ μ : mS} {n h : Nat} {Q : mS → Prop} (R : R0 σ μ n h) (hQ : ∀ σ', R0 σ' (upL eWork n 0 μ) n h → Q σ') : w_X2_endWork σ Q := by
  have hh := R.hn
  unfold w_X2_endWork
  rintro _ rfl
  rw [R.old]
  refine ⟨fun k r σ' => ∃ d μ', h ≤ d ∧ d ≤ n ∧ k = n - d ∧ r = nx d n ∧ R0 σ' μ' n h ∧ upL eWork (n - d) d μ' = upL eWork n 0 μ, ?_, n - h, h, μ, by omega, by omega, rfl, rfl, R, (upL_skip h hh (fun d hd => if_neg (fun q => R.ov d hd (by rw [q.1]; decide)))).symm⟩
  rintro k r σ' ⟨d, μ', hcd, hdn, rfl, rfl, R', e1⟩
  refine ⟨fun hr => ?_, fun i hi => ?_⟩
  · have h1 := nx_none hr
    rw [show n - d = 0 by omega] at e1
    have e1 : μ' = _ := e1
    exact hQ _ (by rw [← e1]; exact R')
  · obtain ⟨hd, rfl⟩ := nx_some hi
    rw [upL_s hd] at e1
    have keep : ¬ (mI μ' 15 d = 1 ∧ ¬ mI μ' 0 1 < mI μ' 16 d) → ∃ k, k < n - d ∧ ∃ d' μ'', h ≤ d' ∧ d' ≤ n ∧ k = n - d' ∧ mR σ' (21 + d) 8 = nx d' n ∧ R0 σ' μ'' n h ∧ upL eWork (n - d') d' μ'' = upL eWork n 0 μ := fun hne => by
      rw [show eWork μ' d = μ' from if_neg hne] at e1
      exact ⟨n - (d + 1), by omega, d + 1, μ', by omega, by omega, rfl, R'.nxt (by omega) hd, R', e1⟩
    rw [R'.st hd]
    refine ⟨R'.mo hd, fun hne => ?_, fun hst => ?_⟩
    · rintro _ rfl
      exact keep (fun q => hne q.1)
    · rw [R'.now, (R'.2.2.2.2.1 d hd).2.2.2.2.2.2.2.2 hst]
      refine ⟨fun hlt => ?_, fun hlt => ?_⟩
      · rintro _ rfl
        exact keep (fun q => q.2 hlt)
      · obtain ⟨s, hs, hsv, hr⟩ := R'.svc hd
        rw [show eWork μ' d = _ from if_pos ⟨hst, hlt⟩, qS_e hsv hs] at e1
        rintro _ rfl
        rw [hr]
        have hst1 : mI (eWk1 μ' s) 15 d = 1 := by rw [eWk1_o (by omega)]; exact hst
        have hop : mI (eWk1 μ' s) 15 d < 3 := by rw [hst1]; decide
        have hsv1 : mI (eWk1 μ' s) 12 d = nI s := by rw [eWk1_o (by omega)]; exact hsv
        have fin : ∀ σ2, R0 σ2 (eWk2 (eWk1 μ' s) d s) n h → mO kdC 0 (21 + d) σ2 ∧ ∀ r, r = mR σ2 (21 + d) 8 → ∃ k, k < n - d ∧ ∃ d' μ'', h ≤ d' ∧ d' ≤ n ∧ k = n - d' ∧ r = nx d' n ∧ R0 σ2 μ'' n h ∧ upL eWork (n - d') d' μ'' = upL eWork n 0 μ := fun σ2 R2 => ⟨R2.mo hd, fun r hr => ⟨n - (d + 1), by omega, d + 1, _, by omega, by omega, rfl, hr.trans (R2.nxt (by omega) hd), R2, e1⟩⟩
        refine ⟨3 + 3 * s, rfl, kS hs, s_fails R' hs (fun σ1 R1 hf => ⟨fun q => absurd q (by decide), fun _ => ?_⟩) (fun σ1 R1 hf => ⟨fun _ => ⟨R1.mo hd, ?_⟩, fun q => absurd rfl q⟩)⟩
        · refine s_finish (w := 4) R1 hd hop (by omega) (by omega) (fun σ2 R2 => ⟨R2.mo hd, ?_⟩)
          rintro _ rfl
          obtain ⟨s2, hs2, hsv2, hr2⟩ := R2.svc hd
          have : s2 = s := by
            rw [eFin_o (by omega) (by omega) (by omega) (by omega), hsv1] at hsv2
            exact (i_inj (by omega) (by omega) hsv2).symm
          subst this
          rw [hr2]
          refine ⟨3 + 3 * s2, rfl, kS hs, s_trouble R2 hs (fun σ3 R3 => fin σ3 ?_)⟩
          unfold eWk2
          rw [if_pos hf]
          exact R3
        · rintro _ rfl
          obtain ⟨s2, hs2, hsv2, hr2⟩ := R1.svc hd
          have : s2 = s := i_inj (by omega) (by omega) (hsv2.symm.trans hsv1)
          subst this
          rw [hr2]
          refine ⟨3 + 3 * s2, rfl, kS hs, ?_⟩
          rintro _ rfl
          obtain ⟨-, a, ha3, hav, har⟩ := R1.1.2.2.2.2.1 s2 hs
          have hV := R1.2.2.1 s2 hs
          rw [hV.2.2.2.2.2.2.2.2.2.2.2.1, hav]
          have R2 : R0 (sI σ1 (21 + d) 9 (nI a)) (eWk1 μ' s2) n h := R0_cl (w := 1) R1 hd (by omega) hst1 rfl (fun _ _ _ => rfl) (fun i k j hj => R1.2.1.2.1 i k j hj) (fun a b hab => oI (by omega)) R1.1 (fun _ _ _ _ => rfl) (fun q => by omega)
          unfold w_X2_askAt
          refine ⟨21 + d, rfl, R2.mo hd, s_rowAt (k := 0) R2 hd hs hsv1 nIi hav (Nat.le_refl _) ha3 (by omega) (fun h0 => ⟨fun _ => ?_, fun i q => (by cases q)⟩) (fun h0 r hr6 hrv => ⟨fun q => (by cases q), ?_⟩)⟩
          · refine s_finish (w := 3) R2 hd hop (by omega) (by omega) (fun σ2 R3 => fin σ2 ?_)
            unfold eWk2
            rw [if_neg hf, if_pos (by rw [hav]; have : a = 0 := by omega
                                      rw [this]; rfl)]
            exact R3
          · rintro _ ⟨⟩
            have hne : mI (eWk1 μ' s2) 4 s2 ≠ 0 := fun q => by rw [hav] at q; have := i_inj (b := 0) (by omega) (by omega) q; omega
            have hE : eWk2 (eWk1 μ' s2) d s2 = eAsk (eWk1 μ' s2) d := by unfold eWk2; rw [if_neg hf, if_neg hne]
            have hqs := qS_e hsv1 hs
            obtain ⟨x15, x21, x22, x23, x24⟩ := eAsk_x (μ := eWk1 μ' s2) (c := d)
            refine ⟨R2.mo hd, s_askNow (k := 0) (μ' := eAsk (eWk1 μ' s2) d) R2 hd hop hr6 (wM_ask R1.1 hd hst1 hs hsv1 hne) x15 (fun a b h1 h2 => eAsk_o (by omega) (by omega)) ?_ x22 (by omega) ?_ x23 x24 (fun e he hq => ?_) (fun σ3 R3 => fin σ3 (by rw [hE]; exact R3))⟩
            · rw [nIi, x21, hqs, hav]
            · rw [eAsk_20 (by omega), hqs]; exact hrv
            · have h5 := hq.1
              rw [eAsk_o (by omega) (by omega)] at h5
              exact R1.1.2.2.2.2.2.2.2 d hd (by rw [hst1]; decide) e he h5
