theorem m_manyOf {μ : mS} {n : Nat} {y1 y2 : Int32} {Q : Int32 → mS → Prop} (h13 : mI μ 0 13 = nI n) (hn : n ≤ 200) (hQ : Q (nI (cnt n (fun c => decide (mI μ 12 c = y1 ∧ mI μ 15 c = y2)))) μ) : w_X3_manyOf y1 y2 μ Q := by
  unfold w_X3_manyOf
  refine ⟨fun k x y μ' => ∃ d, y = nI d ∧ d ≤ n ∧ k = n - d ∧ μ' = μ ∧ x = nI (cnt d (fun c => decide (mI μ 12 c = y1 ∧ mI μ 15 c = y2))), ?_, n, 0, rfl, by omega, rfl, rfl, rfl⟩
  intro k x y μ' ⟨d, hy, hdn, hk, hμ, hx⟩
  rw [hy, hk, hμ, hx, h13]
  refine ⟨fun hle => ?_, fun hnle => ?_⟩
  · have h1 : n ≤ d := (nI_leI (by omega) (by omega)).mp hle
    have : d = n := by omega
    rw [this]; exact hQ
  · have hd : d < n := Nat.not_le.mp fun q => hnle ((nI_leI (by omega) (by omega)).mpr q)
    refine ⟨d, rfl, by omega, fun hne => ⟨n - (d + 1), by omega, d + 1, nI_1 d, by omega, rfl, rfl, ?_⟩, fun he => ⟨d, rfl, by omega, fun hne => ⟨n - (d + 1), by omega, d + 1, nI_1 d, by omega, rfl, rfl, ?_⟩, fun he2 => ⟨n - (d + 1), by omega, d + 1, nI_1 d, by omega, rfl, rfl, ?_⟩⟩⟩
    · rw [cnt_succ, if_neg (by simp [hne]), Int32.add_zero, Nat.add_zero]
    · rw [cnt_succ, if_neg (by simp [hne]), Int32.add_zero, Nat.add_zero]
    · rw [cnt_succ, if_pos (by simp [he, he2]), nI_1]
theorem m_worksS {μ : mS} {c s : Nat} {Q : mS → Prop} (hc : c < 200) (hs : s < 6) (hsv : mI μ 12 c = nI s) (hQ : Q (eWrk μ c)) : w_X3_works (nI c) μ Q := by
  unfold w_X3_works
  refine ⟨c, rfl, by omega, ?_⟩
  rintro _ rfl
  refine ⟨c, rfl, by omega, s, by rw [oI (by omega)]; exact hsv, hs, c, rfl, by omega, ?_⟩
  rintro _ rfl
  rw [oI (by omega), oI (by omega)]
  unfold eWrk at hQ
  rw [qS_e hsv hs] at hQ
  exact hQ
theorem eEnd_15 {B : mS} {n w : Nat} {x y : Int32} : eEnd (sI B 15 n x) n w = eEnd (sI B 15 n y) n w := by
  unfold eEnd
  rw [sI_tw, sI_tw, oI (by omega), oI (by omega)]
theorem eFin_15 {B : mS} {n w : Nat} {x y : Int32} : eFin (sI B 15 n x) n w = eFin (sI B 15 n y) n w := by
  have h1 : eClose (sI B 15 n x) n w = eClose (sI B 15 n y) n w := by
    unfold eClose qS
    rw [eEnd_15 (x := x) (y := y), oI (by omega), oI (by omega)]
  unfold eFin qN
  rw [h1, oI (by omega), oI (by omega)]
theorem eWrk_15 {B : mS} {n : Nat} {x y : Int32} : eWrk (sI B 15 n x) n = eWrk (sI B 15 n y) n := by
  unfold eWrk qS
  simp (disch := omega) only [oI, sI_tw]
theorem born_ch {μ : mS} {n s : Nat} {dl : Int32} {par : Option Nat} (h : wM (eBorn μ n s dl par) (n + 1)) (hn : n < 200) : ∀ d, d < n + 1 → mI (eBorn μ n s dl par) 14 d ≠ nI n := fun d hd q => by
  have := wM_par_gt h hd (by omega) q
  omega
theorem m_begins {μ : mS} {n s : Nat} {dl : Int32} {par : Option Nat} {Q : mS → Prop} (h : wM μ n) (hn : n < 200) (hs : s < 6) (hp : ∀ p, par = some p → p < n ∧ mI μ 15 p = 2) (hQ : Q (eBeg (eBorn μ n s dl par) (n + 1) n s)) : w_X3_begins (nI s) dl (pv par) μ Q := by
  have h13 := h.2.2.1
  have hM := wM_born (dl := dl) h hn hs hp
  unfold w_X3_begins
  rintro _ rfl
  refine ⟨n, h13, hn, ?_⟩
  rintro _ rfl
  refine ⟨n, h13, hn, ?_⟩
  rintro _ rfl
  refine ⟨n, h13, hn, ?_⟩
  rintro _ rfl
  refine ⟨n, h13, hn, ?_⟩
  rintro _ rfl
  rw [show mI (sI (sI (sI (sI μ 0 13 (mI μ 0 13 + 1)) 12 n (nI s)) 13 n dl) 14 n (pv par)) 0 1 = mI μ 0 1 from by simp (disch := omega) only [oI]]
  refine ⟨fun xk σ1 => σ1 = sI (sI (sI (sI (sI μ 0 13 (mI μ 0 13 + 1)) 12 n (nI s)) 13 n dl) 14 n (pv par)) 18 n (mI μ 0 1) ∧ xk = (mfo μ par), ?_, ?_, ?_⟩
  · intro xk σ1 ⟨hσ, hxk⟩
    rw [hσ, hxk]
    refine ⟨n, h13, hn, ?_⟩
    rintro _ rfl
    refine ⟨n, h13, hn, ?_⟩
    rintro _ rfl
    refine ⟨n, h13, hn, ?_⟩
    rintro _ rfl
    refine ⟨n, h13, hn, ?_⟩
    rintro _ rfl
    unfold eBorn at hQ hM
    rw [h13]
    have hB : sI (sI (sI (sI (sI (sI (sI (sI μ 0 13 (nI n + 1)) 12 n (nI s)) 13 n dl) 14 n (pv par)) 18 n (mI μ 0 1)) 19 n (mfo μ par)) 17 n (-1)) 24 n (vp_nar .boolean 0) = eBn0 μ n (nI s) dl (pv par) (mfo μ par) := by
      unfold eBn0
      rw [h13]
      rfl
    rw [hB]
    have b12 : mI (eBn0 μ n (nI s) dl (pv par) (mfo μ par)) 12 n = nI s ∧ mI (eBn0 μ n (nI s) dl (pv par) (mfo μ par)) 13 n = dl := by unfold eBn0; simp (disch := omega) only [oI, nIi, and_self]
    generalize eBn0 μ n (nI s) dl (pv par) (mfo μ par) = B at hQ hM b12 ⊢
    obtain ⟨b12, b13⟩ := b12
    have c13 : mI (sI B 15 n 3) 0 13 = nI (n + 1) := by
      have := hM.2.2.1
      rw [oI (by omega)] at this ⊢
      exact this
    have hf : ∀ k, k < 2 → (fun c => decide (mI (sI B 15 n 3) 12 c = nI s ∧ mI (sI B 15 n 3) 15 c = nI k)) = fK (sI B 15 n (-1)) s k := fun k hk => by
      funext d
      simp only [fK]
      rw [oI (a := 12) (by omega), oI (a := 12) (by omega)]
      by_cases hd : d = n
      · subst hd
        rw [nIi, nIi]
        exact decide_eq_decide.mpr ⟨fun q => by have := i_inj (a := 3) (by omega) (by omega) q.2; omega, fun q => absurd q.2 (i_m1 (by omega))⟩
      · rw [oI (by omega), oI (by omega)]
    refine m_manyOf (y2 := nI 1) c13 (by omega) (m_manyOf (y2 := nI 0) c13 (by omega) ?_)
    rw [hf 1 (by omega), hf 0 (by omega)]
    unfold eBeg at hQ
    rw [oI (a := 0) (b := 1) (by omega), oI (a := 11) (by omega), oI (a := 13) (by omega), oI (a := 1) (by omega), oI (a := 6) (by omega), oI (a := 7) (by omega), b13] at hQ
    have hE : ∀ w, 3 ≤ w → w < 8 → wM (eEnd (sI B 15 n 3) n w) (n + 1) := fun w h3 h8 => by
      rw [eEnd_15 (x := 3) (y := -1)]; exact wM_end hM (by omega) h3 h8
    unfold w_X3_isOpenNow
    rw [oI (a := 0) (b := 1) (by omega)]
    refine ⟨s, rfl, hs, ?_⟩
    rw [oI (a := 11) (by omega)]
    refine ⟨fun q1 => ⟨fun _ => ⟨s, rfl, hs, ?_⟩, fun z => absurd rfl z⟩, fun q1 => ⟨fun z => absurd z (by decide), fun _ => ?_⟩⟩
    · rw [if_neg (Int32.not_lt.mpr q1)] at hQ
      rw [oI (a := 1) (by omega), oI (a := 0) (b := 1) (by omega)]
      refine ⟨fun q2 => ⟨s, rfl, hs, ?_⟩, fun q2 => ?_⟩
      · rw [if_neg (Int32.not_lt.mpr q2)] at hQ
        rw [oI (a := 6) (by omega)]
        refine ⟨fun q3 => ⟨s, rfl, hs, ?_⟩, fun q3 => ?_⟩
        · rw [if_neg (Int32.not_lt.mpr q3)] at hQ
          rw [oI (a := 7) (by omega)]
          refine ⟨fun q4 => ?_, fun q4 => ⟨n, rfl, hn, ?_⟩⟩
          · rw [if_neg (Int32.not_lt.mpr q4)] at hQ
            exact m_endsE (w := 6) (hE 6 (by omega) (by omega)) (by omega) (by omega) (by omega) (by rw [eFin_15 (x := 3) (y := -1)]; exact hQ)
          · rw [if_pos (Int32.not_le.mp q4)] at hQ
            rintro _ rfl
            unfold eQue at hQ
            rw [sI_tw] at hQ ⊢
            exact hQ
        · rw [if_pos (Int32.not_le.mp q3)] at hQ
          exact m_worksS hn hs (by rw [oI (by omega)]; exact b12) (by rw [eWrk_15 (x := 3) (y := -1)]; exact hQ)
      · rw [if_pos (Int32.not_le.mp q2)] at hQ
        exact m_endsE (w := 6) (hE 6 (by omega) (by omega)) (by omega) (by omega) (by omega) (by rw [eFin_15 (x := 3) (y := -1)]; exact hQ)
    · rw [if_pos (Int32.not_le.mp q1)] at hQ
      exact m_endsE (w := 4) (hE 4 (by omega) (by omega)) (by omega) (by omega) (by omega) (by rw [eFin_15 (x := 3) (y := -1)]; exact hQ)
  · intro hne
    cases par with
    | none => exact absurd rfl hne
    | some p => exact ⟨p, rfl, by have := (hp p rfl).1; omega, rfl, by simp (disch := omega) only [oI]; rfl⟩
  · intro he
    cases par with
    | none => exact ⟨rfl, rfl⟩
    | some p => exact absurd he (i_ne1 (by have := (hp p rfl).1; omega))
