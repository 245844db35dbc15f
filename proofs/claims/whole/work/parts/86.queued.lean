theorem cnt_at {f : Nat → Bool} : ∀ (n j : Nat), j < cnt n f → ∃ e, e < n ∧ f e = true ∧ cnt e f = j := by
  intro n
  induction n with
  | zero => intro j h; exact absurd h (Nat.not_lt_zero _)
  | succ n ih =>
    intro j h
    rw [cnt_succ] at h
    by_cases hj : j < cnt n f
    · obtain ⟨e, h1, h2, h3⟩ := ih j hj
      exact ⟨e, by omega, h2, h3⟩
    · cases hf : f n with
      | false => rw [hf] at h; simp at h; omega
      | true => rw [hf] at h; simp at h; exact ⟨n, Nat.lt_succ_self n, hf, by omega⟩
theorem cnt_mono {f : Nat → Bool} {a b : Nat} (h : a ≤ b) : cnt a f ≤ cnt b f := by
  induction b with
  | zero => have : a = 0 := by omega
            rw [this]; exact Nat.le_refl _
  | succ b ih =>
    by_cases hab : a = b + 1
    · rw [hab]; exact Nat.le_refl _
    · have := ih (by omega)
      rw [cnt_succ]; omega
theorem cnt_lt {f : Nat → Bool} {d n : Nat} (h : d < n) (hf : f d = true) : cnt d f < cnt n f := by
  have := cnt_mono (f := f) (a := d + 1) (b := n) h
  rw [cnt_succ, hf] at this
  simp at this
  omega
theorem cnt_inj {f : Nat → Bool} {d e : Nat} (hd : f d = true) (he : f e = true) (h : cnt d f = cnt e f) : d = e := by
  rcases Nat.lt_trichotomy d e with q | q | q
  · have := cnt_lt q hd; omega
  · exact q
  · have := cnt_lt q he; omega
theorem o_queuedAt : lO_queuedAt rel := by
  rintro σ μ ⟨n, h, R, C⟩ y y2 x0
  have hn := R.n2
  have hh := R.hn
  have h13 : mI μ 0 13 = nI n := R.1.2.2.1
  have h13' : mI (sI μ 0 0 0) 0 13 = nI n := by rw [oI (by omega)]; exact h13
  refine ⟨2, mN σ, by omega, Nat.le_refl _, R.N, ?_⟩
  unfold w_X2_queuedAt
  refine ⟨1, by omega, s_serviceAt R (Nat.le_refl 1) (fun s hs hy => ?_) (fun hno => ⟨rfl, Nat.le_refl _, ?_⟩)⟩
  · rintro _ rfl
    rw [R.old]
    refine ⟨fun k x r σ' => ∃ d, h ≤ d ∧ d ≤ n ∧ k = n - d ∧ r = nx d n ∧ σ' = σ ∧ x = nI (cnt d (fK μ s 0)) ∧ ∀ e, e < d → fK μ s 0 e = true → nI (cnt e (fK μ s 0)) ≠ y2, ?_, n - h, h, Nat.le_refl _, hh, rfl, rfl, rfl, ?_, ?_⟩
    · intro k x r σ' ⟨d, hd1, hd2, hk, hr, hσ, hx, hno⟩
      rw [hk, hr, hσ, hx]
      refine ⟨fun hnone => ⟨by omega, rfl, Nat.le_refl _, ?_⟩, fun i hi => ?_⟩
      · have h1 := nx_none hnone
        have hdn : d = n := by omega
        rw [hdn] at hno
        rw [hy]
        unfold w_X3_queuedAt
        refine m_isSv1 hs ⟨fun q => absurd q (by decide), fun _ => m_manyOf (y2 := nI 0) h13 hn (m_in (fun a1 a2 => ?_) (fun _ => ⟨fun _ => ?_, fun q => absurd rfl q⟩))⟩
        · obtain ⟨j, hj, hyj⟩ := nI_of a1
          refine absurd ?_ a2
          have hnj : ¬ j < cnt n (fK μ s 0) := fun q => by
            obtain ⟨e, e1, e2, e3⟩ := cnt_at n j q
            exact hno e e1 e2 (by rw [e3]; exact hyj.symm)
          have hle := cnt_le n (fK μ s 0)
          rw [hyj]
          show nI (cnt n (fK μ s 0)) - 1 < nI j
          rw [Int32.lt_iff_toInt_lt, nI_toInt hj]
          cases hc : cnt n (fK μ s 0) with
          | zero => show (-1 : Int) < _; omega
          | succ m => rw [nI_pred, nI_toInt (by omega)]; omega
        · rintro _ rfl
          refine ⟨fun k x3 x4 x5 σ1 => x3 = 0 ∧ σ1 = sI μ 0 0 1, ?_, 0, rfl, rfl⟩
          intro k x3 x4 x5 σ1 ⟨hx, hσ⟩
          rw [hx, hσ]
          exact ⟨fun _ => fin1 R C (by decide), fun _ => ⟨fun _ => fin1 R C (by decide), fun q => absurd q (by rw [nIi]; decide)⟩⟩
      · obtain ⟨hdn, rfl⟩ := nx_some hi
        obtain ⟨s2, hs2, hsv2, hr2⟩ := R.svc hdn
        have keep : fK μ s 0 d = false → ∃ k, k < n - d ∧ ∃ d', h ≤ d' ∧ d' ≤ n ∧ k = n - d' ∧ mR σ (21 + d) 8 = nx d' n ∧ σ = σ ∧ nI (cnt d (fK μ s 0)) = nI (cnt d' (fK μ s 0)) ∧ ∀ e, e < d' → fK μ s 0 e = true → nI (cnt e (fK μ s 0)) ≠ y2 := fun hf => by
          refine ⟨n - (d + 1), by omega, d + 1, by omega, by omega, rfl, R.nxt hd1 hdn, rfl, by rw [cnt_succ, hf]; rfl, fun e he hfe => ?_⟩
          by_cases hed : e = d
          · rw [hed, hf] at hfe; cases hfe
          · exact hno e (by omega) hfe
        refine ⟨R.mo hdn, ?_⟩
        unfold w_X0_isOf
        refine ⟨R.mo hdn, ?_⟩
        rintro _ rfl
        rw [hr2, R.st hdn]
        refine ⟨fun hne => ⟨fun _ => ⟨R.mo hdn, ?_⟩, fun q => absurd rfl q⟩, fun heq => ⟨fun hne => ⟨fun _ => ⟨R.mo hdn, ?_⟩, fun q => absurd rfl q⟩, fun hst => ⟨fun q => absurd q (by decide), fun _ => ?_⟩⟩⟩
        · rintro _ rfl
          exact keep (decide_eq_false fun q => hne (by rw [i_inj (by omega) (by omega) (hsv2.symm.trans q.1)]))
        · rintro _ rfl
          exact keep (decide_eq_false fun q => hne q.2)
        · have hss : s2 = s := by have := Option.some.inj heq; omega
          rw [hss] at hsv2
          have hfd : fK μ s 0 d = true := decide_eq_true ⟨hsv2, hst⟩
          refine ⟨fun hne => ⟨R.mo hdn, ?_⟩, fun heq2 => ⟨R.mo hdn, Nat.le_refl _, ?_⟩⟩
          · rintro _ rfl
            refine ⟨n - (d + 1), by omega, d + 1, by omega, by omega, rfl, R.nxt hd1 hdn, rfl, by rw [cnt_succ, hfd]; exact nI_1 _, fun e he hfe => ?_⟩
            by_cases hed : e = d
            · rw [hed]; exact hne
            · exact hno e (by omega) hfe
          · have hlt := cnt_lt hdn hfd
            have hle := cnt_le n (fK μ s 0)
            rw [hy]
            unfold w_X3_queuedAt
            refine m_isSv1 hs ⟨fun q => absurd q (by decide), fun _ => m_manyOf (y2 := nI 0) h13 hn (m_in (fun _ _ => ⟨fun q => absurd q (by decide), fun _ => ?_⟩) (fun q => ?_))⟩
            · rintro _ rfl
              refine ⟨fun k x3 x4 x5 σ1 => ∃ c, x5 = nI c ∧ c ≤ n ∧ k = n - c ∧ σ1 = sI μ 0 0 0 ∧ x4 = nI (cnt c (fK μ s 0)) ∧ x3 = (if d < c then nI d else 0), ?_, n, 0, rfl, by omega, rfl, rfl, rfl, (if_neg (by omega)).symm⟩
              intro k x3 x4 x5 σ1 ⟨c, h5, hc, hk, hσ, h4, h3⟩
              rw [h5, hk, hσ, h4, h3, h13']
              refine ⟨fun hl => ?_, fun hl => ⟨fun q => absurd nIi q, fun _ => ?_⟩⟩
              · have h1 := (nI_leI (by omega) (by omega)).mp hl
                rw [if_pos (by omega)]
                exact fin0 R C (R.2.2.2.2.1 d hdn).2.1
              · have hcn : c < n := Nat.not_le.mp fun q => hl ((nI_leI (by omega) (by omega)).mpr q)
                refine ⟨c, rfl, by omega, fun xk σ1 => σ1 = sI μ 0 0 0 ∧ ((xk = 0 ∧ fK μ s 0 c = false) ∨ (xk = 1 ∧ fK μ s 0 c = true)), ?_, fun σ1 => σ1 = sI μ 0 0 0 ∧ fK μ s 0 c = false, fun σ1 q => ⟨q.1, Or.inl ⟨rfl, q.2⟩⟩, fun hne => ⟨rfl, decide_eq_false fun q => hne (by rw [oI (by omega)]; exact q.1)⟩, fun he => ⟨c, rfl, by omega, fun hne => ⟨rfl, decide_eq_false fun q => hne (by rw [oI (by omega)]; exact q.2)⟩, fun he2 => ⟨rfl, Or.inr ⟨rfl, decide_eq_true ⟨?_, ?_⟩⟩⟩⟩⟩
                · intro xk σ1 ⟨hσ1, hP⟩
                  rw [hσ1]
                  refine ⟨fun x σ1 => σ1 = sI μ 0 0 0 ∧ x = if d < c + 1 then nI d else 0, ?_, fun σ1 => σ1 = sI μ 0 0 0 ∧ c ≠ d, ?_, fun hxk => ⟨rfl, ?_⟩, fun hxk => ⟨fun hne => ⟨rfl, fun q => hne (by rw [q]; exact heq2)⟩, fun he => ⟨rfl, ?_⟩⟩⟩
                  · intro x σ2 ⟨hσ2, hx2⟩
                    rw [hσ2, hx2]
                    refine ⟨fun hxk => ⟨n - (c + 1), by omega, c + 1, nI_1 c, by omega, rfl, rfl, ?_, rfl⟩, fun hxk => ⟨n - (c + 1), by omega, c + 1, nI_1 c, by omega, rfl, rfl, ?_, rfl⟩⟩
                    · rcases hP with ⟨-, hf⟩ | ⟨h1, -⟩
                      · rw [cnt_succ, hf, Int32.add_zero]; rfl
                      · rw [h1] at hxk; exact absurd hxk (by decide)
                    · rcases hP with ⟨h1, -⟩ | ⟨-, hf⟩
                      · exact absurd h1 hxk
                      · rw [cnt_succ, hf]; exact nI_1 _
                  · intro σ2 ⟨hσ2, hne⟩
                    refine ⟨hσ2, ?_⟩
                    by_cases hdc : d < c
                    · rw [if_pos hdc, if_pos (by omega)]
                    · rw [if_neg hdc, if_neg (by omega)]
                  · rcases hP with ⟨-, hf⟩ | ⟨h1, -⟩
                    · intro q; rw [q, hfd] at hf; cases hf
                    · rw [h1] at hxk; exact absurd hxk (by decide)
                  · rcases hP with ⟨h1, -⟩ | ⟨-, hf⟩
                    · exact absurd h1 hxk
                    · have hce : cnt c (fK μ s 0) = cnt d (fK μ s 0) := i_inj (by have := cnt_le c (fK μ s 0); omega) (by omega) (he.trans heq2.symm)
                      rw [cnt_inj hf hfd hce, if_pos (Nat.lt_succ_self _)]
                · rw [oI (by omega)] at he; exact he
                · rw [oI (by omega)] at he2; exact he2
            · rw [← heq2] at q
              rcases q with q | q
              · exact absurd q (nI_pos (by omega))
              · have q : nI (cnt n (fK μ s 0)) - 1 < nI (cnt d (fK μ s 0)) := q
                rw [i_sub1 (by omega)] at q
                exact absurd q (nI_nlt (by omega) (by omega))
    · rw [cnt_zero (fun c hc => decide_eq_false fun q => R.ov c hc (by rw [q.2]; decide))]
      rfl
    · intro e he hfe
      exact absurd (of_decide_eq_true hfe) (fun q => R.ov e he (by rw [q.2]; decide))
  · unfold w_X3_queuedAt
    refine m_isSv0 hno ⟨fun _ => ?_, fun q => absurd rfl q⟩
    rintro _ rfl
    refine ⟨fun k x3 x4 x5 σ1 => x3 = 0 ∧ σ1 = sI μ 0 0 1, ?_, 0, rfl, rfl⟩
    intro k x3 x4 x5 σ1 ⟨hx, hσ⟩
    rw [hx, hσ]
    exact ⟨fun _ => fin1 R C (by decide), fun _ => ⟨fun _ => fin1 R C (by decide), fun q => absurd q (by rw [nIi]; decide)⟩⟩
