theorem l_begin {τ μ : mS} {n s : Nat} {dl : Int32} {par : Option Nat} {F : Nat → Nat → Nat} {Q : mS → Prop} (hM : wM μ n) (P : PL τ μ n F (dOf par)) (hn1 : n + 1 < 60) (hs : s < 6) (hp : ∀ p, par = some p → p < n ∧ mI μ 15 p = 2) (hdl : -(n : Int) ≤ dl.toInt ∧ dl.toInt ≤ 2000) (hQ : ∀ τ' F', PL τ' (eBeg (eBorn μ n s dl par) (n + 1) n s) (n + 1) F' d0 → Q τ') : w_L_begin (nI s) dl (pv par) τ Q := by
  have P'' := id P
  obtain ⟨⟨g8, g0, g1, g2, gn, t, ht1, gt⟩, hS, hC⟩ := P''
  obtain ⟨⟨wk, hwk, hwk2⟩, -, v0, v1, v2, v4, v5, v6, v7, v8, v9⟩ := hS s hs
  obtain ⟨pm, hpm, hpm2⟩ : ∃ pm, pm < 4 ∧ ((par = none ∧ pm = 0) ∨ ∃ p, par = some p ∧ pm = F p 2) := by
    cases hpar : par with
    | none => exact ⟨0, by decide, Or.inl ⟨rfl, rfl⟩⟩
    | some p => exact ⟨F p 2, by have := (hC p (hp p hpar).1).1; unfold aBd at this; omega, Or.inr ⟨p, rfl, rfl⟩⟩
  have wB := wM_born (dl := dl) hM (by omega) hs hp
  have wB' : wM (sI (eBorn μ n s dl par) 15 n 0) (n + 1) := wM_que wB (by omega) (by rw [(eBorn_x (μ := μ) (n := n) (s := s) (dl := dl) (par := par)).2.2.2.1]; decide) (born_ch wB (by omega))
  obtain ⟨x12, x13, x14, x15, x17, x18, x19, x0⟩ := eBorn_x (μ := μ) (n := n) (s := s) (dl := dl) (par := par)
  have b01 : mI (eBorn μ n s dl par) 0 1 = mI μ 0 1 := eBorn_o (by omega) (by omega)
  have b11 : mI (eBorn μ n s dl par) 11 s = mI μ 11 s := eBorn_o (by omega) (by omega)
  have b1 : mI (eBorn μ n s dl par) 1 s = mI μ 1 s := eBorn_o (by omega) (by omega)
  have b6 : mI (eBorn μ n s dl par) 6 s = mI μ 6 s := eBorn_o (by omega) (by omega)
  have b7 : mI (eBorn μ n s dl par) 7 s = mI μ 7 s := eBorn_o (by omega) (by omega)
  have cK : ∀ k, k < 8 → cnt (n + 1) (fK (eBorn μ n s dl par) s k) = cnt n (fK μ s k) := fun k hk => by
    rw [cnt_succ, if_neg (by simp only [fK, decide_eq_true_eq, x15]; exact fun q => i_m1 (by omega) q.2), cnt_congr (g := fK μ s k) (fun d hd => by simp only [fK]; rw [eBorn_o (by omega) (by omega), eBorn_o (by omega) (by omega)])]
    rfl
  have eF : ∀ w, eFin (eBorn μ n s dl par) n w = eFin (sI (eBorn μ n s dl par) 15 n 0) n w := fun w => by
    unfold eBorn
    rw [sI_tw]
    exact eFin_15
  have eW : eWrk (eBorn μ n s dl par) n = eWrk (sI (eBorn μ n s dl par) 15 n 0) n := by
    unfold eBorn
    rw [sI_tw]
    exact eWrk_15
  unfold eBeg at hQ
  rw [b01, b11, b1, b6, b7, x13, cK 1 (by decide), cK 0 (by decide), eF, eF, eW] at hQ
  unfold w_L_begin
  refine ⟨1, rfl, by decide, l_many P hs (k := 1) (by decide) ⟨10 * s + 4, n10 s 4, by omega, fun x τ' => τ' = τ ∧ ((x = 0 ∧ nI (cnt n (fK μ s 1)) < mI μ 6 s) ∨ (x = 1 ∧ ¬ nI (cnt n (fK μ s 1)) < mI μ 6 s)), fun xf τ' hxf => ?_, ?_⟩⟩
  rotate_left
  · rw [v4]; exact ⟨fun h => ⟨rfl, Or.inl ⟨rfl, h⟩⟩, fun h => ⟨rfl, Or.inr ⟨rfl, h⟩⟩⟩
  obtain ⟨hτ', hfull⟩ := hxf
  rw [hτ']
  refine l_many P hs (k := 0) (by decide) ⟨10 * s + 5, n10 s 5, by omega, fun x τ' => τ' = τ ∧ ((x = 0 ∧ nI (cnt n (fK μ s 0)) < mI μ 7 s) ∨ (x = 1 ∧ ¬ nI (cnt n (fK μ s 0)) < mI μ 7 s)), fun xc τ' hxc => ?_, ?_⟩
  rotate_left
  · rw [v5]; exact ⟨fun h => ⟨rfl, Or.inl ⟨rfl, h⟩⟩, fun h => ⟨rfl, Or.inr ⟨rfl, h⟩⟩⟩
  obtain ⟨hτ2, hcrowd⟩ := hxc
  rw [hτ2]
  refine ⟨fun x τ' => τ' = τ ∧ x = nI (262144 * pm), fun x τ' hx => ?_, ?_⟩
  rotate_left
  · rcases hpm2 with ⟨h1, h2⟩ | ⟨p, h1, h2⟩
    · rw [h1]
      exact ⟨fun q => absurd q (by decide), fun _ => ⟨rfl, by rw [h2]; rfl⟩⟩
    · rw [h1]
      have hpn := (hp p h1).1
      have hxp := hC p hpn
      refine ⟨fun _ => q_get2 (by omega) hxp.1 hxp.2.1 ⟨rfl, ?_⟩, fun q => absurd (Int32.not_lt.mp (nI_pos (n := p) (by omega))) q⟩
      rw [show (nI (F p 2) <<< ((18 : Int32) &&& 31)) = nI (F p 2 * 2 ^ 18) from pk_shlN ((18 : Int32) &&& 31) 18 (by decide) (by omega), h2]
      congr 1
      omega
  obtain ⟨hτ3, hx⟩ := hx
  rw [hτ3, hx, g1]
  refine ⟨n, rfl, by omega, ?_⟩
  intro σ21 h21
  refine ⟨n, rfl, by omega, ?_⟩
  intro σ25 h25
  refine ⟨n, rfl, by omega, ?_⟩
  intro σ29 h29
  refine ⟨n, rfl, by omega, ?_⟩
  intro σ33 h33
  refine ⟨0, rfl, by decide, 10 * s, pk_mul 10 s, by omega, n, rfl, by omega, ?_⟩
  intro σ41 h41
  refine ⟨1, rfl, by decide, 1, rfl, by decide, ?_⟩
  intro τn h47
  have ho33 : ∀ j k, ¬ (k = n ∧ 2 ≤ j ∧ j ≤ 6) → mI σ33 j k = mI τ j k := fun j k q => by rw [h33, oI (by omega), h29, oI (by omega), h25, oI (by omega), h21, oI (by omega)]
  have ho41 : ∀ j k, ¬ (k = n ∧ 2 ≤ j ∧ j ≤ 6) → mI σ41 j k = mI τ j k := fun j k q => by rw [h41, oI (by omega), ho33 j k q]
  have ho : ∀ j k, ¬ (k = n ∧ 2 ≤ j ∧ j ≤ 6) → ¬ (j = 0 ∧ k = 1) → mI τn j k = mI τ j k := fun j k q q2 => by rw [h47, oI q2, ho41 j k q]
  have e2 : mI τn 2 n = nI (aw (xNew s pm)) := by rw [h47, oI (by omega), h41, oI (by omega), h33, oI (by omega), h29, oI (by omega), h25, oI (by omega), h21, nIi, nAdd, xNew_aw]
  have e3 : mI τn 3 n = dl := by rw [h47, oI (by omega), h41, oI (by omega), h33, oI (by omega), h29, oI (by omega), h25, nIi]
  have e4 : mI τn 4 n = pv par := by rw [h47, oI (by omega), h41, oI (by omega), h33, oI (by omega), h29, nIi]
  have e6 : mI τn 6 n = -1 := by rw [h47, oI (by omega), h41, oI (by omega), h33, nIi]
  have e5 : mI τn 5 n = mI μ 0 1 + mI μ 1 s := by rw [h47, oI (by omega), h41, nIi, ho33 _ _ (by omega), ho33 _ _ (by omega), g0, v0]
  have e01 : mI τn 0 1 = nI (n + 1) := by rw [h47, nIi, ho41 _ _ (by omega), g1]; exact nI_1 n
  have hN : mN τn = 8 := by rw [h47, h41, h33, h29, h25, h21]; exact g8
  have P' := pl_born (τ' := τn) P hn1 hs hpm (fun p q => ⟨(hp p q).1, (hp p q).2, by
    rcases hpm2 with ⟨h1, h2⟩ | ⟨p2, h1, h2⟩
    · rw [h1] at q; cases q
    · rw [h1] at q; cases q; exact h2⟩) hdl hN (ho _ _ (by omega) (by omega)) e01 (ho _ _ (by omega) (by omega)) (fun k => ho _ _ (by omega) (by omega)) (fun j d q1 q2 q3 => ho _ _ (by omega) (by omega)) e2 e3 e4 e6
  have hbd := xNew_bd hs hpm
  have m15 : mI (sI (eBorn μ n s dl par) 15 n 0) 15 n < 3 := by rw [nIi]; decide
  refine ⟨0, rfl, by decide, 10 * s + 9, n10 s 9, by omega, ?_⟩
  rw [ho 1 (10 * s + 9) (by omega) (by omega), v9, ho 0 0 (by omega) (by omega), g0]
  refine ⟨fun hle => ?_, fun hle => ?_⟩
  · rw [if_neg (Int32.not_lt.mpr hle)] at hQ
    refine ⟨n, rfl, by omega, fun σ => σ = τn ∧ ∀ τ' F', PL τ' (eFin (sI (eBorn μ n s dl par) 15 n 0) n 6) (n + 1) F' d0 → Q τ', fun σ hσ => ?_, ?_⟩
    · rw [hσ.1]
      exact l_end (w := 6) wB' P' (by omega) m15 (by decide) (by decide) (fun τ' F' h => hσ.2 τ' F' h)
    · have hcmp : dl - mI μ 0 1 < mI μ 1 s ↔ dl < mI μ 0 1 + mI μ 1 s := by rw [gt, hwk2]; exact i_later (by omega) (by omega) ht1 hwk
      rw [e5]
      refine ⟨fun hlt => ⟨rfl, ?_⟩, fun hlt => ?_⟩
      · rw [if_pos (hcmp.mpr hlt)] at hQ; exact hQ
      · rw [if_neg (fun q => hlt (hcmp.mp q))] at hQ
        refine ⟨fun σ => σ = τn ∧ (xf = 0 ∨ nI (cnt n (fK μ s 0)) < mI μ 7 s), fun σ hσ => ?_, fun hxf => ⟨rfl, Or.inl hxf⟩, fun hxf => ⟨fun hxc => ⟨rfl, Or.inr ?_⟩, fun hxc => ⟨rfl, ?_⟩⟩⟩
        · rw [hσ.1]
          refine ⟨fun hxf => ?_, fun hxf => ?_⟩
          · rcases hfull with ⟨-, hf⟩ | ⟨h1, -⟩
            · rw [if_pos hf] at hQ
              refine q_put1 (v := 1) (by omega) hbd e2 (by decide) (hQ _ _ (pl_wrk P' (by omega) m15 hs (by rw [oI (by omega), x12]) hN (fun j k q => oI (by omega)) ?_ ?_))
              · show mI (sI τn 2 n _) 2 n = nI (aw (upx (if n = n then xNew s pm else F n) 1 1))
                rw [nIi, if_pos rfl]
              · rw [oI (by omega), e5, oI (by omega), b01, oI (by omega), b1]
            · rw [h1] at hxf; exact absurd hxf (by decide)
          · rcases hfull with ⟨h1, -⟩ | ⟨-, hf⟩
            · exact absurd h1 hxf
            · rw [if_neg hf, if_pos (hσ.2.resolve_left hxf)] at hQ
              refine q_put1 (v := 0) (by omega) hbd e2 (by decide) (hQ _ (fun d => if d = n then xNew s pm else F d) ?_)
              rw [show upx (xNew s pm) 1 0 = xNew s pm from by funext j; unfold upx xNew; by_cases h1 : j = 1 <;> simp [h1], ← e2]
              have hsame : sI τn 2 n (mI τn 2 n) = τn := mS_ext rfl (fun a b => by
                by_cases hab : a = 2 ∧ b = n
                · rw [hab.1, hab.2, nIi]
                · rw [oI hab]) (fun _ _ => rfl)
              rw [hsame]
              exact P'
        · rcases hcrowd with ⟨-, hc⟩ | ⟨h1, -⟩
          · exact hc
          · rw [h1] at hxc; exact absurd hxc (by decide)
        · rcases hfull with ⟨h1, -⟩ | ⟨-, hf⟩
          · exact absurd h1 hxf
          · rcases hcrowd with ⟨h1, -⟩ | ⟨-, hc⟩
            · exact absurd h1 hxc
            · rw [if_neg hf, if_neg hc] at hQ; exact hQ
  · rw [if_pos (Int32.not_le.mp hle)] at hQ
    exact l_end (w := 4) wB' P' (by omega) m15 (by decide) (by decide) (fun τ' F' h => hQ τ' F' h)
