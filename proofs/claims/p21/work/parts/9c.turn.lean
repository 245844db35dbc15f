/-! a turn of the law -/
def lTurn (L : Nat) (xs : Nat → Int32) (j17 j24 j31 : Nat) (x38 : Int32) (u : Nat) (σ τ : mS) (b : Nat) (Q : Int32 → mS → mS → Prop) (K : Nat → mS → mS → Prop) : Prop := (∃ I177 : Nat → Int32 → Int32 → Nat → mS → mS → Prop, (∀ (n177 : Nat) (x16_177 : Int32) (x17_177 : Int32) (u_177 : Nat) (σ_177 τ_177 : mS), I177 n177 x16_177 x17_177 u_177 σ_177 τ_177 → (∃ j43, (1 : Int32) = nI j43 ∧ (j43 < 3 ∧ (((mI τ_177 0 j43) ≤ x17_177 → (∃ j46, (1 : Int32) = nI j46 ∧ (j46 < 3 ∧ ((((mI τ_177 0 j46) + x16_177) ≤ (58 : Int32) → (∃ J547 : Int32 → Nat → mS → mS → Prop, (∀ (x17_547 : Int32) (u_547 : Nat) (σ_547 τ_547 : mS), J547 x17_547 u_547 σ_547 τ_547 → ((x17_547 = 0 → (Q (0 : Int32) σ_547 τ_547)) ∧ (¬ x17_547 = 0 → (∃ k54, u_547 + k54 ≤ b ∧ w_L_isTold (((pCell L xs j17) >>> ((5 : Int32) &&& 31)) ^^^ (pCell L xs j24)) σ_547 τ_547 k54 (fun x53 σ55 τ56 => ((¬ x53 = 0 → K (u_547 + k54) σ55 τ56) ∧ (x53 = 0 → (Q (0 : Int32) σ55 τ56)))))))) ∧ (((9 : Int32) ≤ x38 → (((14 : Int32) ≤ x38 → (∃ J494 : Int32 → Nat → mS → mS → Prop, (∀ (x17_494 : Int32) (u_494 : Nat) (σ_494 τ_494 : mS), J494 x17_494 u_494 σ_494 τ_494 → ((x38 ≤ (14 : Int32) → (J547 x17_494 u_494 σ_494 τ_494)) ∧ (¬ x38 ≤ (14 : Int32) → (∃ j63, (2 : Int32) = nI j63 ∧ (j63 < 3 ∧ w_L_tick  τ_494 (fun τ69 => (mN τ69 = 8 ∧ (mRok kdC σ_494 ∧ (∃ k75, u_494 + k75 ≤ b ∧ w_L_pass (1 : Int32) σ_494 k75 (fun x72 σ74 => (mN σ_494 ≤ mN σ74 ∧ (∃ j76, (2 : Int32) = nI j76 ∧ (j76 < 3 ∧ (∃ J545 : Int32 → Nat → mS → mS → Prop, (∀ (xk0_545 : Int32) (u_545 : Nat) (σ_545 τ_545 : mS), J545 xk0_545 u_545 σ_545 τ_545 → (J547 xk0_545 u_545 σ_545 τ_545)) ∧ ((¬ x72 = ((mI τ69 0 j76) - (mI τ_494 0 j63)) → (J545 (0 : Int32) (u_494 + k75) σ74 τ69)) ∧ (x72 = ((mI τ69 0 j76) - (mI τ_494 0 j63)) → (J545 (1 : Int32) (u_494 + k75) σ74 τ69))))))))))))))))) ∧ ((¬ x38 = (14 : Int32) → (J494 (1 : Int32) u_177 σ_177 τ_177)) ∧ (x38 = (14 : Int32) → (∃ j81, (1 : Int32) = nI j81 ∧ (j81 < 3 ∧ (((mI τ_177 0 j81) ≤ 0 → (J494 (1 : Int32) u_177 σ_177 τ_177)) ∧ (¬ (mI τ_177 0 j81) ≤ 0 → (∃ j84, (1 : Int32) = nI j84 ∧ (j84 < 3 ∧ w_L_low (pCell L xs j24) (mI τ_177 0 j84) τ_177 (fun x88 τ89 => (mN τ89 = 8 ∧ w_L_get x88 (3 : Int32) (3 : Int32) τ89 (fun x93 τ94 => (mN τ94 = 8 ∧ (∃ J491 : Int32 → Nat → mS → mS → Prop, (∀ (x17_491 : Int32) (u_491 : Nat) (σ_491 τ_491 : mS), J491 x17_491 u_491 σ_491 τ_491 → (J547 x17_491 u_491 σ_491 τ_491)) ∧ (∃ J421 : Nat → mS → mS → Prop, (∀ (u_421 : Nat) (σ_421 τ_421 : mS), J421 u_421 σ_421 τ_421 → (mRok kdC σ_421 ∧ (∃ k100, u_421 + k100 ≤ b ∧ w_L_cancel x88 σ_421 k100 (fun x97 σ99 => (mN σ_421 ≤ mN σ99 ∧ (∃ J437 : Int32 → Nat → mS → mS → Prop, (∀ (xk0_437 : Int32) (u_437 : Nat) (σ_437 τ_437 : mS), J437 xk0_437 u_437 σ_437 τ_437 → (J491 xk0_437 u_437 σ_437 τ_437)) ∧ ((¬ x97 = (-73 : Int32) → (J437 (0 : Int32) (u_421 + k100) σ99 τ_421)) ∧ (x97 = (-73 : Int32) → (J437 (1 : Int32) (u_421 + k100) σ99 τ_421))))))))) ∧ (((2 : Int32) < x93 → (J421 u_177 σ_177 τ94)) ∧ (¬ (2 : Int32) < x93 → (∃ j104, x88 = nI j104 ∧ (j104 < 60 ∧ (((mI τ94 4 j104) < 0 → w_L_below x88 τ94 (fun x109 τ110 => (mN τ110 = 8 ∧ w_L_end x88 (7 : Int32) τ110 (fun τ115 => (mN τ115 = 8 ∧ (mRok kdC σ_177 ∧ (∃ k121, u_177 + k121 ≤ b ∧ w_L_cancel x88 σ_177 k121 (fun x118 σ120 => (mN σ_177 ≤ mN σ120 ∧ (∃ J489 : Int32 → Nat → mS → mS → Prop, (∀ (xk0_489 : Int32) (u_489 : Nat) (σ_489 τ_489 : mS), J489 xk0_489 u_489 σ_489 τ_489 → (J491 xk0_489 u_489 σ_489 τ_489)) ∧ ((¬ x118 = ((1 : Int32) + x109) → (J489 (0 : Int32) (u_177 + k121) σ120 τ115)) ∧ (x118 = ((1 : Int32) + x109) → (J489 (1 : Int32) (u_177 + k121) σ120 τ115))))))))))))) ∧ (¬ (mI τ94 4 j104) < 0 → (J421 u_177 σ_177 τ94))))))))))))))))))))))) ∧ (¬ (14 : Int32) ≤ x38 → (∃ J291 : Int32 → Nat → mS → mS → Prop, (∀ (xk0_291 : Int32) (u_291 : Nat) (σ_291 τ_291 : mS), J291 xk0_291 u_291 σ_291 τ_291 → w_L_low (pCell L xs j24) xk0_291 τ_291 (fun x126 τ127 => (mN τ127 = 8 ∧ (∃ J314 : Int32 → Nat → mS → mS → Prop, (∀ (xk0_314 : Int32) (u_314 : Nat) (σ_314 τ_314 : mS), J314 xk0_314 u_314 σ_314 τ_314 → w_L_low (pCell L xs j31) xk0_314 τ_314 (fun x131 τ132 => (mN τ132 = 8 ∧ (∃ j134, (1 : Int32) = nI j134 ∧ (j134 < 3 ∧ (∃ j137, (0 : Int32) = nI j137 ∧ (j137 < 3 ∧ w_L_begin x126 ((mI τ132 0 j137) + ((1 : Int32) + x131)) (-1 : Int32) τ132 (fun τ142 => (mN τ142 = 8 ∧ (mRok kdC σ_314 ∧ (∃ k148, u_314 + k148 ≤ b ∧ w_L_call x126 ((1 : Int32) + x131) σ_314 k148 (fun x145 σ147 => (mN σ_314 ≤ mN σ147 ∧ (∃ J370 : Int32 → Nat → mS → mS → Prop, (∀ (xk0_370 : Int32) (u_370 : Nat) (σ_370 τ_370 : mS), J370 xk0_370 u_370 σ_370 τ_370 → (J547 xk0_370 u_370 σ_370 τ_370)) ∧ ((¬ x145 = (mI τ132 0 j134) → (J370 (0 : Int32) (u_314 + k148) σ147 τ142)) ∧ (x145 = (mI τ132 0 j134) → (J370 (1 : Int32) (u_314 + k148) σ147 τ142))))))))))))))))) ∧ ((¬ ((pCell L xs j31) &&& (96 : Int32)) = 0 → (J314 (20 : Int32) u_291 σ_291 τ127)) ∧ (((pCell L xs j31) &&& (96 : Int32)) = 0 → (J314 (100 : Int32) u_291 σ_291 τ127))))))) ∧ ((¬ ((pCell L xs j24) &&& (96 : Int32)) = 0 → (J291 (2 : Int32) u_177 σ_177 τ_177)) ∧ (((pCell L xs j24) &&& (96 : Int32)) = 0 → (J291 (6 : Int32) u_177 σ_177 τ_177))))))) ∧ (¬ (9 : Int32) ≤ x38 → (∃ k156, u_177 + k156 ≤ b ∧ w_L_sets x38 (pCell L xs j24) (pCell L xs j31) σ_177 τ_177 k156 (fun x155 σ157 τ158 => (J547 x155 (u_177 + k156) σ157 τ158))))))) ∧ (¬ ((mI τ_177 0 j46) + x16_177) ≤ (58 : Int32) → (Q (1 : Int32) σ_177 τ_177)))))) ∧ (¬ (mI τ_177 0 j43) ≤ x17_177 → w_L_get x17_177 (3 : Int32) (3 : Int32) τ_177 (fun x162 τ163 => (mN τ163 = 8 ∧ ((x162 = (2 : Int32) → (∃ k167, k167 < n177 ∧ I177 k167 (x16_177 + (1 : Int32)) (x17_177 + 1) u_177 σ_177 τ163)) ∧ (¬ x162 = (2 : Int32) → w_L_get x17_177 (3 : Int32) (3 : Int32) τ163 (fun x170 τ171 => (mN τ171 = 8 ∧ ((¬ x170 = (1 : Int32) → (∃ k175, k175 < n177 ∧ I177 k175 (x16_177 + (0 : Int32)) (x17_177 + 1) u_177 σ_177 τ171)) ∧ (x170 = (1 : Int32) → (∃ k178, k178 < n177 ∧ I177 k178 (x16_177 + (1 : Int32)) (x17_177 + 1) u_177 σ_177 τ171)))))))))))))) ∧ ∃ n, I177 n (0 : Int32) (0 : Int32) u σ τ)
theorem g_trb {μ : mS} {s : Nat} : mI (eTrb μ s) 0 1 = mI μ 0 1 := eTrb_o (by omega)
theorem g_fin {μ : mS} {c w : Nat} : mI (eFin μ c w) 0 1 = mI μ 0 1 := eFin_o (by omega) (by omega) (by omega) (by omega)
theorem g_late {μ : mS} {c : Nat} : mI (eLate μ c) 0 1 = mI μ 0 1 := by
  unfold eLate
  split
  · rw [g_trb, g_fin]
  · rfl
theorem g_work {μ : mS} {c : Nat} : mI (eWork μ c) 0 1 = mI μ 0 1 := by
  unfold eWork
  split
  · have e1 : mI (eWk1 μ (qS μ c)) 0 1 = mI μ 0 1 := eWk1_o (by omega)
    unfold eWk2
    split
    · rw [g_trb, g_fin, e1]
    · split
      · rw [g_fin, e1]
      · rw [eAsk_o (by omega) (by omega), e1]
  · rfl
theorem g_up {f : mS → Nat → mS} (hf : ∀ μ c, mI (f μ c) 0 1 = mI μ 0 1) : ∀ (k c : Nat) (μ : mS), mI (upL f k c μ) 0 1 = mI μ 0 1 := by
  intro k
  induction k with
  | zero => intro c μ; rfl
  | succ k ih => intro c μ; exact (ih (c + 1) _).trans (hf μ c)
theorem g_dn {f : mS → Nat → mS} (hf : ∀ μ c, mI (f μ c) 0 1 = mI μ 0 1) : ∀ (k : Nat) (μ : mS), mI (dnL f k μ) 0 1 = mI μ 0 1 := by
  intro k
  induction k with
  | zero => intro μ; rfl
  | succ k ih => intro μ; exact (ih _).trans (hf μ k)
theorem g_can {p : Nat} {μ : mS} {c : Nat} : mI (eCan p μ c) 0 1 = mI μ 0 1 := eCan_o (by omega) (by omega) (by omega) (by omega)
theorem g_look {μ : mS} {p : Nat} : mI (eLook μ p) 0 1 = mI μ 0 1 := by
  have e1 : mI (eGoL μ p) 0 1 = mI μ 0 1 := by unfold eGoL; exact g_up (fun _ _ => g_can) _ _ _
  unfold eLook
  split
  · unfold eGo eNxt
    split
    · rw [oI (by omega), oI (by omega), g_fin, e1]
    · rw [oI (by omega), oI (by omega), oI (by omega), e1]
  · split
    · split
      · unfold eAgn
        rw [oI (by omega), oI (by omega), oI (by omega)]
      · exact g_fin
    · split
      · exact oI (by omega)
      · rfl
theorem g_jdg {μ : mS} {c : Nat} : mI (eJdg μ c) 0 1 = mI μ 0 1 := by
  unfold eJdg
  split
  · exact g_look
  · rfl
theorem g_wrk {μ : mS} {c : Nat} : mI (eWrk μ c) 0 1 = mI μ 0 1 := by unfold eWrk; rw [oI (by omega), oI (by omega)]
theorem g_beg {μ : mS} {n c s : Nat} : mI (eBeg μ n c s) 0 1 = mI μ 0 1 := by
  unfold eBeg
  split
  · exact g_fin
  · split
    · exact g_fin
    · split
      · exact g_wrk
      · split
        · unfold eQue; exact oI (by omega)
        · exact g_fin
theorem g_mkC {μ : mS} {c : Nat} : mI (eMkC μ c) 0 1 = mI μ 0 1 := by
  unfold eMkC
  split
  · unfold eMk1
    split
    · rw [g_fin, oI (by omega)]
    · rw [g_beg, eBorn_o (by omega) (by omega), oI (by omega)]
  · rfl
theorem g_tq {s : Nat} {μ : mS} {c : Nat} : mI (eTq s μ c) 0 1 = mI μ 0 1 := by
  unfold eTq
  split
  · split
    · exact g_fin
    · exact g_wrk
  · rfl
theorem g_tick {μ : mS} : mI (eTick μ) 0 1 = mI μ 0 1 + 1 := by
  unfold eTick
  rw [g_up (f := eTQ) (fun μ s => by unfold eTQ; exact g_up (fun _ _ => g_tq) _ _ _)]
  unfold eMks
  rw [g_up (fun _ _ => g_mkC), g_up (f := eSn) (fun μ c => by unfold eSn; exact oI (by omega))]
  unfold eT4
  rw [g_dn (fun _ _ => g_jdg), g_up (fun _ _ => g_work), g_up (fun _ _ => g_late)]
  unfold eT0
  rw [nIi]
/-- how many are cancelled with a call: all that is open below it -/
theorem fcn_below {μ : mS} {n c : Nat} (hM : wM μ n) (C : wCl μ n) (hc : c < n) (ho : mI μ 15 c < 3) : eFcn μ c 7 = nI (cnt n (fB μ c)) := by
  have hn2 := hM.2.2.2.1
  have z0 : cnt (c + 1) (fB μ c) = 0 := cnt_zero fun e he => by
    cases hq : belQ μ c e with
    | false => simp [fB, hq]
    | true => have := bB_lt hM 200 e (by omega) hq; omega
  have key : ∀ (k d : Nat) (x : Int32) (μ' : mS), d + k = n → c < d → x = nI (cnt d (fB μ c)) → (∀ e, d ≤ e → mI μ' 15 e = mI μ 15 e) → (∀ e, mI μ' 14 e = mI μ 14 e) → (∀ e, e < d → (¬ mI μ' 15 e < 3 ↔ (¬ mI μ 15 e < 3 ∨ e = c ∨ belQ μ c e = true))) → eLcnt k d x μ' = nI (cnt n (fB μ c)) := by
    intro k
    induction k with
    | zero =>
      intro d x μ' hdn _ hx _ _ _
      rw [show n = d by omega]
      exact hx
    | succ k ih =>
      intro d x μ' hdn hcd hx h15 h14 hov
      have hdn' : d < n := by omega
      have hcond : eCond μ' d ↔ (mI μ 15 d < 3 ∧ belQ μ c d = true) := by
        unfold eCond
        rw [h15 d (Nat.le_refl _), h14 d]
        rcases wM_par hM hdn' with hpar | ⟨p, hp, hpar⟩
        · rw [bel_r hpar]
          exact ⟨fun q => absurd hpar q.2.1, fun q => absurd q.2 (by decide)⟩
        · have hqp : qP μ' d = p := qP_e ((h14 d).trans hpar) (by omega)
          rw [hqp, bel_p hM hdn' hp hpar, hov p hp]
          refine ⟨fun q => ⟨q.1, ?_⟩, fun q => ⟨q.1, by rw [hpar]; exact i_ne1 (by omega), ?_⟩⟩
          · rcases q.2.2 with h1 | h1 | h1
            · exact absurd q.1 (C d p hdn' (by omega) hpar h1)
            · simp [h1]
            · simp [h1]
          · rcases Bool.or_eq_true_iff.mp q.2 with h1 | h1
            · exact Or.inr (Or.inl (of_decide_eq_true h1))
            · exact Or.inr (Or.inr h1)
      have hfB : fB μ c d = decide (eCond μ' d) := by
        simp only [fB]
        by_cases h1 : mI μ 15 d < 3
        · cases h2 : belQ μ c d with
          | false =>
            have e0 : decide (eCond μ' d) = false := decide_eq_false (fun q => by have := (hcond.mp q).2; rw [h2] at this; cases this)
            rw [e0, Bool.and_false]
          | true =>
            have e0 : decide (eCond μ' d) = true := decide_eq_true (hcond.mpr ⟨h1, h2⟩)
            rw [e0, decide_eq_true h1]; rfl
        · have e0 : decide (eCond μ' d) = false := decide_eq_false (fun q => h1 (hcond.mp q).1)
          rw [e0, decide_eq_false h1]; rfl
      show eLcnt k (d + 1) (if eCond μ' d then x + 1 else x) (eStep μ' d) = _
      have hx2 : (if eCond μ' d then x + 1 else x) = nI (cnt (d + 1) (fB μ c)) := by
        rw [cnt_succ, hfB, hx]
        by_cases hq : eCond μ' d
        · rw [if_pos hq, if_pos (decide_eq_true hq)]; exact nI_1 _
        · rw [if_neg hq, if_neg (by simp [hq])]; rfl
      refine ih (d + 1) _ _ (by omega) (by omega) hx2 (fun e he => ?_) (fun e => by rw [eStep_o (by omega) (by omega)]; exact h14 e) (fun e he => ?_)
      · unfold eStep
        split
        · unfold eEnd; rw [oI (by omega), oI (by omega)]; exact h15 e (by omega)
        · exact h15 e (by omega)
      · by_cases hed : e = d
        · rw [hed]
          have hne : d ≠ c := by omega
          unfold eStep
          by_cases hq : eCond μ' d
          · rw [if_pos hq]
            have h1 : mI (eEnd μ' d 7) 15 d = nI 7 := by unfold eEnd; rw [oI (by omega), nIi]
            rw [h1]
            exact ⟨fun _ => Or.inr (Or.inr (hcond.mp hq).2), fun _ => i_nlt3 (by decide) (by decide)⟩
          · rw [if_neg hq, h15 d (Nat.le_refl _)]
            refine ⟨fun h1 => Or.inl h1, fun h1 => ?_⟩
            rcases h1 with h1 | h1 | h1
            · exact h1
            · exact absurd h1 hne
            · exact fun h2 => hq (hcond.mpr ⟨h2, h1⟩)
        · rw [← hov e (by omega)]
          unfold eStep
          split
          · unfold eEnd; rw [oI (by omega), oI (by omega)]
          · exact Iff.rfl
  unfold eFcn
  rw [qN_e hM, eC7]
  refine key (n - (c + 1)) (c + 1) 0 _ (by omega) (by omega) (by rw [z0]; rfl) (fun e he => ?_) (fun e => ?_) (fun e he => ?_)
  · unfold eEnd; rw [oI (by omega), oI (by omega)]
  · unfold eEnd; rw [oI (by omega), oI (by omega)]
  · by_cases hec : e = c
    · rw [hec]
      have h1 : mI (eEnd μ c 7) 15 c = nI 7 := by unfold eEnd; rw [oI (by omega), nIi]
      rw [h1]
      exact ⟨fun _ => Or.inr (Or.inl rfl), fun _ => i_nlt3 (by decide) (by decide)⟩
    · have h1 : mI (eEnd μ c 7) 15 e = mI μ 15 e := by unfold eEnd; rw [oI (by omega), oI (fun q => hec q.2)]
      rw [h1]
      refine ⟨fun h2 => Or.inl h2, fun h2 => ?_⟩
      rcases h2 with h2 | h2 | h2
      · exact h2
      · exact absurd h2 hec
      · have := bB_lt hM 200 e (by omega) h2
        omega
section TU
variable {σ μ : mS} {n h b : Nat} {y y2 : Int32} {Q : Int32 → mS → Prop}
theorem t_cancel (R : R0 σ μ n h) (hb : 2 ≤ b) {c : Nat} (hc : c < n) (ho : mI μ 15 c < 3) (hp : mI μ 14 c = -1) (hQ : ∀ σ', R0 σ' (eFin μ c 7) n h → Q (1 + eFcn μ c 7) σ') : w_L_cancel (nI c) σ b Q := by
  have hn := R.n2
  refine s_cancel R hb (fun d hd hy _ _ σ' R' => ?_) (fun d hd hy q => ?_) (fun hno => absurd rfl (hno c hc))
  · have h1 : c = d := i_inj (by omega) (by omega) hy
    subst h1
    exact hQ σ' R'
  · have h1 : c = d := i_inj (by omega) (by omega) hy
    subst h1
    rcases q with q | q
    · exact absurd ho q
    · exact absurd hp q
theorem t_cancel1 (R : R0 σ μ n h) (hb : 2 ≤ b) {c : Nat} (hc : c < n) (hbad : ¬ mI μ 15 c < 3 ∨ mI μ 14 c ≠ -1) (hQ : Q (-73) σ) : w_L_cancel (nI c) σ b Q := by
  have hn := R.n2
  refine s_cancel R hb (fun d hd hy h1 h2 σ' R' => ?_) (fun d hd hy q => Or.inr ⟨rfl, hQ⟩) (fun hno => absurd rfl (hno c hc))
  have h3 : c = d := i_inj (by omega) (by omega) hy
  subst h3
  rcases hbad with q | q
  · exact absurd h1 q
  · exact absurd h2 q
end TU
theorem l_turn {σ τ μ : mS} {L n h u b j17 j24 j31 t : Nat} {xs : Nat → Int32} {act z : Int32} {F : Nat → Nat → Nat} {Q : Int32 → mS → mS → Prop} {K : Nat → mS → mS → Prop} (R : R0 σ μ n h) (C : CZ z n μ) (P : PL τ μ n F d0) (ht : mI μ 0 1 = nI t) (ht1 : t + 1 ≤ 1000) (hb : u + 1200 ≤ b) (hQ : ∀ σ' τ', Q 1 σ' τ')
    (hK : ∀ u' σ' τ' μ' n' h' F', u' ≤ u + 1200 → R0 σ' μ' n' h' → CZ z n' μ' → PL τ' μ' n' F' d0 → (mI μ' 0 1 = nI t ∨ mI μ' 0 1 = nI (t + 1)) → K u' σ' τ') : lTurn L xs j17 j24 j31 act u σ τ b Q K := by
  obtain ⟨k0, k1, kn⟩ := l_now P
  have hn2 := R.n2
  have hM := R.1
  have n8' : mN τ = 8 := P.1.1
  unfold lTurn
  refine ⟨fun m x16 x17 u' σ' τ' => ∃ d, x17 = nI d ∧ d ≤ n ∧ m = n - d ∧ x16 = nI (cnt d (f12 μ)) ∧ u' = u ∧ σ' = σ ∧ τ' = τ, ?_, n, 0, rfl, by omega, by omega, rfl, rfl, rfl, rfl⟩
  rintro m x16 x17 u' σ' τ' ⟨d, h17, hd, hm, h16, hu, hσ, hτ⟩
  rw [h17, hm, h16, hu, hσ, hτ]
  refine ⟨1, rfl, by decide, ?_⟩
  rw [k1]
  refine ⟨fun hl => ?_, fun hl => ?_⟩
  · have h1 : n ≤ d := (nI_leI (by omega) (by omega)).mp hl
    have hdn : d = n := by omega
    rw [hdn]
    have hcl := cnt_le n (f12 μ)
    refine ⟨1, rfl, by decide, ?_⟩
    rw [k1, nAdd]
    refine ⟨fun h58 => ?_, fun _ => hQ _ _⟩
    have hA : n + cnt n (f12 μ) ≤ 58 := (nI_leI (b := 58) (by omega) (by omega)).mp h58
    refine ⟨fun x u' σ' τ' => x = 1 ∧ u' ≤ u + 80 ∧ ∃ μ' n' h' F', R0 σ' μ' n' h' ∧ CZ z n' μ' ∧ PL τ' μ' n' F' d0 ∧ (mI μ' 0 1 = nI t ∨ mI μ' 0 1 = nI (t + 1)), ?_, ?_⟩
    · rintro x u' σ' τ' ⟨hx, hu', μ', n', h', F', R', C', P', ht'⟩
      rw [hx]
      exact ⟨fun q => absurd q (by decide), fun _ => ⟨1110, by omega, l_told R' C'.1 P' (Nat.le_refl _) ⟨fun _ => hK _ _ _ _ _ _ _ (by omega) R' C' P' ht', fun q => absurd q (by decide)⟩⟩⟩
    · have same : ∀ u', u' ≤ u + 80 → (1 : Int32) = 1 ∧ u' ≤ u + 80 ∧ ∃ μ' n' h' F', R0 σ μ' n' h' ∧ CZ z n' μ' ∧ PL τ μ' n' F' d0 ∧ (mI μ' 0 1 = nI t ∨ mI μ' 0 1 = nI (t + 1)) := fun u' hu' => ⟨rfl, hu', μ, n, h, F, R, C, P, Or.inl ht⟩
      refine ⟨fun h9 => ⟨fun h14 => ?_, fun h14 => ?_⟩, fun h9 => ⟨30, by omega, l_sets R C P (Nat.le_refl _) (fun σ' τ' μ' F' R' C' P' ht' => ⟨rfl, by omega, μ', n, h, F', R', C', P', Or.inl (ht'.trans ht)⟩)⟩⟩
      · refine ⟨fun x u' σ' τ' => x = 1 ∧ u' = u ∧ σ' = σ ∧ τ' = τ, ?_, ?_⟩
        · rintro x u' σ' τ' ⟨hx, hu', hσ', hτ'⟩
          · rw [hx, hu', hσ', hτ']
            refine ⟨fun _ => same u (by omega), fun _ => ⟨2, rfl, by decide, ?_⟩⟩
            obtain ⟨n', hnn, hqn, hM', C'⟩ := tick_keep hM C
            refine l_tick hM P ht ht1 hA (fun τ2 F2 P2 => ?_)
            have hnB := P2.1.2.2.2.2.1
            refine ⟨P2.1.1, R.rk, 1 + (qN (eMks (eT4 μ)) - n), by omega, s_pass1 R (Nat.le_refl _) (by omega) (fun σ2 h2 R2 => ⟨by rw [R.2.1.1, R2.2.1.1]; omega, 2, rfl, by decide, fun x u' σ' τ' => x = 1 ∧ u' ≤ u + 80 ∧ ∃ μ' n' h' F', R0 σ' μ' n' h' ∧ CZ z n' μ' ∧ PL τ' μ' n' F' d0 ∧ (mI μ' 0 1 = nI t ∨ mI μ' 0 1 = nI (t + 1)), fun _ _ _ _ q => q, fun hne => absurd ?_ hne, fun _ => ⟨rfl, by omega, eTick μ, _, h2, F2, R2, by rw [hqn]; exact C', P2, Or.inr (by rw [g_tick, ht]; exact nI_1 t)⟩⟩)⟩
            rw [P2.1.2.2.2.1, P.1.2.2.2.1]
        · refine ⟨fun _ => ⟨rfl, rfl, rfl, rfl⟩, fun hact => ⟨1, rfl, by decide, ?_⟩⟩
          rw [k1]
          refine ⟨fun _ => ⟨rfl, rfl, rfl, rfl⟩, fun hpos => ⟨1, rfl, by decide, ?_⟩⟩
          rw [k1]
          have hn0 : 0 < n := Nat.pos_of_ne_zero fun q => hpos (by rw [q]; decide)
          refine l_low hn0 (by omega) (fun c hc => ⟨n8', ?_⟩)
          obtain ⟨hxc, hac, c12, c15, c19, r3, r4, -⟩ := P.2.2 c hc
          have hx' := id hxc
          unfold aBd at hx'
          obtain ⟨hop, -⟩ := l_open P hc
          refine q_get1 (by omega) hxc hac ⟨n8', fun x u' σ' τ' => x = 1 ∧ u' ≤ u + 80 ∧ ∃ μ' n' h' F', R0 σ' μ' n' h' ∧ CZ z n' μ' ∧ PL τ' μ' n' F' d0 ∧ (mI μ' 0 1 = nI t ∨ mI μ' 0 1 = nI (t + 1)), fun x u' σ' τ' q => q, fun u' σ' τ' => u' = u ∧ σ' = σ ∧ τ' = τ ∧ (¬ mI μ 15 c < 3 ∨ mI μ 14 c ≠ -1), ?_, fun h2 => ⟨rfl, rfl, rfl, Or.inl ?_⟩, fun h2 => ⟨c, rfl, by omega, fun hneg => ?_, fun hnn => ⟨rfl, rfl, rfl, Or.inr ?_⟩⟩⟩
          · rintro u' σ' τ' ⟨hu', hσ', hτ', hbad⟩
            rw [hu', hσ', hτ']
            exact ⟨R.rk, 2, by omega, t_cancel1 R (Nat.le_refl _) hc hbad ⟨Nat.le_refl _, fun x u' σ' τ' => x = 1 ∧ u' ≤ u + 80 ∧ ∃ μ' n' h' F', R0 σ' μ' n' h' ∧ CZ z n' μ' ∧ PL τ' μ' n' F' d0 ∧ (mI μ' 0 1 = nI t ∨ mI μ' 0 1 = nI (t + 1)), fun _ _ _ _ q => q, fun hne => absurd rfl hne, fun _ => same _ (by omega)⟩⟩
          · have := (i_2lt (by omega)).mp h2
            exact fun q => by have := hop.mp q; omega
          · have ho : mI μ 15 c < 3 := hop.mpr (by have : ¬ 2 < F c 1 := fun q => h2 ((i_2lt (by omega)).mpr q); omega)
            rw [r4] at hneg
            have hroot : mI μ 14 c = -1 := by
              rcases wM_par hM hc with q | ⟨p, hp, q⟩
              · exact q
              · rw [q] at hneg; exact absurd hneg (nI_pos (by omega))
            refine l_below hM P hc ⟨n8', l_end (w := 7) hM P hc ho (by decide) (by decide) (fun τ2 F2 P2 => ⟨P2.1.1, R.rk, 2, by omega, t_cancel R (Nat.le_refl _) hc ho hroot (fun σ2 R2 => ⟨k_mN R R2, fun x u' σ' τ' => x = 1 ∧ u' ≤ u + 80 ∧ ∃ μ' n' h' F', R0 σ' μ' n' h' ∧ CZ z n' μ' ∧ PL τ' μ' n' F' d0 ∧ (mI μ' 0 1 = nI t ∨ mI μ' 0 1 = nI (t + 1)), fun _ _ _ _ q => q, fun hne => absurd (by rw [fcn_below hM C.1 hc ho]) hne, fun _ => ⟨rfl, by omega, _, n, h, F2, R2, cz_fin hM C hc (by decide) (by decide), P2, Or.inl (by rw [g_fin]; exact ht)⟩⟩)⟩)⟩
          · intro q
            rw [r4, q] at hnn
            exact hnn (by decide)
      · refine ⟨fun x u' σ' τ' => (∃ m, x = nI m ∧ 0 < m ∧ m ≤ 6) ∧ u' = u ∧ σ' = σ ∧ τ' = τ, ?_, fun _ => ⟨⟨2, rfl, by decide, by decide⟩, rfl, rfl, rfl⟩, fun _ => ⟨⟨6, rfl, by decide, by decide⟩, rfl, rfl, rfl⟩⟩
        rintro x u' σ' τ' ⟨⟨m, hx, hm0, hm6⟩, hu', hσ', hτ'⟩
        rw [hx, hu', hσ', hτ']
        refine l_low hm0 (by omega) (fun s hsm => ⟨n8', fun x u' σ' τ' => (∃ m, x = nI m ∧ 0 < m ∧ m ≤ 100) ∧ u' = u ∧ σ' = σ ∧ τ' = τ, ?_, fun _ => ⟨⟨20, rfl, by decide, by decide⟩, rfl, rfl, rfl⟩, fun _ => ⟨⟨100, rfl, by decide, by decide⟩, rfl, rfl, rfl⟩⟩)
        have hs : s < 6 := by omega
        rintro x u' σ' τ' ⟨⟨m2, hx, hm20, hm2⟩, hu', hσ', hτ'⟩
        rw [hx, hu', hσ', hτ']
        refine l_low hm20 (by omega) (fun k hk => ⟨n8', 1, rfl, by decide, 0, rfl, by decide, ?_⟩)
        rw [k0, k1, n1eq]
        have hdl : -(n : Int) ≤ (mI μ 0 1 + nI (1 + k)).toInt ∧ (mI μ 0 1 + nI (1 + k)).toInt ≤ 2000 := by
          rw [ht, nAdd, nI_toInt (by omega)]
          omega
        have hM1 := wM_born (dl := mI μ 0 1 + nI (1 + k)) (par := none) hM (by omega) hs (fun p hp => by cases hp)
        obtain ⟨x12, -, -, x15, -⟩ := eBorn_x (μ := μ) (n := n) (s := s) (dl := mI μ 0 1 + nI (1 + k)) (par := none)
        refine l_begin (par := none) hM P (by omega) hs (fun p hp => by cases hp) hdl (fun τ2 F2 P2 => ⟨P2.1.1, R.rk, 3, by omega, ?_⟩)
        refine s_call (y2 := nI (1 + k)) R (Nat.le_refl _) (by omega) hs (i_rng (lo := 1) (hi := 100) (by omega) (by omega) (by decide)) (fun σ2 R2 => ⟨by rw [R.2.1.1, R2.2.1.1]; omega, fun x u' σ' τ' => x = 1 ∧ u' ≤ u + 80 ∧ ∃ μ' n' h' F', R0 σ' μ' n' h' ∧ CZ z n' μ' ∧ PL τ' μ' n' F' d0 ∧ (mI μ' 0 1 = nI t ∨ mI μ' 0 1 = nI (t + 1)), fun _ _ _ _ q => q, fun hne => absurd rfl hne, fun _ => ⟨rfl, by omega, _, n + 1, h, F2, R2, ?_, P2, Or.inl (by rw [g_beg, eBorn_o (by omega) (by omega)]; exact ht)⟩⟩)
        exact cz_beg hM1 (cz_born hM (by omega) hs C (fun p hp => by cases hp)) (by omega) (by rw [x15]; decide)
  · have h1 : d < n := Nat.not_le.mp fun q => hl ((nI_leI (by omega) (by omega)).mpr q)
    obtain ⟨hxd, ha, c12, c15, -⟩ := P.2.2 d h1
    have hx' := id hxd
    unfold aBd at hx'
    obtain ⟨-, hst⟩ := l_open P h1
    refine q_get1 (by omega) hxd ha ⟨n8', fun h2 => ⟨n - (d + 1), by omega, d + 1, nI_1 d, by omega, rfl, ?_, rfl, rfl, rfl⟩, fun h2 => q_get1 (by omega) hxd ha ⟨n8', fun h3 => ⟨n - (d + 1), by omega, d + 1, nI_1 d, by omega, rfl, ?_, rfl, rfl, rfl⟩, fun h3 => ⟨n - (d + 1), by omega, d + 1, nI_1 d, by omega, rfl, ?_, rfl, rfl, rfl⟩⟩⟩
    · rw [cnt_succ, if_pos (decide_eq_true (Or.inr (c15.trans h2)))]; exact nI_1 _
    · rw [cnt_succ, if_neg (by
        simp only [f12, decide_eq_true_eq, st12, c15]
        rintro (q | q)
        · exact h3 q
        · exact h2 q), Int32.add_zero]; rfl
    · rw [cnt_succ, if_pos (decide_eq_true (Or.inl (c15.trans h3)))]; exact nI_1 _
