/-! a tick of the law, phase by phase -/
def lT5 (σ_333 : mS) (Q : mS → Prop) : Prop := (∃ I478 : Nat → Int32 → mS → Prop, (∀ (n478 : Nat) (x9_478 : Int32) (σ_478 : mS), I478 n478 x9_478 σ_478 → (((6 : Int32) ≤ x9_478 → (Q σ_478)) ∧ (¬ (6 : Int32) ≤ x9_478 → (∃ I488 : Nat → Int32 → mS → Prop, (∀ (n488 : Nat) (x10_488 : Int32) (σ_488 : mS), I488 n488 x10_488 σ_488 → (∃ j27, (1 : Int32) = nI j27 ∧ (j27 < 3 ∧ (((mI σ_488 0 j27) ≤ x10_488 → (∃ k31, k31 < n478 ∧ I478 k31 (x9_478 + 1) σ_488)) ∧ (¬ (mI σ_488 0 j27) ≤ x10_488 → (∃ j32, x10_488 = nI j32 ∧ (j32 < 60 ∧ ((¬ ((mI σ_488 2 j32) &&& (63 : Int32)) = x9_478 → (∃ k36, k36 < n488 ∧ I488 k36 (x10_488 + 1) σ_488)) ∧ (((mI σ_488 2 j32) &&& (63 : Int32)) = x9_478 → w_L_many x9_478 (1 : Int32) σ_488 (fun x40 σ37 => (∃ j41, (((10 : Int32) * x9_478) + (4 : Int32)) = nI j41 ∧ (j41 < 60 ∧ ((x40 < (mI σ37 1 j41) → (∃ j44, (0 : Int32) = nI j44 ∧ (j44 < 3 ∧ (∃ j46, ((10 : Int32) * x9_478) = nI j46 ∧ (j46 < 60 ∧ (∃ j48, x10_488 = nI j48 ∧ (j48 < 60 ∧ (∀ σ51, σ51 = sI σ37 5 j48 ((mI σ37 0 j44) + (mI σ37 1 j46)) → (∃ j52, x10_488 = nI j52 ∧ (j52 < 60 ∧ (∃ j54, x10_488 = nI j54 ∧ (j54 < 60 ∧ (((mI σ51 5 j52) ≤ (mI σ51 3 j54) → w_L_put x10_488 (3 : Int32) (3 : Int32) (1 : Int32) σ51 (fun σ57 => (∃ k61, k61 < n488 ∧ I488 k61 (x10_488 + 1) σ57))) ∧ (¬ (mI σ51 5 j52) ≤ (mI σ51 3 j54) → w_L_end x10_488 (6 : Int32) σ51 (fun σ62 => (∃ k66, k66 < n488 ∧ I488 k66 (x10_488 + 1) σ62)))))))))))))))) ∧ (¬ x40 < (mI σ37 1 j41) → (∃ k68, k68 < n488 ∧ I488 k68 (x10_488 + 1) σ37))))))))))))))) ∧ ∃ n, I488 n (0 : Int32) σ_478)))) ∧ ∃ n, I478 n (0 : Int32) σ_333)
def lT4 (σ_273 : mS) (Q : mS → Prop) : Prop := (∃ j19, (1 : Int32) = nI j19 ∧ (j19 < 3 ∧ (∃ I333 : Nat → Int32 → mS → Prop, (∀ (n333 : Nat) (x9_333 : Int32) (σ_333 : mS), I333 n333 x9_333 σ_333 → (((mI σ_273 0 j19) ≤ x9_333 → lT5 σ_333 Q) ∧ (¬ (mI σ_273 0 j19) ≤ x9_333 → w_L_get x9_333 (3 : Int32) (3 : Int32) σ_333 (fun x72 σ69 => ((¬ x72 = (2 : Int32) → (∃ k75, k75 < n333 ∧ I333 k75 (x9_333 + 1) σ69)) ∧ (x72 = (2 : Int32) → w_L_get x9_333 (10 : Int32) (1 : Int32) σ69 (fun x79 σ76 => ((¬ x79 = 0 → w_L_put x9_333 (10 : Int32) (1 : Int32) (0 : Int32) σ76 (fun σ81 => w_L_get x9_333 (11 : Int32) (3 : Int32) σ81 (fun x87 σ84 => (∃ J398 : mS → Prop, (∀  (σ_398 : mS), J398  σ_398 → w_L_get x9_333 (11 : Int32) (3 : Int32) σ_398 (fun x91 σ88 => w_L_put x9_333 (11 : Int32) (3 : Int32) (x91 + (1 : Int32)) σ88 (fun σ92 => w_L_get x9_333 (14 : Int32) (3 : Int32) σ92 (fun x98 σ95 => w_L_put x9_333 (14 : Int32) (3 : Int32) (x98 + (1 : Int32)) σ95 (fun σ99 => (∃ j102, x9_333 = nI j102 ∧ (j102 < 60 ∧ (∃ j104, x9_333 = nI j104 ∧ (j104 < 60 ∧ w_L_begin (((mI σ99 7 j102) &&& (7 : Int32)) - (1 : Int32)) ((mI σ99 3 j104) - (1 : Int32)) x9_333 σ99 (fun σ106 => (∃ k110, k110 < n333 ∧ I333 k110 (x9_333 + 1) σ106))))))))))) ∧ ((¬ x87 = 0 → (J398  σ84)) ∧ (x87 = 0 → (∃ j112, (0 : Int32) = nI j112 ∧ (j112 < 3 ∧ (∃ j114, x9_333 = nI j114 ∧ (j114 < 60 ∧ (∀ σ117, σ117 = sI σ84 5 j114 (mI σ84 0 j112) → (J398  σ117)))))))))))) ∧ (x79 = 0 → (∃ k119, k119 < n333 ∧ I333 k119 (x9_333 + 1) σ76)))))))))) ∧ ∃ n, I333 n (0 : Int32) σ_273)))
def lT3 (σ_81 : mS) (Q : mS → Prop) : Prop := (∃ j15, (1 : Int32) = nI j15 ∧ (j15 < 3 ∧ (∃ I273 : Nat → Int32 → mS → Prop, (∀ (n273 : Nat) (x8_273 : Int32) (σ_273 : mS), I273 n273 x8_273 σ_273 → ((x8_273 < 0 → lT4 σ_273 Q) ∧ (¬ x8_273 < 0 → w_L_get x8_273 (3 : Int32) (3 : Int32) σ_273 (fun x123 σ120 => ((¬ x123 = (2 : Int32) → (∃ k126, k126 < n273 ∧ I273 k126 (x8_273 + (-1)) σ120)) ∧ (x123 = (2 : Int32) → w_L_get x8_273 (10 : Int32) (1 : Int32) σ120 (fun x130 σ127 => ((¬ x130 = 0 → (∃ k133, k133 < n273 ∧ I273 k133 (x8_273 + (-1)) σ127)) ∧ (x130 = 0 → w_L_look x8_273 σ127 (fun σ134 => (∃ k138, k138 < n273 ∧ I273 k138 (x8_273 + (-1)) σ134))))))))))) ∧ ∃ n, I273 n ((mI σ_81 0 j15) - (1 : Int32)) σ_81)))
def lT2 (σ_11 : mS) (Q : mS → Prop) : Prop := (∃ I81 : Nat → Int32 → mS → Prop, (∀ (n81 : Nat) (x8_81 : Int32) (σ_81 : mS), I81 n81 x8_81 σ_81 → (∃ j12, (1 : Int32) = nI j12 ∧ (j12 < 3 ∧ (((mI σ_81 0 j12) ≤ x8_81 → lT3 σ_81 Q) ∧ (¬ (mI σ_81 0 j12) ≤ x8_81 → w_L_get x8_81 (3 : Int32) (3 : Int32) σ_81 (fun x142 σ139 => ((¬ x142 = (1 : Int32) → (∃ k145, k145 < n81 ∧ I81 k145 (x8_81 + 1) σ139)) ∧ (x142 = (1 : Int32) → (∃ j146, x8_81 = nI j146 ∧ (j146 < 60 ∧ (∃ j148, (0 : Int32) = nI j148 ∧ (j148 < 3 ∧ (((mI σ139 5 j146) ≤ (mI σ139 0 j148) → (∃ j151, x8_81 = nI j151 ∧ (j151 < 60 ∧ (∃ j154, (((10 : Int32) * ((mI σ139 2 j151) &&& (7 : Int32))) + (2 : Int32)) = nI j154 ∧ (j154 < 60 ∧ (∃ j156, (((10 : Int32) * ((mI σ139 2 j151) &&& (7 : Int32))) + (2 : Int32)) = nI j156 ∧ (j156 < 60 ∧ (∀ σ159, σ159 = sI σ139 1 j156 ((mI σ139 1 j154) + (1 : Int32)) → (∃ j160, (((10 : Int32) * ((mI σ139 2 j151) &&& (7 : Int32))) + (1 : Int32)) = nI j160 ∧ (j160 < 60 ∧ (∃ J193 : mS → Prop, (∀  (σ_193 : mS), J193  σ_193 → (∃ j162, (((10 : Int32) * ((mI σ139 2 j151) &&& (7 : Int32))) + (3 : Int32)) = nI j162 ∧ (j162 < 60 ∧ ((¬ (mI σ_193 1 j162) = 0 → (∃ j165, (((10 : Int32) * ((mI σ139 2 j151) &&& (7 : Int32))) + (3 : Int32)) = nI j165 ∧ (j165 < 60 ∧ (∃ j167, x8_81 = nI j167 ∧ (j167 < 60 ∧ (∀ σ170, σ170 = sI σ_193 7 j167 (mI σ_193 1 j165) → w_L_put x8_81 (3 : Int32) (3 : Int32) (2 : Int32) σ170 (fun σ171 => w_L_put x8_81 (6 : Int32) (12 : Int32) (0 : Int32) σ171 (fun σ174 => w_L_put x8_81 (10 : Int32) (1 : Int32) (1 : Int32) σ174 (fun σ177 => (∃ k181, k181 < n81 ∧ I81 k181 (x8_81 + 1) σ177)))))))))) ∧ ((mI σ_193 1 j162) = 0 → w_L_end x8_81 (3 : Int32) σ_193 (fun σ182 => (∃ k186, k186 < n81 ∧ I81 k186 (x8_81 + 1) σ182))))))) ∧ (((mI σ159 1 j160) ≤ 0 → (J193  σ159)) ∧ (¬ (mI σ159 1 j160) ≤ 0 → (∃ j188, (((10 : Int32) * ((mI σ139 2 j151) &&& (7 : Int32))) + (2 : Int32)) = nI j188 ∧ (j188 < 60 ∧ (∃ j190, (((10 : Int32) * ((mI σ139 2 j151) &&& (7 : Int32))) + (1 : Int32)) = nI j190 ∧ (j190 < 60 ∧ (¬ (mI σ159 1 j190) = 0 ∧ ((¬ ((mI σ159 1 j188) - (mI σ159 1 j188) / (mI σ159 1 j190) * (mI σ159 1 j190)) = 0 → (J193  σ159)) ∧ (((mI σ159 1 j188) - (mI σ159 1 j188) / (mI σ159 1 j190) * (mI σ159 1 j190)) = 0 → w_L_end x8_81 (4 : Int32) σ159 (fun σ194 => (∃ j197, x8_81 = nI j197 ∧ (j197 < 60 ∧ w_L_fault ((mI σ194 2 j197) &&& (7 : Int32)) σ194 (fun σ199 => (∃ k203, k203 < n81 ∧ I81 k203 (x8_81 + 1) σ199))))))))))))))))))))))))) ∧ (¬ (mI σ139 5 j146) ≤ (mI σ139 0 j148) → (∃ k205, k205 < n81 ∧ I81 k205 (x8_81 + 1) σ139))))))))))))))) ∧ ∃ n, I81 n (0 : Int32) σ_11)
def lT1 (σ6 : mS) (Q : mS → Prop) : Prop := (∃ I11 : Nat → Int32 → mS → Prop, (∀ (n11 : Nat) (x8_11 : Int32) (σ_11 : mS), I11 n11 x8_11 σ_11 → (∃ j8, (1 : Int32) = nI j8 ∧ (j8 < 3 ∧ (((mI σ_11 0 j8) ≤ x8_11 → lT2 σ_11 Q) ∧ (¬ (mI σ_11 0 j8) ≤ x8_11 → w_L_get x8_11 (3 : Int32) (3 : Int32) σ_11 (fun x209 σ206 => (((2 : Int32) < x209 → (∃ k212, k212 < n11 ∧ I11 k212 (x8_11 + 1) σ206)) ∧ (¬ (2 : Int32) < x209 → (∃ j213, x8_11 = nI j213 ∧ (j213 < 60 ∧ (∃ j215, (0 : Int32) = nI j215 ∧ (j215 < 3 ∧ (((mI σ206 3 j213) ≤ (mI σ206 0 j215) → w_L_end x8_11 (5 : Int32) σ206 (fun σ218 => (∃ j221, x8_11 = nI j221 ∧ (j221 < 60 ∧ w_L_fault ((mI σ218 2 j221) &&& (7 : Int32)) σ218 (fun σ223 => (∃ k227, k227 < n11 ∧ I11 k227 (x8_11 + 1) σ223)))))) ∧ (¬ (mI σ206 3 j213) ≤ (mI σ206 0 j215) → (∃ k229, k229 < n11 ∧ I11 k229 (x8_11 + 1) σ206))))))))))))))) ∧ ∃ n, I11 n (0 : Int32) σ6)
theorem l_now {τ μ : mS} {n : Nat} {F : Nat → Nat → Nat} {δ : Nat → Nat} (P : PL τ μ n F δ) : mI τ 0 0 = mI μ 0 1 ∧ mI τ 0 1 = nI n ∧ n < 60 := ⟨P.1.2.1, P.1.2.2.1, P.1.2.2.2.2.1⟩
theorem l_open {τ μ : mS} {n c : Nat} {F : Nat → Nat → Nat} {δ : Nat → Nat} (P : PL τ μ n F δ) (hc : c < n) : (mI μ 15 c < 3 ↔ F c 1 < 3) ∧ (∀ k, k < 8 → (mI μ 15 c = nI k ↔ F c 1 = k)) := by
  obtain ⟨hx, ha, c12, c15, -⟩ := P.2.2 c hc
  unfold aBd at hx
  rw [c15]
  exact ⟨i_lt3 (by omega), fun k hk => ⟨fun q => i_inj (by omega) (by omega) q, fun q => by rw [q]⟩⟩
theorem l_qS {τ μ : mS} {n c : Nat} {F : Nat → Nat → Nat} {δ : Nat → Nat} (P : PL τ μ n F δ) (hc : c < n) : qS μ c = F c 0 ∧ F c 0 < 6 := by
  obtain ⟨hx, ha, c12, c15, -⟩ := P.2.2 c hc
  unfold aBd at hx
  exact ⟨qS_e c12 (by omega), by omega⟩
/-- what is late -/
theorem l_T1 {τ μ : mS} {n : Nat} {F : Nat → Nat → Nat} {Q : mS → Prop} (hM : wM μ n) (P : PL τ μ n F d0) (hQ : ∀ τ' F', PL τ' (upL eLate n 0 μ) n F' d0 → lT2 τ' Q) : lT1 τ Q := by
  unfold lT1
  refine ⟨fun m y τ' => ∃ d μ' F', y = nI d ∧ d ≤ n ∧ m = n - d ∧ PL τ' μ' n F' d0 ∧ wM μ' n ∧ upL eLate (n - d) d μ' = upL eLate n 0 μ, ?_, n, 0, μ, F, rfl, by omega, by omega, P, hM, rfl⟩
  rintro m y τ' ⟨d, μ', F', hy, hd, hm, P', hM', e1⟩
  rw [hy, hm]
  obtain ⟨k0, k1, kn⟩ := l_now P'
  refine ⟨1, rfl, by decide, ?_⟩
  rw [k1]
  refine ⟨fun hl => ?_, fun hl => ?_⟩
  · have h1 : n ≤ d := (nI_leI (by omega) (by omega)).mp hl
    rw [show n - d = 0 by omega] at e1
    have e1 : μ' = _ := e1
    exact hQ τ' F' (by rw [← e1]; exact P')
  · have h1 : d < n := Nat.not_le.mp fun q => hl ((nI_leI (by omega) (by omega)).mpr q)
    rw [upL_s h1] at e1
    obtain ⟨hx, ha, c12, c15, c19, r3, r4, -⟩ := P'.2.2 d h1
    have hx' := id hx
    unfold aBd at hx'
    obtain ⟨ho, -⟩ := l_open P' h1
    have keep : ¬ (mI μ' 15 d < 3 ∧ ¬ mI μ' 0 1 < mI μ' 13 d) → ∃ k, k < n - d ∧ ∃ d' μ2 F2, nI d + 1 = nI d' ∧ d' ≤ n ∧ k = n - d' ∧ PL τ' μ2 n F2 d0 ∧ wM μ2 n ∧ upL eLate (n - d') d' μ2 = upL eLate n 0 μ := fun hne => by
      rw [show eLate μ' d = μ' from if_neg hne] at e1
      exact ⟨n - (d + 1), by omega, d + 1, μ', F', nI_1 d, by omega, rfl, P', hM', e1⟩
    refine q_get1 (by omega) hx ha ⟨fun h2 => keep (fun q => ?_), fun h2 => ⟨d, rfl, by omega, 0, rfl, by decide, ?_⟩⟩
    · have h3 := (i_2lt (by omega)).mp h2
      have := ho.mp q.1
      omega
    · have hop : mI μ' 15 d < 3 := ho.mpr (by have : ¬ 2 < F' d 1 := fun q => h2 ((i_2lt (by omega)).mpr q); omega)
      rw [r3, k0]
      refine ⟨fun hle => ?_, fun hle => keep (fun q => q.2 (Int32.not_le.mp hle))⟩
      refine l_end (w := 5) hM' P' h1 hop (by decide) (by decide) (fun τ2 F2 P2 => ⟨d, rfl, by omega, ?_⟩)
      obtain ⟨hx2, ha2, -⟩ := P2.2.2 d h1
      obtain ⟨hs1, hs2⟩ := l_qS P2 h1
      rw [ha2, l_low3 hx2]
      have hM2 : wM (eFin μ' d 5) n := wM_fin hM' h1 (by decide) (by decide)
      refine l_fault hM2 P2 hs2 (fun τ3 P3 => ⟨n - (d + 1), by omega, d + 1, _, F2, nI_1 d, by omega, rfl, P3, wM_trb hM2 hs2, ?_⟩)
      rw [show eLate μ' d = eTrb (eFin μ' d 5) (qS (eFin μ' d 5) d) from if_pos ⟨hop, Int32.not_lt.mpr hle⟩, hs1] at e1
      exact e1
theorem up_ask_bd {x : Nat → Nat} (h : aBd x) : aBd (upx (up0 (upx x 1 2) 2 7) 4 1) := by
  unfold aBd at *
  simp [upx, up0]
  omega
/-- a call asks now -/
theorem pl_ask {τ τ' μ : mS} {n c s : Nat} {F : Nat → Nat → Nat} (hM : wM μ n) (P : PL τ μ n F d0) (hc : c < n) (h1 : mI μ 15 c = 1) (hs : s < 6) (hsv : mI μ 12 c = nI s) (ha0 : mI μ 4 s ≠ 0) (hN : mN τ' = 8) (ht : ∀ j k, ¬ ((j = 2 ∨ j = 7) ∧ k = c) → mI τ' j k = mI τ j k) (h2 : mI τ' 2 c = nI (aw (upx (up0 (upx (F c) 1 2) 2 7) 4 1))) (h7 : mI τ' 7 c = mI τ 1 (10 * s + 3)) : PL τ' (eAsk μ c) n (fun d => if d = c then upx (up0 (upx (F c) 1 2) 2 7) 4 1 else F d) d0 := by
  obtain ⟨hx, ha, c12, c15, c19, r3, r4, r6, r5, hb, hq⟩ := P.2.2 c hc
  obtain ⟨-, ⟨a, f, a1, a2, a3, a4⟩, -⟩ := P.2.1 s hs
  obtain ⟨m15, m21, m22, m23, m24⟩ := eAsk_x (μ := μ) (c := c)
  have hm : ∀ x y, ¬ (y = c ∧ (x = 15 ∨ x = 16 ∨ x = 21 ∨ x = 22 ∨ x = 23 ∨ x = 24)) → ¬ (x = 20 ∧ 3 * c ≤ y ∧ y < 3 * c + 3) → mI (eAsk μ c) x y = mI μ x y := fun x y q1 q2 => eAsk_o (by omega) q2
  have hqs := qS_e hsv hs
  have hno : ∀ d, d < n → mI μ 14 d ≠ nI c := hM.2.2.2.2.2.2.2 c hc (by rw [h1]; decide)
  have hnt : ∀ d, d < n → ¬ qTry (eAsk μ c) c d := fun d hd q => hno d hd (by have := q.1; rw [hm _ _ (by omega) (by omega)] at this; exact this)
  refine pl_st P hc (by rw [h1]; decide) (by rw [m15]; decide) (fun x y q1 q2 => hm x y (by omega) q2) hN (fun j k q => ht j k (by omega)) ⟨up_ask_bd hx, h2, by rw [hm _ _ (by omega) (by omega)]; exact c12, by rw [m15]; rfl, fun p hp h14 => by rw [hm _ _ (by omega) (by omega)] at h14 ⊢; exact c19 p hp h14, by rw [ht _ _ (by omega), hm _ _ (by omega) (by omega)]; exact r3, by rw [ht _ _ (by omega), hm _ _ (by omega) (by omega)]; exact r4, by rw [ht _ _ (by omega), hm _ _ (by omega) (by omega)]; exact r6, fun q => absurd (show (2 : Nat) = 1 from q) (by decide), by rw [hm _ _ (by omega) (by omega)]; exact hb, fun _ _ => ⟨m22, m23, m24, ?_, ?_, ?_, ?_, fun h5 => absurd (show (0 : Nat) = 1 from h5) (by decide), a, f, a1, ?_, by rw [m21, hqs]; exact a2, fun j hj => ⟨(a3 j hj).1, by rw [eAsk_20 (by omega), hqs]; exact (a3 j hj).2⟩, by rw [h7, a4]; rfl⟩⟩
  · show 0 = cnt n (fT (eAsk μ c) c) + 0
    rw [cnt_zero (fun d hd => decide_eq_false (hnt d hd))]
  · show 0 = cnt n (fO (eAsk μ c) c) + 0
    rw [cnt_zero (fun d hd => decide_eq_false (fun q => hno d hd (by have := q.1; rw [hm _ _ (by omega) (by omega)] at this; exact this)))]
  · exact ⟨fun _ d hd hqd => absurd hqd (hnt d hd), fun _ => rfl⟩
  · show 0 + 1 ≤ 0 + 2 ∧ 0 ≤ 2
    omega
  · show 0 < a
    refine Nat.pos_of_ne_zero fun q => ha0 ?_
    rw [a2, q]; rfl
/-- works that are done -/
theorem l_T2 {τ μ : mS} {n : Nat} {F : Nat → Nat → Nat} {Q : mS → Prop} (hM : wM μ n) (P : PL τ μ n F d0) (hQ : ∀ τ' F', PL τ' (upL eWork n 0 μ) n F' d0 → lT3 τ' Q) : lT2 τ Q := by
  unfold lT2
  refine ⟨fun m y τ' => ∃ d μ' F', y = nI d ∧ d ≤ n ∧ m = n - d ∧ PL τ' μ' n F' d0 ∧ wM μ' n ∧ upL eWork (n - d) d μ' = upL eWork n 0 μ, ?_, n, 0, μ, F, rfl, by omega, by omega, P, hM, rfl⟩
  rintro m y τ' ⟨d, μ', F', hy, hd, hm, P', hM', e1⟩
  rw [hy, hm]
  obtain ⟨k0, k1, kn⟩ := l_now P'
  refine ⟨1, rfl, by decide, ?_⟩
  rw [k1]
  refine ⟨fun hl => ?_, fun hl => ?_⟩
  · have h1 : n ≤ d := (nI_leI (by omega) (by omega)).mp hl
    rw [show n - d = 0 by omega] at e1
    have e1 : μ' = _ := e1
    exact hQ τ' F' (by rw [← e1]; exact P')
  · have h1 : d < n := Nat.not_le.mp fun q => hl ((nI_leI (by omega) (by omega)).mpr q)
    rw [upL_s h1] at e1
    have hMd : wM (eWork μ' d) n := wM_work hM' h1
    obtain ⟨hx, ha, c12, c15, c19, r3, r4, r6, r5, hb, -⟩ := P'.2.2 d h1
    have hx' := id hx
    unfold aBd at hx'
    obtain ⟨ho, hst⟩ := l_open P' h1
    obtain ⟨hs1, hs2⟩ := l_qS P' h1
    have keep : ¬ (mI μ' 15 d = 1 ∧ ¬ mI μ' 0 1 < mI μ' 16 d) → ∃ k, k < n - d ∧ ∃ d' μ2 F2, nI d + 1 = nI d' ∧ d' ≤ n ∧ k = n - d' ∧ PL τ' μ2 n F2 d0 ∧ wM μ2 n ∧ upL eWork (n - d') d' μ2 = upL eWork n 0 μ := fun hne => by
      rw [show eWork μ' d = μ' from if_neg hne] at e1
      exact ⟨n - (d + 1), by omega, d + 1, μ', F', nI_1 d, by omega, rfl, P', hM', e1⟩
    refine q_get1 (by omega) hx ha ⟨fun h2 => keep (fun q => h2 ?_), fun h2 => ⟨d, rfl, by omega, 0, rfl, by decide, ?_⟩⟩
    · rw [(hst 1 (by decide)).mp q.1]; rfl
    · have h11 : F' d 1 = 1 := i_inj (b := 1) (by omega) (by omega) h2
      have h15 : mI μ' 15 d = 1 := (hst 1 (by decide)).mpr h11
      rw [r5 h11, k0]
      refine ⟨fun hle => ?_, fun hle => keep (fun q => q.2 (Int32.not_le.mp hle))⟩
      have ew : eWork μ' d = eWk2 (eWk1 μ' (F' d 0)) d (F' d 0) := by rw [← hs1]; exact if_pos ⟨h15, Int32.not_lt.mpr hle⟩
      rw [ew] at e1 hMd
      obtain ⟨⟨w1, w2, w3⟩, ⟨a, f, a1, a2, a3, a4⟩, v0, v1, v2, v4, v5, v6, v7, v8, v9⟩ := P'.2.1 _ hs2
      have hsv : ∀ j, (10 : Int32) * (mI τ' 2 d &&& 7) + nI j = nI (10 * F' d 0 + j) := fun j => by rw [ha, l_low3 hx, n10]
      refine ⟨d, rfl, by omega, 10 * F' d 0 + 2, hsv 2, by omega, 10 * F' d 0 + 2, hsv 2, by omega, ?_⟩
      intro σ159 h159
      have a159 : mI σ159 2 d = nI (aw (F' d)) := by rw [h159, oI (by omega)]; exact ha
      have P1 : PL σ159 (eWk1 μ' (F' d 0)) n F' d0 := by
        refine pl_svc P' hs2 (by rw [h159]; exact P'.1.1) (fun j k hjk => by rw [h159, oI (by omega)]) (fun x y q => eWk1_o (by omega)) ?_
        rw [h159]
        unfold eWk1
        simp (disch := omega) only [pS, oI, nIi]
        exact ⟨⟨w1, w2, w3⟩, ⟨a, f, a1, a2, a3, a4⟩, v0, v1, by rw [v2], v4, v5, v6, v7, v8, v9⟩
      have hM1 : wM (eWk1 μ' (F' d 0)) n := wM_wk1 hM'
      have x2 : mI σ159 1 (10 * F' d 0 + 1) = mI (eWk1 μ' (F' d 0)) 2 (F' d 0) := (P1.2.1 _ hs2).2.2.2.1
      have x3 : mI σ159 1 (10 * F' d 0 + 2) = mI (eWk1 μ' (F' d 0)) 3 (F' d 0) := (P1.2.1 _ hs2).2.2.2.2.1
      have x4 : mI (eWk1 μ' (F' d 0)) 4 (F' d 0) = nI a := by rw [eWk1_o (by omega)]; exact a2
      have x43 : mI σ159 1 (10 * F' d 0 + 3) = nI (rwv f a 0) := by rw [h159, oI (by omega)]; exact a4
      have h15b : mI (eWk1 μ' (F' d 0)) 15 d = 1 := by rw [eWk1_o (by omega)]; exact h15
      have h12b : mI (eWk1 μ' (F' d 0)) 12 d = nI (F' d 0) := by rw [eWk1_o (by omega)]; exact c12
      have hlt := rwv_lt (f := f) a 0 (fun i q1 q2 => (a3 i (by omega)).1)
      have h83 : (8 : Nat) ^ a ≤ 8 ^ 3 := Nat.pow_le_pow_right (by decide) a1
      have h84 : (8 : Nat) ^ 3 = 512 := by decide
      refine ⟨10 * F' d 0 + 1, hsv 1, by omega, fun σ => σ = σ159 ∧ ¬ eFails (eWk1 μ' (F' d 0)) (F' d 0), fun σ hσ => ?_, fun hn => ⟨rfl, fun q => q.1 (by rw [← x2]; exact hn)⟩, fun hn => ⟨10 * F' d 0 + 2, hsv 2, by omega, 10 * F' d 0 + 1, hsv 1, by omega, fun q => hn (by rw [q]; decide), fun hr => ⟨rfl, fun q => hr ?_⟩, fun hr => ?_⟩⟩
      · obtain ⟨hσ1, hnf⟩ := hσ
        rw [hσ1]
        unfold eWk2 at e1 hMd
        rw [if_neg hnf] at e1 hMd
        refine ⟨10 * F' d 0 + 3, hsv 3, by omega, ?_⟩
        rw [x43]
        refine ⟨fun hne => ?_, fun he => ?_⟩
        · have ha0 : mI (eWk1 μ' (F' d 0)) 4 (F' d 0) ≠ 0 := fun q => hne (by rw [x4] at q; have := i_inj (b := 0) (by omega) (by omega) q; rw [this]; rfl)
          rw [if_neg ha0] at e1 hMd
          refine ⟨10 * F' d 0 + 3, hsv 3, by omega, d, rfl, by omega, ?_⟩
          intro σ170 h170
          have a170 : mI σ170 2 d = nI (aw (F' d)) := by rw [h170, oI (by omega)]; exact a159
          have bx1 : aBd (upx (F' d) 1 2) := aBd_1 hx (by decide)
          have bx2 : aBd (up0 (upx (F' d) 1 2) 2 7) := by unfold aBd; simp [upx, up0]; omega
          refine q_put1 (v := 2) (by omega) hx a170 (by decide) (q_put0_2 (x := upx (F' d) 1 2) (by omega) bx1 nIi (q_put4 (v := 1) (x := up0 (upx (F' d) 1 2) 2 7) (by omega) bx2 nIi (by decide) ⟨n - (d + 1), by omega, d + 1, _, _, nI_1 d, by omega, rfl, pl_ask hM1 P1 h1 h15b hs2 h12b ha0 (by rw [h170]; exact P1.1.1) (fun j k q => ?_) nIi ?_, hMd, e1⟩))
          · rw [oI (by omega), oI (by omega), oI (by omega), h170, oI (by omega)]
          · rw [oI (by omega), oI (by omega), oI (by omega), h170, nIi]
        · have ha0 : mI (eWk1 μ' (F' d 0)) 4 (F' d 0) = 0 := by
            rw [x4, rwv_0.mp (i_inj (b := 0) (by omega) (by omega) he)]; rfl
          rw [if_pos ha0] at e1 hMd
          exact l_end (w := 3) hM1 P1 h1 (by rw [h15b]; decide) (by decide) (by decide) (fun τ2 F2 P2 => ⟨n - (d + 1), by omega, d + 1, _, F2, nI_1 d, by omega, rfl, P2, hMd, e1⟩)
      · rw [x2, x3]; exact q.2
      · have hf : eFails (eWk1 μ' (F' d 0)) (F' d 0) := ⟨by rw [← x2]; exact hn, by rw [← x2, ← x3]; exact hr⟩
        unfold eWk2 at e1 hMd
        rw [if_pos hf] at e1 hMd
        refine l_end (w := 4) hM1 P1 h1 (by rw [h15b]; decide) (by decide) (by decide) (fun τ2 F2 P2 => ⟨d, rfl, by omega, ?_⟩)
        obtain ⟨hx2, ha2, c122, -⟩ := P2.2.2 d h1
        have hF0 : F2 d 0 = F' d 0 := i_inj (by unfold aBd at hx2; omega) (by omega) (c122.symm.trans (by rw [eFin_o (by omega) (by omega) (by omega) (by omega)]; exact h12b))
        rw [ha2, l_low3 hx2, hF0]
        exact l_fault (wM_fin hM1 h1 (by decide) (by decide)) P2 hs2 (fun τ3 P3 => ⟨n - (d + 1), by omega, d + 1, _, F2, nI_1 d, by omega, rfl, P3, hMd, e1⟩)
/-- those that ask are looked at, the newest first -/
theorem l_T3 {τ μ : mS} {n : Nat} {F : Nat → Nat → Nat} {Q : mS → Prop} (hM : wM μ n) (P : PL τ μ n F d0) (hQ : ∀ τ' F', PL τ' (dnL eJdg n μ) n F' d0 → lT4 τ' Q) : lT3 τ Q := by
  obtain ⟨j0, j1, jn⟩ := l_now P
  unfold lT3
  refine ⟨1, rfl, by decide, fun m y τ' => ∃ d μ' F', y = nI d - 1 ∧ d ≤ n ∧ m = d ∧ PL τ' μ' n F' d0 ∧ wM μ' n ∧ dnL eJdg d μ' = dnL eJdg n μ, ?_, n, n, μ, F, by rw [j1], Nat.le_refl _, rfl, P, hM, rfl⟩
  rintro m y τ' ⟨d, μ', F', hy, hd, hm, P', hM', e1⟩
  rw [hy, hm]
  cases d with
  | zero =>
    have e1 : μ' = dnL eJdg n μ := e1
    exact ⟨fun _ => hQ τ' F' (by rw [← e1]; exact P'), fun q => absurd (by decide) q⟩
  | succ d =>
    rw [show nI (d + 1) - 1 = nI d from nI_pred d]
    have h1 : d < n := by omega
    have e1 : dnL eJdg d (eJdg μ' d) = dnL eJdg n μ := e1
    obtain ⟨hx, ha, c12, c15, c19, r3, r4, r6, r5, hb, hq⟩ := P'.2.2 d h1
    have hx' := id hx
    unfold aBd at hx'
    obtain ⟨ho, hst⟩ := l_open P' h1
    have nx : nI d + (-1) = nI d - 1 := by rw [Int32.sub_eq_add_neg]
    have keep : ¬ (mI μ' 15 d = 2 ∧ mI μ' 24 d = 0) → ∃ k, k < d + 1 ∧ ∃ d' μ2 F2, nI d + (-1) = nI d' - 1 ∧ d' ≤ n ∧ k = d' ∧ PL τ' μ2 n F2 d0 ∧ wM μ2 n ∧ dnL eJdg d' μ2 = dnL eJdg n μ := fun hne => by
      rw [show eJdg μ' d = μ' from if_neg hne] at e1
      exact ⟨d, by omega, d, μ', F', nx, by omega, rfl, P', hM', e1⟩
    refine ⟨fun q => absurd q (nI_pos (by omega)), fun _ => q_get1 (by omega) hx ha ⟨fun h2 => keep (fun q => h2 ?_), fun h2 => q_get4 (by omega) hx ha ⟨fun h3 => keep (fun q => h3 ?_), fun h3 => ?_⟩⟩⟩
    · rw [(hst 2 (by decide)).mp q.1]; rfl
    · have h12 : F' d 1 = 2 := i_inj (b := 2) (by omega) (by omega) h2
      exact ((hq h12 (show (0 : Nat) ≠ 2 by decide)).2.2.1).symm.trans q.2
    · have h12 : F' d 1 = 2 := i_inj (b := 2) (by omega) (by omega) h2
      have h15 : mI μ' 15 d = 2 := (hst 2 (by decide)).mpr h12
      have h24 : mI μ' 24 d = 0 := ((hq h12 (show (0 : Nat) ≠ 2 by decide)).2.2.1).trans h3
      refine l_look hM' P' h1 h15 h24 (fun τ2 F2 P2 => ⟨d, by omega, d, _, F2, nx, by omega, rfl, P2, wM_look hM' h1 h15, ?_⟩)
      rw [show eJdg μ' d = eLook μ' d from if_pos ⟨h15, h24⟩] at e1
      exact e1
