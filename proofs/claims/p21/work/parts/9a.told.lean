/-! all that the law asks the class, between two turns -/
def lTail (u : Nat) (σ τ : mS) (b : Nat) (Q : Int32 → mS → mS → Prop) : Prop := (mRok kdC σ ∧ w_X2_time  σ (fun x15 σ17 => (mN σ ≤ mN σ17 ∧ (∃ j18, (0 : Int32) = nI j18 ∧ (j18 < 3 ∧ ((¬ x15 = (mI τ 0 j18) → (Q (0 : Int32) σ17 τ)) ∧ (x15 = (mI τ 0 j18) → (mRok kdC σ17 ∧ w_X2_calls  σ17 (fun x23 σ25 => (mN σ17 ≤ mN σ25 ∧ (∃ j26, (1 : Int32) = nI j26 ∧ (j26 < 3 ∧ ((¬ x23 = (mI τ 0 j26) → (Q (0 : Int32) σ25 τ)) ∧ (x23 = (mI τ 0 j26) → (∃ j29, (1 : Int32) = nI j29 ∧ (j29 < 3 ∧ (mRok kdC σ25 ∧ (∃ k36, u + k36 ≤ b ∧ w_L_state (mI τ 0 j29) σ25 k36 (fun x33 σ35 => (mN σ25 ≤ mN σ35 ∧ ((¬ x33 = (-71 : Int32) → (Q (0 : Int32) σ35 τ)) ∧ (x33 = (-71 : Int32) → (mRok kdC σ35 ∧ (∃ k43, (u + k36) + k43 ≤ b ∧ w_L_state (-1 : Int32) σ35 k43 (fun x40 σ42 => (mN σ35 ≤ mN σ42 ∧ ((¬ x40 = (-71 : Int32) → (Q (0 : Int32) σ42 τ)) ∧ (x40 = (-71 : Int32) → (∃ j45, (1 : Int32) = nI j45 ∧ (j45 < 3 ∧ (mRok kdC σ42 ∧ (∃ k52, ((u + k36) + k43) + k52 ≤ b ∧ w_L_place (mI τ 0 j45) σ42 k52 (fun x49 σ51 => (mN σ42 ≤ mN σ51 ∧ ((¬ x49 = (-71 : Int32) → (Q (0 : Int32) σ51 τ)) ∧ (x49 = (-71 : Int32) → (mRok kdC σ51 ∧ (∃ k59, (((u + k36) + k43) + k52) + k59 ≤ b ∧ w_L_queuedAt (6 : Int32) (0 : Int32) σ51 k59 (fun x56 σ58 => (mN σ51 ≤ mN σ58 ∧ ((¬ x56 = (-71 : Int32) → (Q (0 : Int32) σ58 τ)) ∧ (x56 = (-71 : Int32) → (mRok kdC σ58 ∧ (∃ k66, ((((u + k36) + k43) + k52) + k59) + k66 ≤ b ∧ w_L_queuedAt (0 : Int32) (-1 : Int32) σ58 k66 (fun x63 σ65 => (mN σ58 ≤ mN σ65 ∧ ((¬ x63 = (-71 : Int32) → (Q (0 : Int32) σ65 τ)) ∧ (x63 = (-71 : Int32) → (mRok kdC σ65 ∧ (∃ k73, (((((u + k36) + k43) + k52) + k59) + k66) + k73 ≤ b ∧ w_L_count (6 : Int32) (8 : Int32) σ65 k73 (fun x70 σ72 => (mN σ65 ≤ mN σ72 ∧ ((¬ x70 = (-71 : Int32) → (Q (0 : Int32) σ72 τ)) ∧ (x70 = (-71 : Int32) → (mRok kdC σ72 ∧ (∃ k80, ((((((u + k36) + k43) + k52) + k59) + k66) + k73) + k80 ≤ b ∧ w_L_count (0 : Int32) (8 : Int32) σ72 k80 (fun x77 σ79 => (mN σ72 ≤ mN σ79 ∧ ((¬ x77 = (-72 : Int32) → (Q (0 : Int32) σ79 τ)) ∧ (x77 = (-72 : Int32) → (mRok kdC σ79 ∧ (∃ k87, (((((((u + k36) + k43) + k52) + k59) + k66) + k73) + k80) + k87 ≤ b ∧ w_L_count (0 : Int32) (-1 : Int32) σ79 k87 (fun x84 σ86 => (mN σ79 ≤ mN σ86 ∧ ((¬ x84 = (-72 : Int32) → (Q (0 : Int32) σ86 τ)) ∧ (x84 = (-72 : Int32) → (mRok kdC σ86 ∧ (∃ k94, ((((((((u + k36) + k43) + k52) + k59) + k66) + k73) + k80) + k87) + k94 ≤ b ∧ w_L_tokens (6 : Int32) σ86 k94 (fun x91 σ93 => (mN σ86 ≤ mN σ93 ∧ ((¬ x91 = (-71 : Int32) → (Q (0 : Int32) σ93 τ)) ∧ (x91 = (-71 : Int32) → (∃ j96, (1 : Int32) = nI j96 ∧ (j96 < 3 ∧ (mRok kdC σ93 ∧ (∃ k103, (((((((((u + k36) + k43) + k52) + k59) + k66) + k73) + k80) + k87) + k94) + k103 ≤ b ∧ w_L_cancel (mI τ 0 j96) σ93 k103 (fun x100 σ102 => (mN σ93 ≤ mN σ102 ∧ ((¬ x100 = (-71 : Int32) → (Q (0 : Int32) σ102 τ)) ∧ (x100 = (-71 : Int32) → (mRok kdC σ102 ∧ (∃ k110, ((((((((((u + k36) + k43) + k52) + k59) + k66) + k73) + k80) + k87) + k94) + k103) + k110 ≤ b ∧ w_L_cancel (-1 : Int32) σ102 k110 (fun x107 σ109 => (mN σ102 ≤ mN σ109 ∧ ((¬ x107 = (-71 : Int32) → (Q (0 : Int32) σ109 τ)) ∧ (x107 = (-71 : Int32) → (mRok kdC σ109 ∧ (∃ k117, (((((((((((u + k36) + k43) + k52) + k59) + k66) + k73) + k80) + k87) + k94) + k103) + k110) + k117 ≤ b ∧ w_L_pass (0 : Int32) σ109 k117 (fun x114 σ116 => (mN σ109 ≤ mN σ116 ∧ ((¬ x114 = (-72 : Int32) → (Q (0 : Int32) σ116 τ)) ∧ (x114 = (-72 : Int32) → (mRok kdC σ116 ∧ (∃ k124, ((((((((((((u + k36) + k43) + k52) + k59) + k66) + k73) + k80) + k87) + k94) + k103) + k110) + k117) + k124 ≤ b ∧ w_L_pass (101 : Int32) σ116 k124 (fun x121 σ123 => (mN σ116 ≤ mN σ123 ∧ ((¬ x121 = (-72 : Int32) → (Q (0 : Int32) σ123 τ)) ∧ (x121 = (-72 : Int32) → (mRok kdC σ123 ∧ (∃ k131, (((((((((((((u + k36) + k43) + k52) + k59) + k66) + k73) + k80) + k87) + k94) + k103) + k110) + k117) + k124) + k131 ≤ b ∧ w_L_call (6 : Int32) (0 : Int32) σ123 k131 (fun x128 σ130 => (mN σ123 ≤ mN σ130 ∧ ((¬ x128 = (-71 : Int32) → (Q (0 : Int32) σ130 τ)) ∧ (x128 = (-71 : Int32) → (mRok kdC σ130 ∧ (∃ k138, ((((((((((((((u + k36) + k43) + k52) + k59) + k66) + k73) + k80) + k87) + k94) + k103) + k110) + k117) + k124) + k131) + k138 ≤ b ∧ w_L_call (0 : Int32) (0 : Int32) σ130 k138 (fun x135 σ137 => (mN σ130 ≤ mN σ137 ∧ ((¬ x135 = (-72 : Int32) → (Q (0 : Int32) σ137 τ)) ∧ (x135 = (-72 : Int32) → (mRok kdC σ137 ∧ (∃ k145, (((((((((((((((u + k36) + k43) + k52) + k59) + k66) + k73) + k80) + k87) + k94) + k103) + k110) + k117) + k124) + k131) + k138) + k145 ≤ b ∧ w_L_call (0 : Int32) (101 : Int32) σ137 k145 (fun x142 σ144 => (mN σ137 ≤ mN σ144 ∧ ((¬ x142 = (-72 : Int32) → (Q (0 : Int32) σ144 τ)) ∧ (x142 = (-72 : Int32) → (Q (1 : Int32) σ144 τ)))))))))))))))))))))))))))))))))))))))))))))))))))))))))))))))))))))))))))))))))))))))))))))))))))))))))))))))))))))
def lSv (y1 : Int32) (u : Nat) (σ τ : mS) (b : Nat) (Q : Int32 → mS → mS → Prop) : Prop := (∃ I177 : Nat → Int32 → Nat → mS → mS → Prop, (∀ (n177 : Nat) (x9_177 : Int32) (u_177 : Nat) (σ_177 τ_177 : mS), I177 n177 x9_177 u_177 σ_177 τ_177 → (((6 : Int32) ≤ x9_177 → lTail u_177 σ_177 τ_177 b Q) ∧ (¬ (6 : Int32) ≤ x9_177 → (mRok kdC σ_177 ∧ (∃ k152, u_177 + k152 ≤ b ∧ w_L_tokens x9_177 σ_177 k152 (fun x149 σ151 => (mN σ_177 ≤ mN σ151 ∧ (∃ j153, (((10 : Int32) * x9_177) + (7 : Int32)) = nI j153 ∧ (j153 < 60 ∧ ((¬ x149 = (mI τ_177 1 j153) → (Q (0 : Int32) σ151 τ_177)) ∧ (x149 = (mI τ_177 1 j153) → (mRok kdC σ151 ∧ (∃ k161, (u_177 + k152) + k161 ≤ b ∧ w_X2_isOpen x9_177 σ151 k161 (fun x158 σ160 => (mN σ151 ≤ mN σ160 ∧ (∃ j162, (0 : Int32) = nI j162 ∧ (j162 < 3 ∧ (∃ j164, (((10 : Int32) * x9_177) + (9 : Int32)) = nI j164 ∧ (j164 < 60 ∧ (∃ J231 : Int32 → Nat → mS → mS → Prop, (∀ (xk0_231 : Int32) (u_231 : Nat) (σ_231 τ_231 : mS), J231 xk0_231 u_231 σ_231 τ_231 → ((x158 = xk0_231 → w_L_low (y1 >>> (x9_177 &&& 31)) (8 : Int32) τ_231 (fun x169 τ170 => (mN τ170 = 8 ∧ (mRok kdC σ_231 ∧ (∃ k177, u_231 + k177 ≤ b ∧ w_L_count x9_177 x169 σ_231 k177 (fun x174 σ176 => (mN σ_231 ≤ mN σ176 ∧ w_L_many x9_177 x169 τ170 (fun x180 τ181 => (mN τ181 = 8 ∧ ((x174 = x180 → (∃ I276 : Nat → Int32 → Int32 → Nat → mS → mS → Prop, (∀ (n276 : Nat) (x11_276 : Int32) (x12_276 : Int32) (u_276 : Nat) (σ_276 τ_276 : mS), I276 n276 x11_276 x12_276 u_276 σ_276 τ_276 → (∃ j185, (1 : Int32) = nI j185 ∧ (j185 < 3 ∧ (((mI τ_276 0 j185) ≤ x12_276 → (mRok kdC σ_276 ∧ (∃ k193, u_276 + k193 ≤ b ∧ w_L_queuedAt x9_177 x11_276 σ_276 k193 (fun x190 σ192 => (mN σ_276 ≤ mN σ192 ∧ ((x190 = (-71 : Int32) → (∃ k196, k196 < n177 ∧ I177 k196 (x9_177 + 1) (u_276 + k193) σ192 τ_276)) ∧ (¬ x190 = (-71 : Int32) → (Q (0 : Int32) σ192 τ_276)))))))) ∧ (¬ (mI τ_276 0 j185) ≤ x12_276 → (∃ j197, x12_276 = nI j197 ∧ (j197 < 60 ∧ ((((mI τ_276 2 j197) &&& (63 : Int32)) = x9_177 → (mRok kdC σ_276 ∧ (∃ k205, u_276 + k205 ≤ b ∧ w_L_queuedAt x9_177 x11_276 σ_276 k205 (fun x202 σ204 => (mN σ_276 ≤ mN σ204 ∧ ((x202 = x12_276 → (∃ k209, k209 < n276 ∧ I276 k209 (x11_276 + 1) (x12_276 + 1) (u_276 + k205) σ204 τ_276)) ∧ (¬ x202 = x12_276 → (Q (0 : Int32) σ204 τ_276)))))))) ∧ (¬ ((mI τ_276 2 j197) &&& (63 : Int32)) = x9_177 → (∃ k211, k211 < n276 ∧ I276 k211 x11_276 (x12_276 + 1) u_276 σ_276 τ_276)))))))))) ∧ ∃ n, I276 n (0 : Int32) (0 : Int32) (u_231 + k177) σ176 τ181)) ∧ (¬ x174 = x180 → (Q (0 : Int32) σ176 τ181)))))))))))) ∧ (¬ x158 = xk0_231 → (Q (0 : Int32) σ_231 τ_231)))) ∧ (((mI τ_177 1 j164) ≤ (mI τ_177 0 j162) → (J231 (0 : Int32) ((u_177 + k152) + k161) σ160 τ_177)) ∧ (¬ (mI τ_177 1 j164) ≤ (mI τ_177 0 j162) → (J231 (1 : Int32) ((u_177 + k152) + k161) σ160 τ_177)))))))))) (fun _ _ => False)))))))))))))) ∧ ∃ n, I177 n (0 : Int32) u σ τ)
theorem R0.rk {σ μ : mS} {n h : Nat} (R : R0 σ μ n h) : mRok kdC σ := R.2.1.2.1.ok (by have := R.2.1.1; omega)
section TW
variable {σ μ : mS} {n h b : Nat} {y y2 : Int32} {Q : Int32 → mS → Prop}
theorem t_state (R : R0 σ μ n h) (hb : 1 ≤ b) {c : Nat} (hc : c < n) (hQ : Q (mI μ 15 c) σ) : w_L_state (nI c) σ b Q := by
  have hn := R.n2
  exact s_state R hb (fun d hd hy => by rw [i_inj (a := d) (b := c) (by omega) (by omega) hy.symm]; exact hQ) (fun hno => absurd rfl (hno c hc))
theorem t_state0 (R : R0 σ μ n h) (hb : 1 ≤ b) (hno : ∀ c, c < n → y ≠ nI c) (hQ : Q (-71) σ) : w_L_state y σ b Q :=
  s_state R hb (fun d hd hy => absurd hy (hno d hd)) (fun _ => ⟨rfl, hQ⟩)
theorem t_place (R : R0 σ μ n h) (hb : 1 ≤ b) {c : Nat} (hc : c < n) (hQ : Q (if mI μ 15 c = 2 then mI μ 22 c else -1) σ) : w_L_place (nI c) σ b Q := by
  have hn := R.n2
  exact s_place R hb (fun d hd hy => by rw [i_inj (a := d) (b := c) (by omega) (by omega) hy.symm]; exact hQ) (fun hno => absurd rfl (hno c hc))
theorem t_place0 (R : R0 σ μ n h) (hb : 1 ≤ b) (hno : ∀ c, c < n → y ≠ nI c) (hQ : Q (-71) σ) : w_L_place y σ b Q :=
  s_place R hb (fun d hd hy => absurd hy (hno d hd)) (fun _ => ⟨rfl, hQ⟩)
theorem t_tokens (R : R0 σ μ n h) (hb : 1 ≤ b) {s : Nat} (hs : s < 6) (hQ : Q (mI μ 9 s) σ) : w_L_tokens (nI s) σ b Q :=
  s_tokens R hb (fun d hd hy => by rw [i_inj (a := d) (b := s) (by omega) (by omega) hy.symm]; exact hQ) (fun hno => absurd rfl (hno s hs))
theorem t_tokens0 (R : R0 σ μ n h) (hb : 1 ≤ b) (hno : ∀ s, s < 6 → y ≠ nI s) (hQ : Q (-71) σ) : w_L_tokens y σ b Q :=
  s_tokens R hb (fun d hd hy => absurd hy (hno d hd)) (fun _ => ⟨rfl, hQ⟩)
theorem t_count (R : R0 σ μ n h) (hb : 2 ≤ b) {s k : Nat} (hs : s < 6) (hk : k < 8) (hQ : Q (nI (cnt n (fK μ s k))) σ) : w_L_count (nI s) (nI k) σ b Q :=
  s_count R hb (fun d e hd hy he hy2 => by rw [i_inj (a := d) (b := s) (by omega) (by omega) hy.symm, i_inj (a := e) (b := k) (by omega) (by omega) hy2.symm]; exact hQ) (fun q _ => by
    refine absurd q (fun z => ?_)
    rcases z with z | z
    · exact nI_pos (by omega) z
    · have := (nI_ltI (a := 7) (by omega) (by omega)).mp z; omega) (fun hno => absurd rfl (hno s hs))
theorem t_count0 (R : R0 σ μ n h) (hb : 2 ≤ b) (hno : ∀ s, s < 6 → y ≠ nI s) (hQ : Q (-71) σ) : w_L_count y y2 σ b Q :=
  s_count R hb (fun d e hd hy he hy2 => absurd hy (hno d hd)) (fun _ q => by obtain ⟨s, hs, hy⟩ := q; exact absurd hy (hno s hs)) (fun _ => Or.inl ⟨rfl, hQ⟩)
theorem t_count1 (R : R0 σ μ n h) (hb : 2 ≤ b) {s : Nat} (hs : s < 6) (hbad : ∀ k, k < 8 → y2 ≠ nI k) (hQ : Q (-72) σ) : w_L_count (nI s) y2 σ b Q :=
  s_count R hb (fun d e hd hy he hy2 => absurd hy2 (hbad e he)) (fun _ _ => Or.inr ⟨rfl, hQ⟩) (fun hno => absurd rfl (hno s hs))
theorem t_queued (R : R0 σ μ n h) (hb : 2 ≤ b) {s d : Nat} (hs : s < 6) (hd : d < n) (hf : fK μ s 0 d = true) (hQ : Q (nI d) σ) : w_L_queuedAt (nI s) (nI (cnt d (fK μ s 0))) σ b Q := by
  have hn := R.n2
  refine s_queuedAt R hb (fun s2 d2 hs2 hy hd2 hf2 hy2 => ?_) (fun q => ?_)
  · have h1 : s = s2 := i_inj (by omega) (by omega) hy
    subst h1
    have h2 := cnt_le d (fK μ s 0)
    have h3 := cnt_le d2 (fK μ s 0)
    have h4 : cnt d (fK μ s 0) = cnt d2 (fK μ s 0) := i_inj (by omega) (by omega) hy2
    rw [← cnt_inj hf hf2 h4]; exact hQ
  · rcases q with q | ⟨s2, hs2, hy, hno⟩
    · exact absurd rfl (q s hs)
    · have h1 : s = s2 := i_inj (by omega) (by omega) hy
      subst h1
      exact absurd rfl (hno d hd hf)
theorem t_queued1 (R : R0 σ μ n h) (hb : 2 ≤ b) {s : Nat} (hs : s < 6) (hno : ∀ e, e < n → fK μ s 0 e = true → nI (cnt e (fK μ s 0)) ≠ y2) (hQ : Q (-71) σ) : w_L_queuedAt (nI s) y2 σ b Q := by
  refine s_queuedAt R hb (fun s2 d2 hs2 hy hd2 hf2 hy2 => ?_) (fun q => ⟨rfl, hQ⟩)
  have h1 : s = s2 := i_inj (by omega) (by omega) hy
  subst h1
  exact absurd hy2.symm (hno d2 hd2 hf2)
theorem t_queued0 (R : R0 σ μ n h) (hb : 2 ≤ b) (hno : ∀ s, s < 6 → y ≠ nI s) (hQ : Q (-71) σ) : w_L_queuedAt y y2 σ b Q :=
  s_queuedAt R hb (fun s2 d2 hs2 hy hd2 hf2 hy2 => absurd hy (hno s2 hs2)) (fun _ => ⟨rfl, hQ⟩)
theorem t_cancel0 (R : R0 σ μ n h) (hb : 2 ≤ b) (hno : ∀ c, c < n → y ≠ nI c) (hQ : Q (-71) σ) : w_L_cancel y σ b Q :=
  s_cancel R hb (fun c hc hy => absurd hy (hno c hc)) (fun c hc hy => absurd hy (hno c hc)) (fun _ => Or.inl ⟨rfl, hQ⟩)
theorem t_pass0 (R : R0 σ μ n h) (hb : 1 ≤ b) (hbad : y < 1 ∨ 100 < y) (hQ : Q (-72) σ) : w_L_pass y σ b Q := s_pass0 R hb hbad ⟨rfl, hQ⟩
theorem t_call0 (R : R0 σ μ n h) (hb : 3 ≤ b) (hno : ∀ s, s < 6 → y ≠ nI s) (hQ : Q (-71) σ) : w_L_call y y2 σ b Q := s_call0 R hb hno (Or.inl ⟨rfl, hQ⟩)
theorem t_call1 (R : R0 σ μ n h) (hb : 3 ≤ b) {s : Nat} (hs : s < 6) (hbad : y2 < 1 ∨ 100 < y2) (hQ : Q (-72) σ) : w_L_call (nI s) y2 σ b Q := s_call1 R hb hs hbad (Or.inr (Or.inl ⟨rfl, hQ⟩))
end TW
theorem no8 : ∀ k, k < 8 → (8 : Int32) ≠ nI k := fun k hk q => by
  have := i_inj (a := 8) (b := k) (by omega) (by omega) q
  omega
theorem l_tail {σ τ μ : mS} {n h u b : Nat} {F : Nat → Nat → Nat} {Q : Int32 → mS → mS → Prop} (R : R0 σ μ n h) (P : PL τ μ n F d0) (hb : u + 60 ≤ b) (hQ : Q 1 σ τ) : lTail u σ τ b Q := by
  obtain ⟨k0, k1, kn⟩ := l_now P
  have hn2 := R.n2
  have hm1 := nom1 hn2
  have hnN := noN hn2
  unfold lTail
  refine ⟨R.rk, ?_⟩
  unfold w_X2_time
  refine ⟨Nat.le_refl _, 0, rfl, by decide, fun hne => absurd (R.now.trans k0.symm) hne, fun _ => ⟨R.rk, ?_⟩⟩
  unfold w_X2_calls
  refine ⟨Nat.le_refl _, 1, rfl, by decide, fun hne => absurd ((R0_01 R).2.trans k1.symm) hne, fun _ => ⟨1, rfl, by decide, R.rk, 1, by omega, ?_⟩⟩
  rw [k1]
  refine t_state0 R (Nat.le_refl _) hnN ⟨Nat.le_refl _, fun hne => absurd rfl hne, fun _ => ⟨R.rk, 1, by omega, ?_⟩⟩
  refine t_state0 R (Nat.le_refl _) hm1 ⟨Nat.le_refl _, fun hne => absurd rfl hne, fun _ => ⟨1, rfl, by decide, R.rk, 1, by omega, ?_⟩⟩
  rw [k1]
  refine t_place0 R (Nat.le_refl _) hnN ⟨Nat.le_refl _, fun hne => absurd rfl hne, fun _ => ⟨R.rk, 2, by omega, ?_⟩⟩
  refine t_queued0 R (Nat.le_refl _) no6 ⟨Nat.le_refl _, fun hne => absurd rfl hne, fun _ => ⟨R.rk, 2, by omega, ?_⟩⟩
  refine t_queued1 (s := 0) R (Nat.le_refl _) (by decide) (fun e he _ => i_ne1 (by have := cnt_le e (fK μ 0 0); omega)) ⟨Nat.le_refl _, fun hne => absurd rfl hne, fun _ => ⟨R.rk, 2, by omega, ?_⟩⟩
  refine t_count0 R (Nat.le_refl _) no6 ⟨Nat.le_refl _, fun hne => absurd rfl hne, fun _ => ⟨R.rk, 2, by omega, ?_⟩⟩
  refine t_count1 (s := 0) R (Nat.le_refl _) (by decide) no8 ⟨Nat.le_refl _, fun hne => absurd rfl hne, fun _ => ⟨R.rk, 2, by omega, ?_⟩⟩
  refine t_count1 (s := 0) R (Nat.le_refl _) (by decide) (fun k hk q => i_ne1 (p := k) (by omega) q.symm) ⟨Nat.le_refl _, fun hne => absurd rfl hne, fun _ => ⟨R.rk, 1, by omega, ?_⟩⟩
  refine t_tokens0 R (Nat.le_refl _) no6 ⟨Nat.le_refl _, fun hne => absurd rfl hne, fun _ => ⟨1, rfl, by decide, R.rk, 2, by omega, ?_⟩⟩
  rw [k1]
  refine t_cancel0 R (Nat.le_refl _) hnN ⟨Nat.le_refl _, fun hne => absurd rfl hne, fun _ => ⟨R.rk, 2, by omega, ?_⟩⟩
  refine t_cancel0 R (Nat.le_refl _) hm1 ⟨Nat.le_refl _, fun hne => absurd rfl hne, fun _ => ⟨R.rk, 1, by omega, ?_⟩⟩
  refine t_pass0 R (Nat.le_refl _) (Or.inl (by decide)) ⟨Nat.le_refl _, fun hne => absurd rfl hne, fun _ => ⟨R.rk, 1, by omega, ?_⟩⟩
  refine t_pass0 R (Nat.le_refl _) (Or.inr (by decide)) ⟨Nat.le_refl _, fun hne => absurd rfl hne, fun _ => ⟨R.rk, 3, by omega, ?_⟩⟩
  refine t_call0 R (Nat.le_refl _) no6 ⟨Nat.le_refl _, fun hne => absurd rfl hne, fun _ => ⟨R.rk, 3, by omega, ?_⟩⟩
  refine t_call1 (s := 0) R (Nat.le_refl _) (by decide) (Or.inl (by decide)) ⟨Nat.le_refl _, fun hne => absurd rfl hne, fun _ => ⟨R.rk, 3, by omega, ?_⟩⟩
  exact t_call1 (s := 0) R (Nat.le_refl _) (by decide) (Or.inr (by decide)) ⟨Nat.le_refl _, fun hne => absurd rfl hne, fun _ => hQ⟩
theorem s_isOpen2 {σ μ : mS} {n h b s : Nat} {Q : Int32 → mS → Prop} {X : String → mS → Prop} (R : R0 σ μ n h) (hb : 1 ≤ b) (hs : s < 6) (hQ : Q (if mI μ 0 1 < mI μ 11 s then 1 else 0) σ) : w_X2_isOpen (nI s) σ b Q X :=
  s_isOpen R hb hs (fun q => by rw [if_pos q] at hQ; exact hQ) (fun q => by rw [if_neg q] at hQ; exact hQ)
theorem l_sv {σ τ μ : mS} {n h u b : Nat} {y : Int32} {F : Nat → Nat → Nat} {Q : Int32 → mS → mS → Prop} (R : R0 σ μ n h) (P : PL τ μ n F d0) (hb : u + 810 ≤ b) (hQ : Q 1 σ τ) : lSv y u σ τ b Q := by
  obtain ⟨k0, k1, kn⟩ := l_now P
  have hn2 := R.n2
  unfold lSv
  refine ⟨fun m x u' σ' τ' => ∃ s, x = nI s ∧ s ≤ 6 ∧ m = 6 - s ∧ u' ≤ u + 125 * s ∧ σ' = σ ∧ τ' = τ, ?_, 6, 0, rfl, by omega, rfl, by omega, rfl, rfl⟩
  rintro m x u' σ' τ' ⟨s, hx, hs6, hm, hu, hσ, hτ⟩
  rw [hx, hm, hσ, hτ]
  refine ⟨fun hl => ?_, fun hl => ?_⟩
  · have h1 : 6 ≤ s := (nI_leI (a := 6) (by omega) (by omega)).mp hl
    exact l_tail R P (by omega) hQ
  · have hs : s < 6 := Nat.not_le.mp fun q => hl ((nI_leI (a := 6) (by omega) (by omega)).mpr q)
    obtain ⟨-, -, v0, v1, v2, v4, v5, v6, v7, v8, v9⟩ := P.2.1 s hs
    refine ⟨R.rk, 1, by omega, t_tokens R (Nat.le_refl _) hs ⟨Nat.le_refl _, 10 * s + 7, n10 s 7, by omega, fun hne => absurd v7.symm hne, fun _ => ⟨R.rk, 1, by omega, ?_⟩⟩⟩
    refine s_isOpen2 R (Nat.le_refl _) hs ⟨Nat.le_refl _, 0, rfl, by decide, 10 * s + 9, n10 s 9, by omega, fun xk u2 σ2 τ2 => xk = (if mI μ 0 1 < mI μ 11 s then 1 else 0) ∧ u2 ≤ u' + 1 + 1 ∧ σ2 = σ ∧ τ2 = τ, ?_, ?_⟩
    · rintro xk u2 σ2 τ2 ⟨hxk, hu2, hσ2, hτ2⟩
      rw [hσ2, hτ2]
      refine ⟨fun _ => ?_, fun hne => absurd hxk.symm hne⟩
      refine l_low (m := 8) (by decide) (by decide) (fun k hk => ⟨P.1.1, R.rk, 2, by omega, t_count R (Nat.le_refl _) hs hk ⟨Nat.le_refl _, l_many P hs hk ⟨P.1.1, fun _ => ?_, fun hne => absurd rfl hne⟩⟩⟩)
      refine ⟨fun m2 x11 x12 u3 σ3 τ3 => ∃ d, x12 = nI d ∧ d ≤ n ∧ m2 = n - d ∧ x11 = nI (cnt d (fK μ s 0)) ∧ u3 ≤ u2 + 2 + 2 * d ∧ σ3 = σ ∧ τ3 = τ, ?_, n, 0, rfl, by omega, rfl, rfl, by omega, rfl, rfl⟩
      rintro m2 x11 x12 u3 σ3 τ3 ⟨d, h12, hd, hm2, h11, hu3, hσ3, hτ3⟩
      rw [h12, hm2, h11, hσ3, hτ3]
      refine ⟨1, rfl, by decide, ?_⟩
      rw [k1]
      refine ⟨fun hl2 => ?_, fun hl2 => ?_⟩
      · have h1 : n ≤ d := (nI_leI (by omega) (by omega)).mp hl2
        have hdn : d = n := by omega
        rw [hdn]
        refine ⟨R.rk, 2, by omega, t_queued1 R (Nat.le_refl _) hs (fun e he hf q => ?_) ⟨Nat.le_refl _, fun _ => ⟨6 - (s + 1), by omega, s + 1, nI_1 s, by omega, rfl, by omega, rfl, rfl⟩, fun hne => absurd rfl hne⟩⟩
        have h2 := cnt_lt he hf
        have h3 := cnt_le n (fK μ s 0)
        have := i_inj (by omega) (by omega) q
        omega
      · have h1 : d < n := Nat.not_le.mp fun q => hl2 ((nI_leI (by omega) (by omega)).mpr q)
        obtain ⟨hxd, ha, c12, c15, -⟩ := P.2.2 d h1
        have hx' := id hxd
        unfold aBd at hx'
        obtain ⟨-, hst⟩ := l_open P h1
        refine ⟨d, rfl, by omega, ?_⟩
        rw [ha, l_low6 hxd]
        refine ⟨fun he => ?_, fun hne => ?_⟩
        · have h2 := i_inj (by omega) (by omega) he
          have hf : fK μ s 0 d = true := decide_eq_true ⟨by rw [c12]; congr 1; omega, (hst 0 (by decide)).mpr (by omega)⟩
          exact ⟨R.rk, 2, by omega, t_queued R (Nat.le_refl _) hs h1 hf ⟨Nat.le_refl _, fun _ => ⟨n - (d + 1), by omega, d + 1, nI_1 d, by omega, rfl, by rw [cnt_succ, hf]; exact nI_1 _, by omega, rfl, rfl⟩, fun hne => absurd rfl hne⟩⟩
        · have hf : fK μ s 0 d = false := decide_eq_false fun q => hne (by
            have h2 := (hst 0 (by decide)).mp q.2
            have h3 : F d 0 = s := i_inj (by omega) (by omega) (c12.symm.trans q.1)
            rw [h2, h3]; rfl)
          exact ⟨n - (d + 1), by omega, d + 1, nI_1 d, by omega, rfl, by rw [cnt_succ, hf]; rfl, by omega, rfl, rfl⟩
    · rw [k0, v9]
      exact ⟨fun hle => ⟨by rw [if_neg (Int32.not_lt.mpr hle)], by omega, rfl, rfl⟩, fun hle => ⟨by rw [if_pos (Int32.not_le.mp hle)], by omega, rfl, rfl⟩⟩
theorem l_told {σ τ μ : mS} {n h b : Nat} {y : Int32} {F : Nat → Nat → Nat} {Q : Int32 → mS → mS → Prop} (R : R0 σ μ n h) (C : wCl μ n) (P : PL τ μ n F d0) (hb : 1110 ≤ b) (hQ : Q 1 σ τ) : w_L_isTold y σ τ b Q := by
  obtain ⟨k0, k1, kn⟩ := l_now P
  have hn2 := R.n2
  unfold w_L_isTold
  refine ⟨fun m x u' σ' τ' => ∃ d, x = nI d ∧ d ≤ n ∧ m = n - d ∧ u' = 5 * d ∧ σ' = σ ∧ τ' = τ, ?_, n, 0, rfl, by omega, rfl, rfl, rfl, rfl⟩
  rintro m x u' σ' τ' ⟨d, hx, hd, hm, hu, hσ, hτ⟩
  rw [hx, hm, hu, hσ, hτ]
  refine ⟨1, rfl, by decide, ?_⟩
  rw [k1]
  refine ⟨fun hl => ?_, fun hl => ?_⟩
  · refine ⟨1, rfl, by decide, fun xk u2 σ2 τ2 => σ2 = σ ∧ τ2 = τ ∧ u2 ≤ 295 ∧ (0 < n → ∃ k, k < n ∧ xk = nI k), ?_, ?_⟩
    · rintro xk u2 σ2 τ2 ⟨hσ2, hτ2, hu2, hk⟩
      rw [hσ2, hτ2]
      refine ⟨1, rfl, by decide, ?_⟩
      rw [k1]
      refine ⟨fun _ => l_sv (y := y) R P (by omega) hQ, fun hpos => ?_⟩
      have hn0 : 0 < n := Nat.pos_of_ne_zero fun q => hpos (by rw [q]; decide)
      obtain ⟨k, hkn, hxk⟩ := hk hn0
      rw [hxk]
      exact ⟨R.rk, 1, by omega, s_below R C (Nat.le_refl _) hkn ⟨Nat.le_refl _, l_below R.1 P hkn ⟨P.1.1, fun _ => l_sv (y := y) R P (by omega) hQ, fun hne => absurd rfl hne⟩⟩⟩
    · rw [k1]
      refine ⟨fun hne => ⟨1, rfl, by decide, ?_⟩, fun he => ⟨rfl, rfl, by omega, fun hn0 => ?_⟩⟩
      · rw [k1]
        have hn0 : 0 < n := Nat.pos_of_ne_zero fun q => hne (by rw [q]; rfl)
        exact l_low hn0 (by omega) (fun k hk => ⟨P.1.1, rfl, rfl, by omega, fun _ => ⟨k, hk, rfl⟩⟩)
      · have := i_inj (b := 0) (by omega) (by omega) he
        omega
  · have h1 : d < n := Nat.not_le.mp fun q => hl ((nI_leI (by omega) (by omega)).mpr q)
    obtain ⟨hxd, ha, c12, c15, c19, r3, r4, r6, r5, hbd, hq⟩ := P.2.2 d h1
    have hx' := id hxd
    unfold aBd at hx'
    refine q_get1 (by omega) hxd ha ⟨P.1.1, R.rk, 1, by omega, ?_⟩
    refine t_state R (Nat.le_refl _) h1 ⟨Nat.le_refl _, fun hne => absurd c15 hne, fun _ => ⟨R.rk, 1, by omega, ?_⟩⟩
    refine s_origin R (Nat.le_refl _) h1 (show F d 0 < 6 by omega) c12 ⟨Nat.le_refl _, d, rfl, by omega, d, rfl, by omega, fun hne => absurd (by rw [ha, l_low3 hxd, r4, Int32.add_assoc]) hne, fun _ => ⟨R.rk, 1, by omega, ?_⟩⟩
    refine s_deadline R (Nat.le_refl _) h1 ⟨Nat.le_refl _, d, rfl, by omega, fun hne => absurd r3.symm hne, fun _ => ⟨R.rk, 1, by omega, ?_⟩⟩
    refine s_overAt R (Nat.le_refl _) h1 ⟨Nat.le_refl _, d, rfl, by omega, fun hne => absurd r6.symm hne, fun _ => ⟨R.rk, 1, by omega, ?_⟩⟩
    refine t_place R (Nat.le_refl _) h1 ⟨Nat.le_refl _, fun hne => ⟨fun _ => ⟨n - (d + 1), by omega, d + 1, nI_1 d, by omega, rfl, by omega, rfl, rfl⟩, fun hne2 => absurd ?_ hne2⟩, fun he => ?_⟩
    · rw [if_neg (fun q => hne (by rw [← c15]; exact q))]
    · have h12 : F d 1 = 2 := i_inj (b := 2) (by omega) (by omega) he
      refine q_get2 (by omega) hxd ha ⟨P.1.1, fun _ => ⟨n - (d + 1), by omega, d + 1, nI_1 d, by omega, rfl, by omega, rfl, rfl⟩, fun hne => absurd ?_ hne⟩
      rw [if_pos (c15.trans he)]
      exact (hq h12 (show (0 : Nat) ≠ 2 by decide)).1
