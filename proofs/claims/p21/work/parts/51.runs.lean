def w_L_runs (L : Nat) (xs : Nat → Int32) (y2 : Int32) (σ0 τ0 : mS) (b : Nat) (Q : Int32 → mS → mS → Prop) : Prop := (∃ I8 : Nat → Int32 → Nat → mS → mS → Prop, (∀ (n8 : Nat) (x11_8 : Int32) (u_8 : Nat) (σ_8 τ_8 : mS), I8 n8 x11_8 u_8 σ_8 τ_8 → (((60 : Int32) ≤ x11_8 → (∃ I29 : Nat → Int32 → Nat → mS → mS → Prop, (∀ (n29 : Nat) (x11_29 : Int32) (u_29 : Nat) (σ_29 τ_29 : mS), I29 n29 x11_29 u_29 σ_29 τ_29 → (((6 : Int32) ≤ x11_29 → (∃ k8, u_29 + k8 ≤ b ∧ w_L_isTold (0 : Int32) σ_29 τ_29 k8 (fun x7 σ9 τ10 => ((¬ x7 = 0 → (∃ I106 : Nat → Int32 → Nat → mS → mS → Prop, (∀ (n106 : Nat) (x11_106 : Int32) (u_106 : Nat) (σ_106 τ_106 : mS), I106 n106 x11_106 u_106 σ_106 τ_106 → (((y2 + (70 : Int32)) ≤ x11_106 → (Q (1 : Int32) σ_106 τ_106)) ∧ (¬ (y2 + (70 : Int32)) ≤ x11_106 → (∃ j17, ((3 : Int32) * x11_106) = nI j17 ∧ (j17 < 2 ^ 30 ∧ (∃ j24, (((3 : Int32) * x11_106) + (1 : Int32)) = nI j24 ∧ (j24 < 2 ^ 30 ∧ (∃ j31, (((3 : Int32) * x11_106) + (2 : Int32)) = nI j31 ∧ (j31 < 2 ^ 30 ∧ (((y2 + (6 : Int32)) ≤ x11_106 → w_L_low (pCell L xs j17) (22 : Int32) τ_106 (fun x38 τ39 => (mN τ39 = 8 ∧ (∃ I177 : Nat → Int32 → Int32 → Nat → mS → mS → Prop, (∀ (n177 : Nat) (x16_177 : Int32) (x17_177 : Int32) (u_177 : Nat) (σ_177 τ_177 : mS), I177 n177 x16_177 x17_177 u_177 σ_177 τ_177 → (∃ j43, (1 : Int32) = nI j43 ∧ (j43 < 3 ∧ (((mI τ_177 0 j43) ≤ x17_177 → (∃ j46, (1 : Int32) = nI j46 ∧ (j46 < 3 ∧ ((((mI τ_177 0 j46) + x16_177) ≤ (58 : Int32) → (∃ J547 : Int32 → Nat → mS → mS → Prop, (∀ (x17_547 : Int32) (u_547 : Nat) (σ_547 τ_547 : mS), J547 x17_547 u_547 σ_547 τ_547 → ((x17_547 = 0 → (Q (0 : Int32) σ_547 τ_547)) ∧ (¬ x17_547 = 0 → (∃ k54, u_547 + k54 ≤ b ∧ w_L_isTold (((pCell L xs j17) >>> ((5 : Int32) &&& 31)) ^^^ (pCell L xs j24)) σ_547 τ_547 k54 (fun x53 σ55 τ56 => ((¬ x53 = 0 → (∃ k59, k59 < n106 ∧ I106 k59 (x11_106 + 1) (u_547 + k54) σ55 τ56)) ∧ (x53 = 0 → (Q (0 : Int32) σ55 τ56)))))))) ∧ (((9 : Int32) ≤ x38 → (((14 : Int32) ≤ x38 → (∃ J494 : Int32 → Nat → mS → mS → Prop, (∀ (x17_494 : Int32) (u_494 : Nat) (σ_494 τ_494 : mS), J494 x17_494 u_494 σ_494 τ_494 → ((x38 ≤ (14 : Int32) → (J547 x17_494 u_494 σ_494 τ_494)) ∧ (¬ x38 ≤ (14 : Int32) → (∃ j63, (2 : Int32) = nI j63 ∧ (j63 < 3 ∧ w_L_tick  τ_494 (fun τ69 => (mN τ69 = 8 ∧ (mRok kdC σ_494 ∧ (∃ k75, u_494 + k75 ≤ b ∧ w_L_pass (1 : Int32) σ_494 k75 (fun x72 σ74 => (mN σ_494 ≤ mN σ74 ∧ (∃ j76, (2 : Int32) = nI j76 ∧ (j76 < 3 ∧ (∃ J545 : Int32 → Nat → mS → mS → Prop, (∀ (xk0_545 : Int32) (u_545 : Nat) (σ_545 τ_545 : mS), J545 xk0_545 u_545 σ_545 τ_545 → (J547 xk0_545 u_545 σ_545 τ_545)) ∧ ((¬ x72 = ((mI τ69 0 j76) - (mI τ_494 0 j63)) → (J545 (0 : Int32) (u_494 + k75) σ74 τ69)) ∧ (x72 = ((mI τ69 0 j76) - (mI τ_494 0 j63)) → (J545 (1 : Int32) (u_494 + k75) σ74 τ69))))))))))))))))) ∧ ((¬ x38 = (14 : Int32) → (J494 (1 : Int32) u_177 σ_177 τ_177)) ∧ (x38 = (14 : Int32) → (∃ j81, (1 : Int32) = nI j81 ∧ (j81 < 3 ∧ (((mI τ_177 0 j81) ≤ 0 → (J494 (1 : Int32) u_177 σ_177 τ_177)) ∧ (¬ (mI τ_177 0 j81) ≤ 0 → (∃ j84, (1 : Int32) = nI j84 ∧ (j84 < 3 ∧ w_L_low (pCell L xs j24) (mI τ_177 0 j84) τ_177 (fun x88 τ89 => (mN τ89 = 8 ∧ w_L_get x88 (3 : Int32) (3 : Int32) τ89 (fun x93 τ94 => (mN τ94 = 8 ∧ (∃ J491 : Int32 → Nat → mS → mS → Prop, (∀ (x17_491 : Int32) (u_491 : Nat) (σ_491 τ_491 : mS), J491 x17_491 u_491 σ_491 τ_491 → (J547 x17_491 u_491 σ_491 τ_491)) ∧ (∃ J421 : Nat → mS → mS → Prop, (∀ (u_421 : Nat) (σ_421 τ_421 : mS), J421 u_421 σ_421 τ_421 → (mRok kdC σ_421 ∧ (∃ k100, u_421 + k100 ≤ b ∧ w_L_cancel x88 σ_421 k100 (fun x97 σ99 => (mN σ_421 ≤ mN σ99 ∧ (∃ J437 : Int32 → Nat → mS → mS → Prop, (∀ (xk0_437 : Int32) (u_437 : Nat) (σ_437 τ_437 : mS), J437 xk0_437 u_437 σ_437 τ_437 → (J491 xk0_437 u_437 σ_437 τ_437)) ∧ ((¬ x97 = (-73 : Int32) → (J437 (0 : Int32) (u_421 + k100) σ99 τ_421)) ∧ (x97 = (-73 : Int32) → (J437 (1 : Int32) (u_421 + k100) σ99 τ_421))))))))) ∧ (((2 : Int32) < x93 → (J421 u_177 σ_177 τ94)) ∧ (¬ (2 : Int32) < x93 → (∃ j104, x88 = nI j104 ∧ (j104 < 60 ∧ (((mI τ94 4 j104) < 0 → w_L_below x88 τ94 (fun x109 τ110 => (mN τ110 = 8 ∧ w_L_end x88 (7 : Int32) τ110 (fun τ115 => (mN τ115 = 8 ∧ (mRok kdC σ_177 ∧ (∃ k121, u_177 + k121 ≤ b ∧ w_L_cancel x88 σ_177 k121 (fun x118 σ120 => (mN σ_177 ≤ mN σ120 ∧ (∃ J489 : Int32 → Nat → mS → mS → Prop, (∀ (xk0_489 : Int32) (u_489 : Nat) (σ_489 τ_489 : mS), J489 xk0_489 u_489 σ_489 τ_489 → (J491 xk0_489 u_489 σ_489 τ_489)) ∧ ((¬ x118 = ((1 : Int32) + x109) → (J489 (0 : Int32) (u_177 + k121) σ120 τ115)) ∧ (x118 = ((1 : Int32) + x109) → (J489 (1 : Int32) (u_177 + k121) σ120 τ115))))))))))))) ∧ (¬ (mI τ94 4 j104) < 0 → (J421 u_177 σ_177 τ94))))))))))))))))))))))) ∧ (¬ (14 : Int32) ≤ x38 → (∃ J291 : Int32 → Nat → mS → mS → Prop, (∀ (xk0_291 : Int32) (u_291 : Nat) (σ_291 τ_291 : mS), J291 xk0_291 u_291 σ_291 τ_291 → w_L_low (pCell L xs j24) xk0_291 τ_291 (fun x126 τ127 => (mN τ127 = 8 ∧ (∃ J314 : Int32 → Nat → mS → mS → Prop, (∀ (xk0_314 : Int32) (u_314 : Nat) (σ_314 τ_314 : mS), J314 xk0_314 u_314 σ_314 τ_314 → w_L_low (pCell L xs j31) xk0_314 τ_314 (fun x131 τ132 => (mN τ132 = 8 ∧ (∃ j134, (1 : Int32) = nI j134 ∧ (j134 < 3 ∧ (∃ j137, (0 : Int32) = nI j137 ∧ (j137 < 3 ∧ w_L_begin x126 ((mI τ132 0 j137) + ((1 : Int32) + x131)) (-1 : Int32) τ132 (fun τ142 => (mN τ142 = 8 ∧ (mRok kdC σ_314 ∧ (∃ k148, u_314 + k148 ≤ b ∧ w_L_call x126 ((1 : Int32) + x131) σ_314 k148 (fun x145 σ147 => (mN σ_314 ≤ mN σ147 ∧ (∃ J370 : Int32 → Nat → mS → mS → Prop, (∀ (xk0_370 : Int32) (u_370 : Nat) (σ_370 τ_370 : mS), J370 xk0_370 u_370 σ_370 τ_370 → (J547 xk0_370 u_370 σ_370 τ_370)) ∧ ((¬ x145 = (mI τ132 0 j134) → (J370 (0 : Int32) (u_314 + k148) σ147 τ142)) ∧ (x145 = (mI τ132 0 j134) → (J370 (1 : Int32) (u_314 + k148) σ147 τ142))))))))))))))))) ∧ ((¬ ((pCell L xs j31) &&& (96 : Int32)) = 0 → (J314 (20 : Int32) u_291 σ_291 τ127)) ∧ (((pCell L xs j31) &&& (96 : Int32)) = 0 → (J314 (100 : Int32) u_291 σ_291 τ127))))))) ∧ ((¬ ((pCell L xs j24) &&& (96 : Int32)) = 0 → (J291 (2 : Int32) u_177 σ_177 τ_177)) ∧ (((pCell L xs j24) &&& (96 : Int32)) = 0 → (J291 (6 : Int32) u_177 σ_177 τ_177))))))) ∧ (¬ (9 : Int32) ≤ x38 → (∃ k156, u_177 + k156 ≤ b ∧ w_L_sets x38 (pCell L xs j24) (pCell L xs j31) σ_177 τ_177 k156 (fun x155 σ157 τ158 => (J547 x155 (u_177 + k156) σ157 τ158))))))) ∧ (¬ ((mI τ_177 0 j46) + x16_177) ≤ (58 : Int32) → (Q (1 : Int32) σ_177 τ_177)))))) ∧ (¬ (mI τ_177 0 j43) ≤ x17_177 → w_L_get x17_177 (3 : Int32) (3 : Int32) τ_177 (fun x162 τ163 => (mN τ163 = 8 ∧ ((x162 = (2 : Int32) → (∃ k167, k167 < n177 ∧ I177 k167 (x16_177 + (1 : Int32)) (x17_177 + 1) u_177 σ_177 τ163)) ∧ (¬ x162 = (2 : Int32) → w_L_get x17_177 (3 : Int32) (3 : Int32) τ163 (fun x170 τ171 => (mN τ171 = 8 ∧ ((¬ x170 = (1 : Int32) → (∃ k175, k175 < n177 ∧ I177 k175 (x16_177 + (0 : Int32)) (x17_177 + 1) u_177 σ_177 τ171)) ∧ (x170 = (1 : Int32) → (∃ k178, k178 < n177 ∧ I177 k178 (x16_177 + (1 : Int32)) (x17_177 + 1) u_177 σ_177 τ171)))))))))))))) ∧ ∃ n, I177 n (0 : Int32) (0 : Int32) u_106 σ_106 τ39)))) ∧ (¬ (y2 + (6 : Int32)) ≤ x11_106 → (∃ I177 : Nat → Int32 → Int32 → Nat → mS → mS → Prop, (∀ (n177 : Nat) (x16_177 : Int32) (x17_177 : Int32) (u_177 : Nat) (σ_177 τ_177 : mS), I177 n177 x16_177 x17_177 u_177 σ_177 τ_177 → (∃ j182, (1 : Int32) = nI j182 ∧ (j182 < 3 ∧ (((mI τ_177 0 j182) ≤ x17_177 → (∃ j185, (1 : Int32) = nI j185 ∧ (j185 < 3 ∧ ((((mI τ_177 0 j185) + x16_177) ≤ (58 : Int32) → (∃ J547 : Int32 → Nat → mS → mS → Prop, (∀ (x17_547 : Int32) (u_547 : Nat) (σ_547 τ_547 : mS), J547 x17_547 u_547 σ_547 τ_547 → ((x17_547 = 0 → (Q (0 : Int32) σ_547 τ_547)) ∧ (¬ x17_547 = 0 → (∃ k193, u_547 + k193 ≤ b ∧ w_L_isTold (((pCell L xs j17) >>> ((5 : Int32) &&& 31)) ^^^ (pCell L xs j24)) σ_547 τ_547 k193 (fun x192 σ194 τ195 => ((¬ x192 = 0 → (∃ k198, k198 < n106 ∧ I106 k198 (x11_106 + 1) (u_547 + k193) σ194 τ195)) ∧ (x192 = 0 → (Q (0 : Int32) σ194 τ195)))))))) ∧ (((9 : Int32) ≤ (4 : Int32) → (((14 : Int32) ≤ (4 : Int32) → (∃ J494 : Int32 → Nat → mS → mS → Prop, (∀ (x17_494 : Int32) (u_494 : Nat) (σ_494 τ_494 : mS), J494 x17_494 u_494 σ_494 τ_494 → (((4 : Int32) ≤ (14 : Int32) → (J547 x17_494 u_494 σ_494 τ_494)) ∧ (¬ (4 : Int32) ≤ (14 : Int32) → (∃ j202, (2 : Int32) = nI j202 ∧ (j202 < 3 ∧ w_L_tick  τ_494 (fun τ208 => (mN τ208 = 8 ∧ (mRok kdC σ_494 ∧ (∃ k214, u_494 + k214 ≤ b ∧ w_L_pass (1 : Int32) σ_494 k214 (fun x211 σ213 => (mN σ_494 ≤ mN σ213 ∧ (∃ j215, (2 : Int32) = nI j215 ∧ (j215 < 3 ∧ (∃ J545 : Int32 → Nat → mS → mS → Prop, (∀ (xk0_545 : Int32) (u_545 : Nat) (σ_545 τ_545 : mS), J545 xk0_545 u_545 σ_545 τ_545 → (J547 xk0_545 u_545 σ_545 τ_545)) ∧ ((¬ x211 = ((mI τ208 0 j215) - (mI τ_494 0 j202)) → (J545 (0 : Int32) (u_494 + k214) σ213 τ208)) ∧ (x211 = ((mI τ208 0 j215) - (mI τ_494 0 j202)) → (J545 (1 : Int32) (u_494 + k214) σ213 τ208))))))))))))))))) ∧ ((¬ (4 : Int32) = (14 : Int32) → (J494 (1 : Int32) u_177 σ_177 τ_177)) ∧ ((4 : Int32) = (14 : Int32) → (∃ j220, (1 : Int32) = nI j220 ∧ (j220 < 3 ∧ (((mI τ_177 0 j220) ≤ 0 → (J494 (1 : Int32) u_177 σ_177 τ_177)) ∧ (¬ (mI τ_177 0 j220) ≤ 0 → (∃ j223, (1 : Int32) = nI j223 ∧ (j223 < 3 ∧ w_L_low (pCell L xs j24) (mI τ_177 0 j223) τ_177 (fun x227 τ228 => (mN τ228 = 8 ∧ w_L_get x227 (3 : Int32) (3 : Int32) τ228 (fun x232 τ233 => (mN τ233 = 8 ∧ (∃ J491 : Int32 → Nat → mS → mS → Prop, (∀ (x17_491 : Int32) (u_491 : Nat) (σ_491 τ_491 : mS), J491 x17_491 u_491 σ_491 τ_491 → (J547 x17_491 u_491 σ_491 τ_491)) ∧ (∃ J421 : Nat → mS → mS → Prop, (∀ (u_421 : Nat) (σ_421 τ_421 : mS), J421 u_421 σ_421 τ_421 → (mRok kdC σ_421 ∧ (∃ k239, u_421 + k239 ≤ b ∧ w_L_cancel x227 σ_421 k239 (fun x236 σ238 => (mN σ_421 ≤ mN σ238 ∧ (∃ J437 : Int32 → Nat → mS → mS → Prop, (∀ (xk0_437 : Int32) (u_437 : Nat) (σ_437 τ_437 : mS), J437 xk0_437 u_437 σ_437 τ_437 → (J491 xk0_437 u_437 σ_437 τ_437)) ∧ ((¬ x236 = (-73 : Int32) → (J437 (0 : Int32) (u_421 + k239) σ238 τ_421)) ∧ (x236 = (-73 : Int32) → (J437 (1 : Int32) (u_421 + k239) σ238 τ_421))))))))) ∧ (((2 : Int32) < x232 → (J421 u_177 σ_177 τ233)) ∧ (¬ (2 : Int32) < x232 → (∃ j243, x227 = nI j243 ∧ (j243 < 60 ∧ (((mI τ233 4 j243) < 0 → w_L_below x227 τ233 (fun x248 τ249 => (mN τ249 = 8 ∧ w_L_end x227 (7 : Int32) τ249 (fun τ254 => (mN τ254 = 8 ∧ (mRok kdC σ_177 ∧ (∃ k260, u_177 + k260 ≤ b ∧ w_L_cancel x227 σ_177 k260 (fun x257 σ259 => (mN σ_177 ≤ mN σ259 ∧ (∃ J489 : Int32 → Nat → mS → mS → Prop, (∀ (xk0_489 : Int32) (u_489 : Nat) (σ_489 τ_489 : mS), J489 xk0_489 u_489 σ_489 τ_489 → (J491 xk0_489 u_489 σ_489 τ_489)) ∧ ((¬ x257 = ((1 : Int32) + x248) → (J489 (0 : Int32) (u_177 + k260) σ259 τ254)) ∧ (x257 = ((1 : Int32) + x248) → (J489 (1 : Int32) (u_177 + k260) σ259 τ254))))))))))))) ∧ (¬ (mI τ233 4 j243) < 0 → (J421 u_177 σ_177 τ233))))))))))))))))))))))) ∧ (¬ (14 : Int32) ≤ (4 : Int32) → (∃ J291 : Int32 → Nat → mS → mS → Prop, (∀ (xk0_291 : Int32) (u_291 : Nat) (σ_291 τ_291 : mS), J291 xk0_291 u_291 σ_291 τ_291 → w_L_low (pCell L xs j24) xk0_291 τ_291 (fun x265 τ266 => (mN τ266 = 8 ∧ (∃ J314 : Int32 → Nat → mS → mS → Prop, (∀ (xk0_314 : Int32) (u_314 : Nat) (σ_314 τ_314 : mS), J314 xk0_314 u_314 σ_314 τ_314 → w_L_low (pCell L xs j31) xk0_314 τ_314 (fun x270 τ271 => (mN τ271 = 8 ∧ (∃ j273, (1 : Int32) = nI j273 ∧ (j273 < 3 ∧ (∃ j276, (0 : Int32) = nI j276 ∧ (j276 < 3 ∧ w_L_begin x265 ((mI τ271 0 j276) + ((1 : Int32) + x270)) (-1 : Int32) τ271 (fun τ281 => (mN τ281 = 8 ∧ (mRok kdC σ_314 ∧ (∃ k287, u_314 + k287 ≤ b ∧ w_L_call x265 ((1 : Int32) + x270) σ_314 k287 (fun x284 σ286 => (mN σ_314 ≤ mN σ286 ∧ (∃ J370 : Int32 → Nat → mS → mS → Prop, (∀ (xk0_370 : Int32) (u_370 : Nat) (σ_370 τ_370 : mS), J370 xk0_370 u_370 σ_370 τ_370 → (J547 xk0_370 u_370 σ_370 τ_370)) ∧ ((¬ x284 = (mI τ271 0 j273) → (J370 (0 : Int32) (u_314 + k287) σ286 τ281)) ∧ (x284 = (mI τ271 0 j273) → (J370 (1 : Int32) (u_314 + k287) σ286 τ281))))))))))))))))) ∧ ((¬ ((pCell L xs j31) &&& (96 : Int32)) = 0 → (J314 (20 : Int32) u_291 σ_291 τ266)) ∧ (((pCell L xs j31) &&& (96 : Int32)) = 0 → (J314 (100 : Int32) u_291 σ_291 τ266))))))) ∧ ((¬ ((pCell L xs j24) &&& (96 : Int32)) = 0 → (J291 (2 : Int32) u_177 σ_177 τ_177)) ∧ (((pCell L xs j24) &&& (96 : Int32)) = 0 → (J291 (6 : Int32) u_177 σ_177 τ_177))))))) ∧ (¬ (9 : Int32) ≤ (4 : Int32) → (∃ k295, u_177 + k295 ≤ b ∧ w_L_sets (4 : Int32) (pCell L xs j24) (pCell L xs j31) σ_177 τ_177 k295 (fun x294 σ296 τ297 => (J547 x294 (u_177 + k295) σ296 τ297))))))) ∧ (¬ ((mI τ_177 0 j185) + x16_177) ≤ (58 : Int32) → (Q (1 : Int32) σ_177 τ_177)))))) ∧ (¬ (mI τ_177 0 j182) ≤ x17_177 → w_L_get x17_177 (3 : Int32) (3 : Int32) τ_177 (fun x301 τ302 => (mN τ302 = 8 ∧ ((x301 = (2 : Int32) → (∃ k306, k306 < n177 ∧ I177 k306 (x16_177 + (1 : Int32)) (x17_177 + 1) u_177 σ_177 τ302)) ∧ (¬ x301 = (2 : Int32) → w_L_get x17_177 (3 : Int32) (3 : Int32) τ302 (fun x309 τ310 => (mN τ310 = 8 ∧ ((¬ x309 = (1 : Int32) → (∃ k314, k314 < n177 ∧ I177 k314 (x16_177 + (0 : Int32)) (x17_177 + 1) u_177 σ_177 τ310)) ∧ (x309 = (1 : Int32) → (∃ k317, k317 < n177 ∧ I177 k317 (x16_177 + (1 : Int32)) (x17_177 + 1) u_177 σ_177 τ310)))))))))))))) ∧ ∃ n, I177 n (0 : Int32) (0 : Int32) u_106 σ_106 τ_106)))))))))))) ∧ ∃ n, I106 n y2 (u_29 + k8) σ9 τ10)) ∧ (x7 = 0 → (Q (0 : Int32) σ9 τ10)))))) ∧ (¬ (6 : Int32) ≤ x11_29 → (∃ j318, ((10 : Int32) * x11_29) = nI j318 ∧ (j318 < 60 ∧ (∀ τ321, τ321 = sI τ_29 1 j318 (1 : Int32) → (∃ j322, (((10 : Int32) * x11_29) + (4 : Int32)) = nI j322 ∧ (j322 < 60 ∧ (∀ τ325, τ325 = sI τ321 1 j322 (2 : Int32) → (∃ j326, (((10 : Int32) * x11_29) + (5 : Int32)) = nI j326 ∧ (j326 < 60 ∧ (∀ τ329, τ329 = sI τ325 1 j326 (4 : Int32) → (∃ j330, (((10 : Int32) * x11_29) + (7 : Int32)) = nI j330 ∧ (j330 < 60 ∧ (∀ τ333, τ333 = sI τ329 1 j330 (20 : Int32) → (∃ k335, k335 < n29 ∧ I29 k335 (x11_29 + 1) u_29 σ_29 τ333)))))))))))))))) ∧ ∃ n, I29 n (0 : Int32) u_8 σ_8 τ_8)) ∧ (¬ (60 : Int32) ≤ x11_8 → (∃ j336, x11_8 = nI j336 ∧ (j336 < 60 ∧ (∀ τ339, τ339 = sI τ_8 1 j336 (0 : Int32) → (∃ k341, k341 < n8 ∧ I8 k341 (x11_8 + 1) u_8 σ_8 τ339))))))) ∧ ∃ n, I8 n (0 : Int32) 1 σ0 τ0)
set_option maxRecDepth 100000 in
set_option maxHeartbeats 4000000 in
theorem c_L_runs {p : Program} {l : Launch} {e : Env} {s : State} {m : MethodId} {below : List Frame} {meth : Method} {c : Code} {b : Nat} (hb1 : 1 ≤ b) (hfl : l.stackTraces = false) (G : mG) (N0 N1 : Nat) (a1 a2 : Nat → Nat) (bs L : Nat) (xs : Nat → Int32) (y2 : Int32) (σ0 τ0 : mS) (Q : Int32 → mS → mS → Prop) (h : w_L_runs L xs y2 σ0 τ0 b Q) (H : Heap) (ls : Array Slot) (C : mX p s m c cL_runs 21 ([mV a1 (some 0), .ref bs, .int y2, mV a2 (some 1), mV a2 (some 2), mV a2 (some 3), mV a2 (some 4), mV a2 (some 5), mV a2 (some 6), mV a2 (some 7)] : List Value).toArray RL G) (E : pE N0 a1 a2 (mN σ0) s) (hM : pM G a1 a2 (mN σ0) s σ0 τ0 H []) (hX : va_X bs L xs s s.heap) (hbs : bs < N0) (hL : L ≤ 260) (hN : s.heap.size = N1) (hr : meth.sig.returnType = some .boolean) (hlk : meth.locks = false) (hl : ml_has ls 21 [(0, mV a1 (some 0)), (1, .ref bs), (2, .int y2), (3, mV a2 (some 1)), (4, mV a2 (some 2)), (5, mV a2 (some 3)), (6, mV a2 (some 4)), (7, mV a2 (some 5)), (8, mV a2 (some 6)), (9, mV a2 (some 7)), (10, mV a2 (some 0))]) : W p l e (mRb 10 213 b) s m ([mV a1 (some 0), .ref bs, .int y2, mV a2 (some 1), mV a2 (some 2), mV a2 (some 3), mV a2 (some 4), mV a2 (some 5), mV a2 (some 6), mV a2 (some 7)] : List Value).toArray below meth c H [] 1 (18 * 1) (MQ below (va_Qi (fun r (q : mS × mS) => Q r q.1 q.2 ∧ narrow .boolean (.int r) = .int r) (pPost G N1 a1 a2 (mN σ0)) (pA a1 a2 (mN σ0) N1)) ([mV a1 (some 0), .ref bs, .int y2, mV a2 (some 1), mV a2 (some 2), mV a2 (some 3), mV a2 (some 4), mV a2 (some 5), mV a2 (some 6), mV a2 (some 7)] : List Value).toArray s b (18 * b) (pA a1 a2 (mN σ0) N1)) (F0 m 5 ls []) := by
  have hx := C.1.1
  have hb := C.1.2.1
  unfold w_L_runs at h
  refine lv_iconst (v := 0) hx hb dL_runs_5 (by decide) ?_
  refine mr_istore (lv' := [(11, .int (0 : Int32)), (0, mV a1 (some 0)), (1, .ref bs), (2, .int y2), (3, mV a2 (some 1)), (4, mV a2 (some 2)), (5, mV a2 (some 3)), (6, mV a2 (some 4)), (7, mV a2 (some 5)), (8, mV a2 (some 6)), (9, mV a2 (some 7)), (10, mV a2 (some 0))]) C hl dL_runs_6 (by decide) rfl (fun ls hl1 => ?_)
  clear hl
  obtain ⟨I8, hI8, nn8, h⟩ := h
  have hL8 : ∀ (n8 : Nat) (x11_8 : Int32) (u_8 : Nat) (σ_8 τ_8 : mS) (H : Heap) (locs : List Loc) (ls : Array Slot), u_8 ≤ b → I8 n8 x11_8 u_8 σ_8 τ_8 → pM G a1 a2 (mN σ0) s σ_8 τ_8 H locs → ml_has ls 21 [(0, mV a1 (some 0)), (1, .ref bs), (2, .int y2), (3, mV a2 (some 1)), (4, mV a2 (some 2)), (5, mV a2 (some 3)), (6, mV a2 (some 4)), (7, mV a2 (some 5)), (8, mV a2 (some 6)), (9, mV a2 (some 7)), (10, mV a2 (some 0)), (11, .int x11_8)] → W p l e (mRb 10 213 b) s m ([mV a1 (some 0), .ref bs, .int y2, mV a2 (some 1), mV a2 (some 2), mV a2 (some 3), mV a2 (some 4), mV a2 (some 5), mV a2 (some 6), mV a2 (some 7)] : List Value).toArray below meth c H locs u_8 (18 * u_8) (MQ below (va_Qi (fun r (q : mS × mS) => Q r q.1 q.2 ∧ narrow .boolean (.int r) = .int r) (pPost G N1 a1 a2 (mN σ0)) (pA a1 a2 (mN σ0) N1)) ([mV a1 (some 0), .ref bs, .int y2, mV a2 (some 1), mV a2 (some 2), mV a2 (some 3), mV a2 (some 4), mV a2 (some 5), mV a2 (some 6), mV a2 (some 7)] : List Value).toArray s b (18 * b) (pA a1 a2 (mN σ0) N1)) (F0 m 8 ls []) := by
    refine m_loop (fun n8 ih8 => ?_)
    intro x11_8 u_8 σ_8 τ_8 H locs ls hu_8 h_8 hM_8 hl_8
    replace h_8 := hI8 n8 x11_8 u_8 σ_8 τ_8 h_8
    refine lv_iload hx hb dL_runs_8 (ml_at hl_8 11 rfl) ?_
    refine lv_bipush (v := 60) hx hb dL_runs_10 (by decide) ?_
    refine lv_icmp_ge (tgt := 26) hx hb dL_runs_12 (by decide) (fun hc2 => ?_) (fun hc2 => ?_)
    · replace h_8 := h_8.1 hc2
      refine lv_iconst (v := 0) hx hb dL_runs_26 (by decide) ?_
      refine mr_istore (lv' := [(11, .int (0 : Int32)), (0, mV a1 (some 0)), (1, .ref bs), (2, .int y2), (3, mV a2 (some 1)), (4, mV a2 (some 2)), (5, mV a2 (some 3)), (6, mV a2 (some 4)), (7, mV a2 (some 5)), (8, mV a2 (some 6)), (9, mV a2 (some 7)), (10, mV a2 (some 0))]) C hl_8 dL_runs_27 (by decide) rfl (fun ls hl3 => ?_)
      clear hl_8
      obtain ⟨I29, hI29, nn29, h_8⟩ := h_8
      have hL29 : ∀ (n29 : Nat) (x11_29 : Int32) (u_29 : Nat) (σ_29 τ_29 : mS) (H : Heap) (locs : List Loc) (ls : Array Slot), u_29 ≤ b → I29 n29 x11_29 u_29 σ_29 τ_29 → pM G a1 a2 (mN σ0) s σ_29 τ_29 H locs → ml_has ls 21 [(0, mV a1 (some 0)), (1, .ref bs), (2, .int y2), (3, mV a2 (some 1)), (4, mV a2 (some 2)), (5, mV a2 (some 3)), (6, mV a2 (some 4)), (7, mV a2 (some 5)), (8, mV a2 (some 6)), (9, mV a2 (some 7)), (10, mV a2 (some 0)), (11, .int x11_29)] → W p l e (mRb 10 213 b) s m ([mV a1 (some 0), .ref bs, .int y2, mV a2 (some 1), mV a2 (some 2), mV a2 (some 3), mV a2 (some 4), mV a2 (some 5), mV a2 (some 6), mV a2 (some 7)] : List Value).toArray below meth c H locs u_29 (18 * u_29) (MQ below (va_Qi (fun r (q : mS × mS) => Q r q.1 q.2 ∧ narrow .boolean (.int r) = .int r) (pPost G N1 a1 a2 (mN σ0)) (pA a1 a2 (mN σ0) N1)) ([mV a1 (some 0), .ref bs, .int y2, mV a2 (some 1), mV a2 (some 2), mV a2 (some 3), mV a2 (some 4), mV a2 (some 5), mV a2 (some 6), mV a2 (some 7)] : List Value).toArray s b (18 * b) (pA a1 a2 (mN σ0) N1)) (F0 m 29 ls []) := by
        refine m_loop (fun n29 ih29 => ?_)
        intro x11_29 u_29 σ_29 τ_29 H locs ls hu_29 h_29 hM_29 hl_29
        replace h_29 := hI29 n29 x11_29 u_29 σ_29 τ_29 h_29
        refine lv_iload hx hb dL_runs_29 (ml_at hl_29 11 rfl) ?_
        refine lv_bipush (v := 6) hx hb dL_runs_31 (by decide) ?_
        refine lv_icmp_ge (tgt := 82) hx hb dL_runs_33 (by decide) (fun hc4 => ?_) (fun hc4 => ?_)
        · replace h_29 := h_29.1 hc4
          refine mr_aload_n C dL_runs_82 rfl (ml_at hl_29 0 rfl) ?_
          refine lv_iconst (v := 0) hx hb dL_runs_83 (by decide) ?_
          refine mr_aload_n C dL_runs_84 rfl (ml_at hl_29 3 rfl) ?_
          refine mr_aload C dL_runs_85 (ml_at hl_29 4 rfl) ?_
          refine mr_aload C dL_runs_87 (ml_at hl_29 5 rfl) ?_
          refine mr_aload C dL_runs_89 (ml_at hl_29 6 rfl) ?_
          refine mr_aload C dL_runs_91 (ml_at hl_29 8 rfl) ?_
          refine mr_aload C dL_runs_93 (ml_at hl_29 10 rfl) ?_
          obtain ⟨k8, hk8, h_29⟩ := h_29
          refine pr_pi (As := fun a => [mV a (some 0), .int (0 : Int32), mV a2 (some 1), mV a2 (some 2), mV a2 (some 3), mV a2 (some 4), mV a2 (some 6), mV a2 (some 0)]) C E hM_29 (fun a ha => by simp only [mV_some, ha]) hl_29.1.1 cw_L_138 (fun a N1 => c_L_isTold l hfl G N0 N1 a a2 (0 : Int32) _ _ k8 _ h_29) (n := 8) ⟨rfl, by decide, by decide, by decide +kernel⟩ rfl rfl ⟨Nat.le_of_ble_eq_true rfl, Nat.le_of_ble_eq_true rfl⟩ m_c0 (Nat.le_of_ble_eq_true rfl) dL_runs_95 hk8 (fun x7 σ9 τ10 H locs h5 hzx7 hM6 => ?_)
          clear h_29 hM_29
          refine lv_if_ne (tgt := 103) hx hb dL_runs_98 (by decide) (fun hc11 => ?_) (fun hc11 => ?_)
          · replace h5 := h5.1 hc11
            refine lv_iload_n hx hb dL_runs_103 rfl (ml_at hl_29 2 rfl) ?_
            refine mr_istore (lv' := [(11, .int y2), (0, mV a1 (some 0)), (1, .ref bs), (2, .int y2), (3, mV a2 (some 1)), (4, mV a2 (some 2)), (5, mV a2 (some 3)), (6, mV a2 (some 4)), (7, mV a2 (some 5)), (8, mV a2 (some 6)), (9, mV a2 (some 7)), (10, mV a2 (some 0))]) C hl_29 dL_runs_104 (by decide) rfl (fun ls hl12 => ?_)
            clear hl_29
            obtain ⟨I106, hI106, nn106, h5⟩ := h5
            have hL106 : ∀ (n106 : Nat) (x11_106 : Int32) (u_106 : Nat) (σ_106 τ_106 : mS) (H : Heap) (locs : List Loc) (ls : Array Slot), u_106 ≤ b → I106 n106 x11_106 u_106 σ_106 τ_106 → pM G a1 a2 (mN σ0) s σ_106 τ_106 H locs → ml_has ls 21 [(0, mV a1 (some 0)), (1, .ref bs), (2, .int y2), (3, mV a2 (some 1)), (4, mV a2 (some 2)), (5, mV a2 (some 3)), (6, mV a2 (some 4)), (7, mV a2 (some 5)), (8, mV a2 (some 6)), (9, mV a2 (some 7)), (10, mV a2 (some 0)), (11, .int x11_106)] → W p l e (mRb 10 213 b) s m ([mV a1 (some 0), .ref bs, .int y2, mV a2 (some 1), mV a2 (some 2), mV a2 (some 3), mV a2 (some 4), mV a2 (some 5), mV a2 (some 6), mV a2 (some 7)] : List Value).toArray below meth c H locs u_106 (18 * u_106) (MQ below (va_Qi (fun r (q : mS × mS) => Q r q.1 q.2 ∧ narrow .boolean (.int r) = .int r) (pPost G N1 a1 a2 (mN σ0)) (pA a1 a2 (mN σ0) N1)) ([mV a1 (some 0), .ref bs, .int y2, mV a2 (some 1), mV a2 (some 2), mV a2 (some 3), mV a2 (some 4), mV a2 (some 5), mV a2 (some 6), mV a2 (some 7)] : List Value).toArray s b (18 * b) (pA a1 a2 (mN σ0) N1)) (F0 m 106 ls []) := by
              refine m_loop (fun n106 ih106 => ?_)
              intro x11_106 u_106 σ_106 τ_106 H locs ls hu_106 h_106 hM_106 hl_106
              replace h_106 := hI106 n106 x11_106 u_106 σ_106 τ_106 h_106
              refine lv_iload hx hb dL_runs_106 (ml_at hl_106 11 rfl) ?_
              refine lv_iload_n hx hb dL_runs_108 rfl (ml_at hl_106 2 rfl) ?_
              refine lv_bipush (v := 70) hx hb dL_runs_109 (by decide) ?_
              refine lv_iadd hx hb dL_runs_111 ?_
              refine lv_icmp_ge (tgt := 585) hx hb dL_runs_112 (by decide) (fun hc13 => ?_) (fun hc13 => ?_)
              · replace h_106 := h_106.1 hc13
                refine lv_iconst (v := 1) hx hb dL_runs_585 (by decide) ?_
                exact mr_wi hu_106 (pr_zret C hM_106 hN hr hlk rfl h_106 dL_runs_586)
              · replace h_106 := h_106.2 hc13
                refine lv_aload_n hx hb dL_runs_115 rfl (ml_at hl_106 1 rfl) ?_
                refine lv_iconst (v := 3) hx hb dL_runs_116 (by decide) ?_
                refine lv_iload hx hb dL_runs_117 (ml_at hl_106 11 rfl) ?_
                refine lv_imul hx hb dL_runs_119 ?_
                obtain ⟨j17, ej18, ej18b, h_106⟩ := h_106
                refine pr_cell C E hM_106 hX hbs hL ej18 ej18b hl_106.1.1 cw_L_142 ⟨Nat.le_of_ble_eq_true rfl, Nat.le_of_ble_eq_true rfl⟩ m_c0 (Nat.le_of_ble_eq_true rfl) dL_runs_120 ⟨hu_106, Nat.mul_le_mul_left 18 hu_106⟩ (fun H locs hM19 => ?_)
                clear hM_106
                refine mr_istore (lv' := [(12, .int (pCell L xs j17)), (0, mV a1 (some 0)), (1, .ref bs), (2, .int y2), (3, mV a2 (some 1)), (4, mV a2 (some 2)), (5, mV a2 (some 3)), (6, mV a2 (some 4)), (7, mV a2 (some 5)), (8, mV a2 (some 6)), (9, mV a2 (some 7)), (10, mV a2 (some 0)), (11, .int x11_106)]) C hl_106 dL_runs_123 (by decide) rfl (fun ls hl20 => ?_)
                clear hl_106
                refine lv_aload_n hx hb dL_runs_125 rfl (ml_at hl20 2 rfl) ?_
                refine lv_iconst (v := 3) hx hb dL_runs_126 (by decide) ?_
                refine lv_iload hx hb dL_runs_127 (ml_at hl20 12 rfl) ?_
                refine lv_imul hx hb dL_runs_129 ?_
                refine lv_iconst (v := 1) hx hb dL_runs_130 (by decide) ?_
                refine lv_iadd hx hb dL_runs_131 ?_
                obtain ⟨j24, ej25, ej25b, h_106⟩ := h_106
                refine pr_cell C E hM19 hX hbs hL ej25 ej25b hl20.1.1 cw_L_142 ⟨Nat.le_of_ble_eq_true rfl, Nat.le_of_ble_eq_true rfl⟩ m_c0 (Nat.le_of_ble_eq_true rfl) dL_runs_132 ⟨hu_106, Nat.mul_le_mul_left 18 hu_106⟩ (fun H locs hM26 => ?_)
                clear hM19
                refine mr_istore (lv' := [(13, .int (pCell L xs j24)), (12, .int (pCell L xs j17)), (0, mV a1 (some 0)), (1, .ref bs), (2, .int y2), (3, mV a2 (some 1)), (4, mV a2 (some 2)), (5, mV a2 (some 3)), (6, mV a2 (some 4)), (7, mV a2 (some 5)), (8, mV a2 (some 6)), (9, mV a2 (some 7)), (10, mV a2 (some 0)), (11, .int x11_106)]) C hl20 dL_runs_135 (by decide) rfl (fun ls hl27 => ?_)
                clear hl20
                refine lv_aload_n hx hb dL_runs_137 rfl (ml_at hl27 3 rfl) ?_
                refine lv_iconst (v := 3) hx hb dL_runs_138 (by decide) ?_
                refine lv_iload hx hb dL_runs_139 (ml_at hl27 13 rfl) ?_
                refine lv_imul hx hb dL_runs_141 ?_
                refine lv_iconst (v := 2) hx hb dL_runs_142 (by decide) ?_
                refine lv_iadd hx hb dL_runs_143 ?_
                obtain ⟨j31, ej32, ej32b, h_106⟩ := h_106
                refine pr_cell C E hM26 hX hbs hL ej32 ej32b hl27.1.1 cw_L_142 ⟨Nat.le_of_ble_eq_true rfl, Nat.le_of_ble_eq_true rfl⟩ m_c0 (Nat.le_of_ble_eq_true rfl) dL_runs_144 ⟨hu_106, Nat.mul_le_mul_left 18 hu_106⟩ (fun H locs hM33 => ?_)
                clear hM26
                refine mr_istore (lv' := [(14, .int (pCell L xs j31)), (13, .int (pCell L xs j24)), (12, .int (pCell L xs j17)), (0, mV a1 (some 0)), (1, .ref bs), (2, .int y2), (3, mV a2 (some 1)), (4, mV a2 (some 2)), (5, mV a2 (some 3)), (6, mV a2 (some 4)), (7, mV a2 (some 5)), (8, mV a2 (some 6)), (9, mV a2 (some 7)), (10, mV a2 (some 0)), (11, .int x11_106)]) C hl27 dL_runs_147 (by decide) rfl (fun ls hl34 => ?_)
                clear hl27
                refine lv_iload hx hb dL_runs_149 (ml_at hl34 14 rfl) ?_
                refine lv_iload_n hx hb dL_runs_151 rfl (ml_at hl34 5 rfl) ?_
                refine lv_bipush (v := 6) hx hb dL_runs_152 (by decide) ?_
                refine lv_iadd hx hb dL_runs_154 ?_
                refine lv_icmp_ge (tgt := 162) hx hb dL_runs_155 (by decide) (fun hc35 => ?_) (fun hc35 => ?_)
                · replace h_106 := h_106.1 hc35
                  refine lv_iload hx hb dL_runs_162 (ml_at hl34 2 rfl) ?_
                  refine lv_bipush (v := 22) hx hb dL_runs_164 (by decide) ?_
                  refine pr_li (As := fun ad => [.int (pCell L xs j17), .int (22 : Int32)]) C hM33 (fun _ _ => rfl) hl34.1.1 cw_L_83 (fun ad => c_L_low l G ad (pCell L xs j17) (22 : Int32) _ _ h_106) (fun _ _ q => q.1) (n := 2) ⟨rfl, by decide, by decide, by decide +kernel⟩ rfl rfl ⟨Nat.le_of_ble_eq_true rfl, Nat.le_of_ble_eq_true rfl⟩ m_c0 (Nat.le_of_ble_eq_true rfl) dL_runs_166 ⟨hu_106, Nat.mul_le_mul_left 18 hu_106⟩ (fun x38 τ39 H locs h36 hM37 => ?_)
                  clear h_106 hM33
                  replace h36 := h36.2
                  refine mr_istore (lv' := [(15, .int x38), (14, .int (pCell L xs j31)), (13, .int (pCell L xs j24)), (12, .int (pCell L xs j17)), (0, mV a1 (some 0)), (1, .ref bs), (2, .int y2), (3, mV a2 (some 1)), (4, mV a2 (some 2)), (5, mV a2 (some 3)), (6, mV a2 (some 4)), (7, mV a2 (some 5)), (8, mV a2 (some 6)), (9, mV a2 (some 7)), (10, mV a2 (some 0)), (11, .int x11_106)]) C hl34 dL_runs_169 (by decide) rfl (fun ls hl40 => ?_)
                  clear hl34
                  refine lv_iconst (v := 0) hx hb dL_runs_171 (by decide) ?_
                  refine mr_istore (lv' := [(16, .int (0 : Int32)), (15, .int x38), (14, .int (pCell L xs j31)), (13, .int (pCell L xs j24)), (12, .int (pCell L xs j17)), (0, mV a1 (some 0)), (1, .ref bs), (2, .int y2), (3, mV a2 (some 1)), (4, mV a2 (some 2)), (5, mV a2 (some 3)), (6, mV a2 (some 4)), (7, mV a2 (some 5)), (8, mV a2 (some 6)), (9, mV a2 (some 7)), (10, mV a2 (some 0)), (11, .int x11_106)]) C hl40 dL_runs_172 (by decide) rfl (fun ls hl41 => ?_)
                  clear hl40
                  refine lv_iconst (v := 0) hx hb dL_runs_174 (by decide) ?_
                  refine mr_istore (lv' := [(17, .int (0 : Int32)), (16, .int (0 : Int32)), (15, .int x38), (14, .int (pCell L xs j31)), (13, .int (pCell L xs j24)), (12, .int (pCell L xs j17)), (0, mV a1 (some 0)), (1, .ref bs), (2, .int y2), (3, mV a2 (some 1)), (4, mV a2 (some 2)), (5, mV a2 (some 3)), (6, mV a2 (some 4)), (7, mV a2 (some 5)), (8, mV a2 (some 6)), (9, mV a2 (some 7)), (10, mV a2 (some 0)), (11, .int x11_106)]) C hl41 dL_runs_175 (by decide) rfl (fun ls hl42 => ?_)
                  clear hl41
                  obtain ⟨I177, hI177, nn177, h36⟩ := h36
                  have hL177 : ∀ (n177 : Nat) (x16_177 : Int32) (x17_177 : Int32) (u_177 : Nat) (σ_177 τ_177 : mS) (H : Heap) (locs : List Loc) (ls : Array Slot), u_177 ≤ b → I177 n177 x16_177 x17_177 u_177 σ_177 τ_177 → pM G a1 a2 (mN σ0) s σ_177 τ_177 H locs → ml_has ls 21 [(0, mV a1 (some 0)), (1, .ref bs), (2, .int y2), (3, mV a2 (some 1)), (4, mV a2 (some 2)), (5, mV a2 (some 3)), (6, mV a2 (some 4)), (7, mV a2 (some 5)), (8, mV a2 (some 6)), (9, mV a2 (some 7)), (10, mV a2 (some 0)), (11, .int x11_106), (12, .int (pCell L xs j17)), (13, .int (pCell L xs j24)), (14, .int (pCell L xs j31)), (15, .int x38), (16, .int x16_177), (17, .int x17_177)] → W p l e (mRb 10 213 b) s m ([mV a1 (some 0), .ref bs, .int y2, mV a2 (some 1), mV a2 (some 2), mV a2 (some 3), mV a2 (some 4), mV a2 (some 5), mV a2 (some 6), mV a2 (some 7)] : List Value).toArray below meth c H locs u_177 (18 * u_177) (MQ below (va_Qi (fun r (q : mS × mS) => Q r q.1 q.2 ∧ narrow .boolean (.int r) = .int r) (pPost G N1 a1 a2 (mN σ0)) (pA a1 a2 (mN σ0) N1)) ([mV a1 (some 0), .ref bs, .int y2, mV a2 (some 1), mV a2 (some 2), mV a2 (some 3), mV a2 (some 4), mV a2 (some 5), mV a2 (some 6), mV a2 (some 7)] : List Value).toArray s b (18 * b) (pA a1 a2 (mN σ0) N1)) (F0 m 177 ls []) := by
                    refine m_loop (fun n177 ih177 => ?_)
                    intro x16_177 x17_177 u_177 σ_177 τ_177 H locs ls hu_177 h_177 hM_177 hl_177
                    replace h_177 := hI177 n177 x16_177 x17_177 u_177 σ_177 τ_177 h_177
                    refine lv_iload hx hb dL_runs_177 (ml_at hl_177 17 rfl) ?_
                    refine mr_aload C dL_runs_179 (ml_at hl_177 10 rfl) ?_
                    refine lv_iconst (v := 1) hx hb dL_runs_181 (by decide) ?_
                    obtain ⟨j43, ej44, ej44b, h_177⟩ := h_177
                    refine pr_iald C hM_177 (i := 0) rfl (by decide) ej44 ej44b (by decide) dL_runs_182 ?_
                    refine lv_icmp_ge (tgt := 228) hx hb dL_runs_183 (by decide) (fun hc45 => ?_) (fun hc45 => ?_)
                    · replace h_177 := h_177.1 hc45
                      refine mr_aload C dL_runs_228 (ml_at hl_177 10 rfl) ?_
                      refine lv_iconst (v := 1) hx hb dL_runs_230 (by decide) ?_
                      obtain ⟨j46, ej47, ej47b, h_177⟩ := h_177
                      refine pr_iald C hM_177 (i := 0) rfl (by decide) ej47 ej47b (by decide) dL_runs_231 ?_
                      refine lv_iload hx hb dL_runs_232 (ml_at hl_177 16 rfl) ?_
                      refine lv_iadd hx hb dL_runs_234 ?_
                      refine lv_bipush (v := 58) hx hb dL_runs_235 (by decide) ?_
                      refine lv_icmp_le (tgt := 242) hx hb dL_runs_237 (by decide) (fun hc48 => ?_) (fun hc48 => ?_)
                      · replace h_177 := h_177.1 hc48
                        refine lv_iconst (v := 1) hx hb dL_runs_242 (by decide) ?_
                        refine mr_istore (lv' := [(17, .int (1 : Int32)), (0, mV a1 (some 0)), (1, .ref bs), (2, .int y2), (3, mV a2 (some 1)), (4, mV a2 (some 2)), (5, mV a2 (some 3)), (6, mV a2 (some 4)), (7, mV a2 (some 5)), (8, mV a2 (some 6)), (9, mV a2 (some 7)), (10, mV a2 (some 0)), (11, .int x11_106), (12, .int (pCell L xs j17)), (13, .int (pCell L xs j24)), (14, .int (pCell L xs j31)), (15, .int x38), (16, .int x16_177)]) C hl_177 dL_runs_243 (by decide) rfl (fun ls hl49 => ?_)
                        clear hl_177
                        refine lv_iload hx hb dL_runs_245 (ml_at hl49 16 rfl) ?_
                        refine lv_bipush (v := 9) hx hb dL_runs_247 (by decide) ?_
                        obtain ⟨J547, hJ547, h_177⟩ := h_177
                        have hj547 : ∀ (x17_547 : Int32) (u_547 : Nat) (σ_547 τ_547 : mS) (H : Heap) (locs : List Loc) (ls : Array Slot), u_547 ≤ b → J547 x17_547 u_547 σ_547 τ_547 → pM G a1 a2 (mN σ0) s σ_547 τ_547 H locs → ml_has ls 21 [(0, mV a1 (some 0)), (1, .ref bs), (2, .int y2), (3, mV a2 (some 1)), (4, mV a2 (some 2)), (5, mV a2 (some 3)), (6, mV a2 (some 4)), (7, mV a2 (some 5)), (8, mV a2 (some 6)), (9, mV a2 (some 7)), (10, mV a2 (some 0)), (11, .int x11_106), (12, .int (pCell L xs j17)), (13, .int (pCell L xs j24)), (17, .int x17_547)] → W p l e (mRb 10 213 b) s m ([mV a1 (some 0), .ref bs, .int y2, mV a2 (some 1), mV a2 (some 2), mV a2 (some 3), mV a2 (some 4), mV a2 (some 5), mV a2 (some 6), mV a2 (some 7)] : List Value).toArray below meth c H locs u_547 (18 * u_547) (MQ below (va_Qi (fun r (q : mS × mS) => Q r q.1 q.2 ∧ narrow .boolean (.int r) = .int r) (pPost G N1 a1 a2 (mN σ0)) (pA a1 a2 (mN σ0) N1)) ([mV a1 (some 0), .ref bs, .int y2, mV a2 (some 1), mV a2 (some 2), mV a2 (some 3), mV a2 (some 4), mV a2 (some 5), mV a2 (some 6), mV a2 (some 7)] : List Value).toArray s b (18 * b) (pA a1 a2 (mN σ0) N1)) (F0 m 547 ls []) := by
                          intro x17_547 u_547 σ_547 τ_547 H locs ls hu_547 h_547 hM_547 hl_547
                          replace h_547 := hJ547 x17_547 u_547 σ_547 τ_547 h_547
                          refine lv_iload hx hb dL_runs_547 (ml_at hl_547 14 rfl) ?_
                          refine lv_if_eq (tgt := 577) hx hb dL_runs_549 (by decide) (fun hc50 => ?_) (fun hc50 => ?_)
                          · replace h_547 := h_547.1 hc50
                            refine lv_iconst (v := 0) hx hb dL_runs_577 (by decide) ?_
                            exact mr_wi hu_547 (pr_zret C hM_547 hN hr hlk rfl h_547 dL_runs_578)
                          · replace h_547 := h_547.2 hc50
                            refine mr_aload_n C dL_runs_552 rfl (ml_at hl_547 0 rfl) ?_
                            refine lv_iload hx hb dL_runs_553 (ml_at hl_547 12 rfl) ?_
                            refine lv_iconst (v := 5) hx hb dL_runs_555 (by decide) ?_
                            refine lv_ishr hx hb dL_runs_556 ?_
                            refine lv_iload hx hb dL_runs_557 (ml_at hl_547 13 rfl) ?_
                            refine lv_ixor hx hb dL_runs_559 ?_
                            refine mr_aload_n C dL_runs_560 rfl (ml_at hl_547 3 rfl) ?_
                            refine mr_aload C dL_runs_561 (ml_at hl_547 4 rfl) ?_
                            refine mr_aload C dL_runs_563 (ml_at hl_547 5 rfl) ?_
                            refine mr_aload C dL_runs_565 (ml_at hl_547 6 rfl) ?_
                            refine mr_aload C dL_runs_567 (ml_at hl_547 8 rfl) ?_
                            refine mr_aload C dL_runs_569 (ml_at hl_547 10 rfl) ?_
                            obtain ⟨k54, hk54, h_547⟩ := h_547
                            refine pr_pi (As := fun a => [mV a (some 0), .int (((pCell L xs j17) >>> ((5 : Int32) &&& 31)) ^^^ (pCell L xs j24)), mV a2 (some 1), mV a2 (some 2), mV a2 (some 3), mV a2 (some 4), mV a2 (some 6), mV a2 (some 0)]) C E hM_547 (fun a ha => by simp only [mV_some, ha]) hl_547.1.1 cw_L_138 (fun a N1 => c_L_isTold l hfl G N0 N1 a a2 (((pCell L xs j17) >>> ((5 : Int32) &&& 31)) ^^^ (pCell L xs j24)) _ _ k54 _ h_547) (n := 8) ⟨rfl, by decide, by decide, by decide +kernel⟩ rfl rfl ⟨Nat.le_of_ble_eq_true rfl, Nat.le_of_ble_eq_true rfl⟩ m_c0 (Nat.le_of_ble_eq_true rfl) dL_runs_571 hk54 (fun x53 σ55 τ56 H locs h51 hzx53 hM52 => ?_)
                            clear h_547 hM_547
                            refine lv_if_ne (tgt := 579) hx hb dL_runs_574 (by decide) (fun hc57 => ?_) (fun hc57 => ?_)
                            · replace h51 := h51.1 hc57
                              refine mr_iinc (v := (x11_106 + 1)) (lv' := [(11, .int (x11_106 + 1)), (0, mV a1 (some 0)), (1, .ref bs), (2, .int y2), (3, mV a2 (some 1)), (4, mV a2 (some 2)), (5, mV a2 (some 3)), (6, mV a2 (some 4)), (7, mV a2 (some 5)), (8, mV a2 (some 6)), (9, mV a2 (some 7)), (10, mV a2 (some 0)), (12, .int (pCell L xs j17)), (13, .int (pCell L xs j24)), (17, .int x17_547)]) C hl_547 dL_runs_579 (k := 11) rfl rfl (by decide) rfl (fun ls hl58 => ?_)
                              clear hl_547
                              refine lv_goto (tgt := 106) hx hb dL_runs_582 (by decide) ?_
                              obtain ⟨k59, hk59, h51⟩ := h51
                              exact ih106 k59 hk59 (x11_106 + 1) (u_547 + k54) σ55 τ56 _ _ _ hk54 h51 hM52 (ml_sub hl58 [1, 2, 3, 4, 5, 6, 7, 8, 9, 10, 11, 0] rfl)
                            · replace h51 := h51.2 hc57
                              refine lv_iconst (v := 0) hx hb dL_runs_577 (by decide) ?_
                              exact mr_wi hk54 (pr_zret C hM52 hN hr hlk rfl h51 dL_runs_578)
                        refine lv_icmp_ge (tgt := 268) hx hb dL_runs_249 (by decide) (fun hc60 => ?_) (fun hc60 => ?_)
                        · replace h_177 := h_177.1 hc60
                          refine lv_iload hx hb dL_runs_268 (ml_at hl49 16 rfl) ?_
                          refine lv_bipush (v := 14) hx hb dL_runs_270 (by decide) ?_
                          refine lv_icmp_ge (tgt := 375) hx hb dL_runs_272 (by decide) (fun hc61 => ?_) (fun hc61 => ?_)
                          · replace h_177 := h_177.1 hc61
                            refine lv_iload hx hb dL_runs_375 (ml_at hl49 16 rfl) ?_
                            refine lv_bipush (v := 14) hx hb dL_runs_377 (by decide) ?_
                            obtain ⟨J494, hJ494, h_177⟩ := h_177
                            have hj494 : ∀ (x17_494 : Int32) (u_494 : Nat) (σ_494 τ_494 : mS) (H : Heap) (locs : List Loc) (ls : Array Slot), u_494 ≤ b → J494 x17_494 u_494 σ_494 τ_494 → pM G a1 a2 (mN σ0) s σ_494 τ_494 H locs → ml_has ls 21 [(0, mV a1 (some 0)), (1, .ref bs), (2, .int y2), (3, mV a2 (some 1)), (4, mV a2 (some 2)), (5, mV a2 (some 3)), (6, mV a2 (some 4)), (7, mV a2 (some 5)), (8, mV a2 (some 6)), (9, mV a2 (some 7)), (10, mV a2 (some 0)), (11, .int x11_106), (12, .int (pCell L xs j17)), (13, .int (pCell L xs j24)), (15, .int x38), (17, .int x17_494)] → W p l e (mRb 10 213 b) s m ([mV a1 (some 0), .ref bs, .int y2, mV a2 (some 1), mV a2 (some 2), mV a2 (some 3), mV a2 (some 4), mV a2 (some 5), mV a2 (some 6), mV a2 (some 7)] : List Value).toArray below meth c H locs u_494 (18 * u_494) (MQ below (va_Qi (fun r (q : mS × mS) => Q r q.1 q.2 ∧ narrow .boolean (.int r) = .int r) (pPost G N1 a1 a2 (mN σ0)) (pA a1 a2 (mN σ0) N1)) ([mV a1 (some 0), .ref bs, .int y2, mV a2 (some 1), mV a2 (some 2), mV a2 (some 3), mV a2 (some 4), mV a2 (some 5), mV a2 (some 6), mV a2 (some 7)] : List Value).toArray s b (18 * b) (pA a1 a2 (mN σ0) N1)) (F0 m 494 ls []) := by
                              intro x17_494 u_494 σ_494 τ_494 H locs ls hu_494 h_494 hM_494 hl_494
                              replace h_494 := hJ494 x17_494 u_494 σ_494 τ_494 h_494
                              refine lv_iload hx hb dL_runs_494 (ml_at hl_494 14 rfl) ?_
                              refine lv_bipush (v := 14) hx hb dL_runs_496 (by decide) ?_
                              refine lv_icmp_le (tgt := 547) hx hb dL_runs_498 (by decide) (fun hc62 => ?_) (fun hc62 => ?_)
                              · replace h_494 := h_494.1 hc62
                                exact hj547 x17_494 u_494 σ_494 τ_494 _ _ _ hu_494 h_494 hM_494 (ml_sub hl_494 [0, 1, 2, 3, 4, 5, 6, 7, 8, 9, 10, 11, 12, 13, 15] rfl)
                              · replace h_494 := h_494.2 hc62
                                refine mr_aload C dL_runs_501 (ml_at hl_494 10 rfl) ?_
                                refine lv_iconst (v := 2) hx hb dL_runs_503 (by decide) ?_
                                obtain ⟨j63, ej64, ej64b, h_494⟩ := h_494
                                refine pr_iald C hM_494 (i := 0) rfl (by decide) ej64 ej64b (by decide) dL_runs_504 ?_
                                refine mr_istore (lv' := [(18, .int (mI τ_494 0 j63)), (0, mV a1 (some 0)), (1, .ref bs), (2, .int y2), (3, mV a2 (some 1)), (4, mV a2 (some 2)), (5, mV a2 (some 3)), (6, mV a2 (some 4)), (7, mV a2 (some 5)), (8, mV a2 (some 6)), (9, mV a2 (some 7)), (10, mV a2 (some 0)), (11, .int x11_106), (12, .int (pCell L xs j17)), (13, .int (pCell L xs j24)), (15, .int x38), (17, .int x17_494)]) C hl_494 dL_runs_505 (by decide) rfl (fun ls hl65 => ?_)
                                clear hl_494
                                refine mr_aload_n C dL_runs_507 rfl (ml_at hl65 4 rfl) ?_
                                refine mr_aload C dL_runs_508 (ml_at hl65 5 rfl) ?_
                                refine mr_aload C dL_runs_510 (ml_at hl65 6 rfl) ?_
                                refine mr_aload C dL_runs_512 (ml_at hl65 7 rfl) ?_
                                refine mr_aload C dL_runs_514 (ml_at hl65 8 rfl) ?_
                                refine mr_aload C dL_runs_516 (ml_at hl65 9 rfl) ?_
                                refine mr_aload C dL_runs_518 (ml_at hl65 10 rfl) ?_
                                refine mr_aload C dL_runs_520 (ml_at hl65 11 rfl) ?_
                                refine pr_lv (As := fun ad => [mV ad (some 1), mV ad (some 2), mV ad (some 3), mV ad (some 4), mV ad (some 5), mV ad (some 6), mV ad (some 7), mV ad (some 0)]) C hM_494 (fun ad had => by simp only [mV_some, had 1 (by decide), had 2 (by decide), had 3 (by decide), had 4 (by decide), had 5 (by decide), had 6 (by decide), had 7 (by decide), had 0 (by decide)]) hl65.1.1 cw_L_150 (fun ad => c_L_tick l G ad  _ _ h_494) (fun _ q => q.1) (n := 8) ⟨rfl, by decide, by decide, by decide +kernel⟩ rfl rfl ⟨Nat.le_of_ble_eq_true rfl, Nat.le_of_ble_eq_true rfl⟩ m_c0 (Nat.le_of_ble_eq_true rfl) dL_runs_522 ⟨hu_494, Nat.mul_le_mul_left 18 hu_494⟩ (fun τ69 H locs h66 hM67 => ?_)
                                clear h_494 hM_494
                                replace h66 := h66.2
                                refine mr_aload_n C dL_runs_525 rfl (ml_at hl65 1 rfl) ?_
                                refine lv_iconst (v := 1) hx hb dL_runs_526 (by decide) ?_
                                obtain ⟨hr73, h66⟩ := h66
                                obtain ⟨k75, hk75, h66⟩ := h66
                                refine pr_wi (Is := [.int (1 : Int32)]) C E hM67 hr73 hl65.1.1 cl_L_134 (fun ad => c_L_pass l hfl G ad (1 : Int32) _ _ _ h66) (fun _ _ q => q.1) (n := 2) ⟨by decide, by decide, by decide +kernel⟩ rfl rfl ⟨Nat.le_of_ble_eq_true rfl, Nat.le_of_ble_eq_true rfl⟩ m_c0 (Nat.le_of_ble_eq_true rfl) dL_runs_527 hk75 (fun x72 σ74 H locs h70 hM71 => ?_)
                                clear h66 hM67
                                replace h70 := h70.2
                                refine mr_aload C dL_runs_530 (ml_at hl65 11 rfl) ?_
                                refine lv_iconst (v := 2) hx hb dL_runs_532 (by decide) ?_
                                obtain ⟨j76, ej77, ej77b, h70⟩ := h70
                                refine pr_iald C hM71 (i := 0) rfl (by decide) ej77 ej77b (by decide) dL_runs_533 ?_
                                refine lv_iload hx hb dL_runs_534 (ml_at hl65 0 rfl) ?_
                                refine lv_isub hx hb dL_runs_536 ?_
                                obtain ⟨J545, hJ545, h70⟩ := h70
                                have hj545 : ∀ (xk0_545 : Int32) (u_545 : Nat) (σ_545 τ_545 : mS) (H : Heap) (locs : List Loc) (ls : Array Slot), u_545 ≤ b → J545 xk0_545 u_545 σ_545 τ_545 → pM G a1 a2 (mN σ0) s σ_545 τ_545 H locs → ml_has ls 21 [(0, mV a1 (some 0)), (1, .ref bs), (2, .int y2), (3, mV a2 (some 1)), (4, mV a2 (some 2)), (5, mV a2 (some 3)), (6, mV a2 (some 4)), (7, mV a2 (some 5)), (8, mV a2 (some 6)), (9, mV a2 (some 7)), (10, mV a2 (some 0)), (11, .int x11_106), (12, .int (pCell L xs j17)), (13, .int (pCell L xs j24))] → W p l e (mRb 10 213 b) s m ([mV a1 (some 0), .ref bs, .int y2, mV a2 (some 1), mV a2 (some 2), mV a2 (some 3), mV a2 (some 4), mV a2 (some 5), mV a2 (some 6), mV a2 (some 7)] : List Value).toArray below meth c H locs u_545 (18 * u_545) (MQ below (va_Qi (fun r (q : mS × mS) => Q r q.1 q.2 ∧ narrow .boolean (.int r) = .int r) (pPost G N1 a1 a2 (mN σ0)) (pA a1 a2 (mN σ0) N1)) ([mV a1 (some 0), .ref bs, .int y2, mV a2 (some 1), mV a2 (some 2), mV a2 (some 3), mV a2 (some 4), mV a2 (some 5), mV a2 (some 6), mV a2 (some 7)] : List Value).toArray s b (18 * b) (pA a1 a2 (mN σ0) N1)) (F0 m 545 ls [.int xk0_545]) := by
                                  intro xk0_545 u_545 σ_545 τ_545 H locs ls hu_545 h_545 hM_545 hl_545
                                  replace h_545 := hJ545 xk0_545 u_545 σ_545 τ_545 h_545
                                  refine mr_istore (lv' := [(17, .int xk0_545), (0, mV a1 (some 0)), (1, .ref bs), (2, .int y2), (3, mV a2 (some 1)), (4, mV a2 (some 2)), (5, mV a2 (some 3)), (6, mV a2 (some 4)), (7, mV a2 (some 5)), (8, mV a2 (some 6)), (9, mV a2 (some 7)), (10, mV a2 (some 0)), (11, .int x11_106), (12, .int (pCell L xs j17)), (13, .int (pCell L xs j24))]) C hl_545 dL_runs_545 (by decide) rfl (fun ls hl78 => ?_)
                                  clear hl_545
                                  exact hj547 xk0_545 u_545 σ_545 τ_545 _ _ _ hu_545 h_545 hM_545 (ml_sub hl78 [1, 2, 3, 4, 5, 6, 7, 8, 9, 10, 11, 12, 13, 14, 0] rfl)
                                refine lv_icmp_ne (tgt := 544) hx hb dL_runs_537 (by decide) (fun hc79 => ?_) (fun hc79 => ?_)
                                · replace h70 := h70.1 hc79
                                  refine lv_iconst (v := 0) hx hb dL_runs_544 (by decide) ?_
                                  exact hj545 (0 : Int32) (u_494 + k75) σ74 τ69 _ _ _ hk75 h70 hM71 (ml_sub hl65 [1, 2, 3, 4, 5, 6, 7, 8, 9, 10, 11, 12, 13, 14] rfl)
                                · replace h70 := h70.2 hc79
                                  refine lv_iconst (v := 1) hx hb dL_runs_540 (by decide) ?_
                                  refine lv_goto (tgt := 545) hx hb dL_runs_541 (by decide) ?_
                                  exact hj545 (1 : Int32) (u_494 + k75) σ74 τ69 _ _ _ hk75 h70 hM71 (ml_sub hl65 [1, 2, 3, 4, 5, 6, 7, 8, 9, 10, 11, 12, 13, 14] rfl)
                            refine lv_icmp_ne (tgt := 494) hx hb dL_runs_379 (by decide) (fun hc80 => ?_) (fun hc80 => ?_)
                            · replace h_177 := h_177.1 hc80
                              exact hj494 (1 : Int32) u_177 σ_177 τ_177 _ _ _ hu_177 h_177 hM_177 (ml_sub hl49 [1, 2, 3, 4, 5, 6, 7, 8, 9, 10, 11, 12, 13, 14, 16, 0] rfl)
                            · replace h_177 := h_177.2 hc80
                              refine mr_aload C dL_runs_382 (ml_at hl49 11 rfl) ?_
                              refine lv_iconst (v := 1) hx hb dL_runs_384 (by decide) ?_
                              obtain ⟨j81, ej82, ej82b, h_177⟩ := h_177
                              refine pr_iald C hM_177 (i := 0) rfl (by decide) ej82 ej82b (by decide) dL_runs_385 ?_
                              refine lv_if_le (tgt := 494) hx hb dL_runs_386 (by decide) (fun hc83 => ?_) (fun hc83 => ?_)
                              · replace h_177 := h_177.1 hc83
                                exact hj494 (1 : Int32) u_177 σ_177 τ_177 _ _ _ hu_177 h_177 hM_177 (ml_sub hl49 [1, 2, 3, 4, 5, 6, 7, 8, 9, 10, 11, 12, 13, 14, 16, 0] rfl)
                              · replace h_177 := h_177.2 hc83
                                refine lv_iload hx hb dL_runs_389 (ml_at hl49 14 rfl) ?_
                                refine mr_aload C dL_runs_391 (ml_at hl49 11 rfl) ?_
                                refine lv_iconst (v := 1) hx hb dL_runs_393 (by decide) ?_
                                obtain ⟨j84, ej85, ej85b, h_177⟩ := h_177
                                refine pr_iald C hM_177 (i := 0) rfl (by decide) ej85 ej85b (by decide) dL_runs_394 ?_
                                refine pr_li (As := fun ad => [.int (pCell L xs j24), .int (mI τ_177 0 j84)]) C hM_177 (fun _ _ => rfl) hl49.1.1 cw_L_83 (fun ad => c_L_low l G ad (pCell L xs j24) (mI τ_177 0 j84) _ _ h_177) (fun _ _ q => q.1) (n := 2) ⟨rfl, by decide, by decide, by decide +kernel⟩ rfl rfl ⟨Nat.le_of_ble_eq_true rfl, Nat.le_of_ble_eq_true rfl⟩ m_c0 (Nat.le_of_ble_eq_true rfl) dL_runs_395 ⟨hu_177, Nat.mul_le_mul_left 18 hu_177⟩ (fun x88 τ89 H locs h86 hM87 => ?_)
                                clear h_177 hM_177
                                replace h86 := h86.2
                                refine mr_istore (lv' := [(18, .int x88), (17, .int (1 : Int32)), (0, mV a1 (some 0)), (1, .ref bs), (2, .int y2), (3, mV a2 (some 1)), (4, mV a2 (some 2)), (5, mV a2 (some 3)), (6, mV a2 (some 4)), (7, mV a2 (some 5)), (8, mV a2 (some 6)), (9, mV a2 (some 7)), (10, mV a2 (some 0)), (11, .int x11_106), (12, .int (pCell L xs j17)), (13, .int (pCell L xs j24)), (14, .int (pCell L xs j31)), (15, .int x38), (16, .int x16_177)]) C hl49 dL_runs_398 (by decide) rfl (fun ls hl90 => ?_)
                                clear hl49
                                refine mr_aload C dL_runs_400 (ml_at hl90 6 rfl) ?_
                                refine lv_iload hx hb dL_runs_402 (ml_at hl90 0 rfl) ?_
                                refine lv_iconst (v := 3) hx hb dL_runs_404 (by decide) ?_
                                refine lv_iconst (v := 3) hx hb dL_runs_405 (by decide) ?_
                                refine pr_li (As := fun ad => [mV ad (some 2), .int x88, .int (3 : Int32), .int (3 : Int32)]) C hM87 (fun ad had => by simp only [mV_some, had 2 (by decide)]) hl90.1.1 cw_L_59 (fun ad => c_L_get l G ad x88 (3 : Int32) (3 : Int32) _ _ h86) (fun _ _ q => q.1) (n := 4) ⟨rfl, by decide, by decide, by decide +kernel⟩ rfl rfl ⟨Nat.le_of_ble_eq_true rfl, Nat.le_of_ble_eq_true rfl⟩ m_c0 (Nat.le_of_ble_eq_true rfl) dL_runs_406 ⟨hu_177, Nat.mul_le_mul_left 18 hu_177⟩ (fun x93 τ94 H locs h91 hM92 => ?_)
                                clear h86 hM87
                                replace h91 := h91.2
                                refine lv_iconst (v := 2) hx hb dL_runs_409 (by decide) ?_
                                obtain ⟨J491, hJ491, h91⟩ := h91
                                have hj491 : ∀ (x17_491 : Int32) (u_491 : Nat) (σ_491 τ_491 : mS) (H : Heap) (locs : List Loc) (ls : Array Slot), u_491 ≤ b → J491 x17_491 u_491 σ_491 τ_491 → pM G a1 a2 (mN σ0) s σ_491 τ_491 H locs → ml_has ls 21 [(0, mV a1 (some 0)), (1, .ref bs), (2, .int y2), (3, mV a2 (some 1)), (4, mV a2 (some 2)), (5, mV a2 (some 3)), (6, mV a2 (some 4)), (7, mV a2 (some 5)), (8, mV a2 (some 6)), (9, mV a2 (some 7)), (10, mV a2 (some 0)), (11, .int x11_106), (12, .int (pCell L xs j17)), (13, .int (pCell L xs j24)), (17, .int x17_491)] → W p l e (mRb 10 213 b) s m ([mV a1 (some 0), .ref bs, .int y2, mV a2 (some 1), mV a2 (some 2), mV a2 (some 3), mV a2 (some 4), mV a2 (some 5), mV a2 (some 6), mV a2 (some 7)] : List Value).toArray below meth c H locs u_491 (18 * u_491) (MQ below (va_Qi (fun r (q : mS × mS) => Q r q.1 q.2 ∧ narrow .boolean (.int r) = .int r) (pPost G N1 a1 a2 (mN σ0)) (pA a1 a2 (mN σ0) N1)) ([mV a1 (some 0), .ref bs, .int y2, mV a2 (some 1), mV a2 (some 2), mV a2 (some 3), mV a2 (some 4), mV a2 (some 5), mV a2 (some 6), mV a2 (some 7)] : List Value).toArray s b (18 * b) (pA a1 a2 (mN σ0) N1)) (F0 m 491 ls []) := by
                                  intro x17_491 u_491 σ_491 τ_491 H locs ls hu_491 h_491 hM_491 hl_491
                                  replace h_491 := hJ491 x17_491 u_491 σ_491 τ_491 h_491
                                  refine lv_goto (tgt := 547) hx hb dL_runs_491 (by decide) ?_
                                  exact hj547 x17_491 u_491 σ_491 τ_491 _ _ _ hu_491 h_491 hM_491 (ml_sub hl_491 [0, 1, 2, 3, 4, 5, 6, 7, 8, 9, 10, 11, 12, 13, 14] rfl)
                                obtain ⟨J421, hJ421, h91⟩ := h91
                                have hj421 : ∀ (u_421 : Nat) (σ_421 τ_421 : mS) (H : Heap) (locs : List Loc) (ls : Array Slot), u_421 ≤ b → J421 u_421 σ_421 τ_421 → pM G a1 a2 (mN σ0) s σ_421 τ_421 H locs → ml_has ls 21 [(0, mV a1 (some 0)), (1, .ref bs), (2, .int y2), (3, mV a2 (some 1)), (4, mV a2 (some 2)), (5, mV a2 (some 3)), (6, mV a2 (some 4)), (7, mV a2 (some 5)), (8, mV a2 (some 6)), (9, mV a2 (some 7)), (10, mV a2 (some 0)), (11, .int x11_106), (12, .int (pCell L xs j17)), (13, .int (pCell L xs j24)), (18, .int x88)] → W p l e (mRb 10 213 b) s m ([mV a1 (some 0), .ref bs, .int y2, mV a2 (some 1), mV a2 (some 2), mV a2 (some 3), mV a2 (some 4), mV a2 (some 5), mV a2 (some 6), mV a2 (some 7)] : List Value).toArray below meth c H locs u_421 (18 * u_421) (MQ below (va_Qi (fun r (q : mS × mS) => Q r q.1 q.2 ∧ narrow .boolean (.int r) = .int r) (pPost G N1 a1 a2 (mN σ0)) (pA a1 a2 (mN σ0) N1)) ([mV a1 (some 0), .ref bs, .int y2, mV a2 (some 1), mV a2 (some 2), mV a2 (some 3), mV a2 (some 4), mV a2 (some 5), mV a2 (some 6), mV a2 (some 7)] : List Value).toArray s b (18 * b) (pA a1 a2 (mN σ0) N1)) (F0 m 421 ls []) := by
                                  intro u_421 σ_421 τ_421 H locs ls hu_421 h_421 hM_421 hl_421
                                  replace h_421 := hJ421 u_421 σ_421 τ_421 h_421
                                  refine mr_aload_n C dL_runs_421 rfl (ml_at hl_421 0 rfl) ?_
                                  refine lv_iload hx hb dL_runs_422 (ml_at hl_421 14 rfl) ?_
                                  obtain ⟨hr98, h_421⟩ := h_421
                                  obtain ⟨k100, hk100, h_421⟩ := h_421
                                  refine pr_wi (Is := [.int x88]) C E hM_421 hr98 hl_421.1.1 cl_L_132 (fun ad => c_L_cancel l hfl G ad x88 _ _ _ h_421) (fun _ _ q => q.1) (n := 2) ⟨by decide, by decide, by decide +kernel⟩ rfl rfl ⟨Nat.le_of_ble_eq_true rfl, Nat.le_of_ble_eq_true rfl⟩ m_c0 (Nat.le_of_ble_eq_true rfl) dL_runs_424 hk100 (fun x97 σ99 H locs h95 hM96 => ?_)
                                  clear h_421 hM_421
                                  replace h95 := h95.2
                                  refine lv_bipush (v := -73) hx hb dL_runs_427 (by decide) ?_
                                  obtain ⟨J437, hJ437, h95⟩ := h95
                                  have hj437 : ∀ (xk0_437 : Int32) (u_437 : Nat) (σ_437 τ_437 : mS) (H : Heap) (locs : List Loc) (ls : Array Slot), u_437 ≤ b → J437 xk0_437 u_437 σ_437 τ_437 → pM G a1 a2 (mN σ0) s σ_437 τ_437 H locs → ml_has ls 21 [(0, mV a1 (some 0)), (1, .ref bs), (2, .int y2), (3, mV a2 (some 1)), (4, mV a2 (some 2)), (5, mV a2 (some 3)), (6, mV a2 (some 4)), (7, mV a2 (some 5)), (8, mV a2 (some 6)), (9, mV a2 (some 7)), (10, mV a2 (some 0)), (11, .int x11_106), (12, .int (pCell L xs j17)), (13, .int (pCell L xs j24))] → W p l e (mRb 10 213 b) s m ([mV a1 (some 0), .ref bs, .int y2, mV a2 (some 1), mV a2 (some 2), mV a2 (some 3), mV a2 (some 4), mV a2 (some 5), mV a2 (some 6), mV a2 (some 7)] : List Value).toArray below meth c H locs u_437 (18 * u_437) (MQ below (va_Qi (fun r (q : mS × mS) => Q r q.1 q.2 ∧ narrow .boolean (.int r) = .int r) (pPost G N1 a1 a2 (mN σ0)) (pA a1 a2 (mN σ0) N1)) ([mV a1 (some 0), .ref bs, .int y2, mV a2 (some 1), mV a2 (some 2), mV a2 (some 3), mV a2 (some 4), mV a2 (some 5), mV a2 (some 6), mV a2 (some 7)] : List Value).toArray s b (18 * b) (pA a1 a2 (mN σ0) N1)) (F0 m 437 ls [.int xk0_437]) := by
                                    intro xk0_437 u_437 σ_437 τ_437 H locs ls hu_437 h_437 hM_437 hl_437
                                    replace h_437 := hJ437 xk0_437 u_437 σ_437 τ_437 h_437
                                    refine mr_istore (lv' := [(17, .int xk0_437), (0, mV a1 (some 0)), (1, .ref bs), (2, .int y2), (3, mV a2 (some 1)), (4, mV a2 (some 2)), (5, mV a2 (some 3)), (6, mV a2 (some 4)), (7, mV a2 (some 5)), (8, mV a2 (some 6)), (9, mV a2 (some 7)), (10, mV a2 (some 0)), (11, .int x11_106), (12, .int (pCell L xs j17)), (13, .int (pCell L xs j24))]) C hl_437 dL_runs_437 (by decide) rfl (fun ls hl101 => ?_)
                                    clear hl_437
                                    refine lv_goto (tgt := 491) hx hb dL_runs_439 (by decide) ?_
                                    exact hj491 xk0_437 u_437 σ_437 τ_437 _ _ _ hu_437 h_437 hM_437 (ml_sub hl101 [1, 2, 3, 4, 5, 6, 7, 8, 9, 10, 11, 12, 13, 14, 0] rfl)
                                  refine lv_icmp_ne (tgt := 436) hx hb dL_runs_429 (by decide) (fun hc102 => ?_) (fun hc102 => ?_)
                                  · replace h95 := h95.1 hc102
                                    refine lv_iconst (v := 0) hx hb dL_runs_436 (by decide) ?_
                                    exact hj437 (0 : Int32) (u_421 + k100) σ99 τ_421 _ _ _ hk100 h95 hM96 (ml_sub hl_421 [0, 1, 2, 3, 4, 5, 6, 7, 8, 9, 10, 11, 12, 13] rfl)
                                  · replace h95 := h95.2 hc102
                                    refine lv_iconst (v := 1) hx hb dL_runs_432 (by decide) ?_
                                    refine lv_goto (tgt := 437) hx hb dL_runs_433 (by decide) ?_
                                    exact hj437 (1 : Int32) (u_421 + k100) σ99 τ_421 _ _ _ hk100 h95 hM96 (ml_sub hl_421 [0, 1, 2, 3, 4, 5, 6, 7, 8, 9, 10, 11, 12, 13] rfl)
                                refine lv_icmp_gt (tgt := 421) hx hb dL_runs_410 (by decide) (fun hc103 => ?_) (fun hc103 => ?_)
                                · replace h91 := h91.1 hc103
                                  exact hj421 u_177 σ_177 τ94 _ _ _ hu_177 h91 hM92 (ml_sub hl90 [2, 3, 4, 5, 6, 7, 8, 9, 10, 11, 12, 13, 14, 15, 0] rfl)
                                · replace h91 := h91.2 hc103
                                  refine mr_aload C dL_runs_413 (ml_at hl90 8 rfl) ?_
                                  refine lv_iload hx hb dL_runs_415 (ml_at hl90 0 rfl) ?_
                                  obtain ⟨j104, ej105, ej105b, h91⟩ := h91
                                  refine pr_iald C hM92 (i := 4) rfl (by decide) ej105 ej105b (by decide) dL_runs_417 ?_
                                  refine lv_if_lt (tgt := 442) hx hb dL_runs_418 (by decide) (fun hc106 => ?_) (fun hc106 => ?_)
                                  · replace h91 := h91.1 hc106
                                    refine lv_iconst (v := 1) hx hb dL_runs_442 (by decide) ?_
                                    refine mr_aload C dL_runs_443 (ml_at hl90 6 rfl) ?_
                                    refine mr_aload C dL_runs_445 (ml_at hl90 8 rfl) ?_
                                    refine mr_aload C dL_runs_447 (ml_at hl90 12 rfl) ?_
                                    refine lv_iload hx hb dL_runs_449 (ml_at hl90 0 rfl) ?_
                                    refine pr_li (As := fun ad => [mV ad (some 2), mV ad (some 4), mV ad (some 0), .int x88]) C hM92 (fun ad had => by simp only [mV_some, had 2 (by decide), had 4 (by decide), had 0 (by decide)]) hl90.1.1 cw_L_112 (fun ad => c_L_below l G ad x88 _ _ h91) (fun _ _ q => q.1) (n := 4) ⟨rfl, by decide, by decide, by decide +kernel⟩ rfl rfl ⟨Nat.le_of_ble_eq_true rfl, Nat.le_of_ble_eq_true rfl⟩ (m_cI m_c0) (Nat.le_of_ble_eq_true rfl) dL_runs_451 ⟨hu_177, Nat.mul_le_mul_left 18 hu_177⟩ (fun x109 τ110 H locs h107 hM108 => ?_)
                                    clear h91 hM92
                                    replace h107 := h107.2
                                    refine lv_iadd hx hb dL_runs_454 ?_
                                    refine mr_istore (lv' := [(19, .int ((1 : Int32) + x109)), (18, .int x88), (17, .int (1 : Int32)), (0, mV a1 (some 0)), (1, .ref bs), (2, .int y2), (3, mV a2 (some 1)), (4, mV a2 (some 2)), (5, mV a2 (some 3)), (6, mV a2 (some 4)), (7, mV a2 (some 5)), (8, mV a2 (some 6)), (9, mV a2 (some 7)), (10, mV a2 (some 0)), (11, .int x11_106), (12, .int (pCell L xs j17)), (13, .int (pCell L xs j24)), (14, .int (pCell L xs j31)), (15, .int x38), (16, .int x16_177)]) C hl90 dL_runs_455 (by decide) rfl (fun ls hl111 => ?_)
                                    clear hl90
                                    refine lv_iload hx hb dL_runs_457 (ml_at hl111 1 rfl) ?_
                                    refine lv_bipush (v := 7) hx hb dL_runs_459 (by decide) ?_
                                    refine mr_aload_n C dL_runs_461 rfl (ml_at hl111 6 rfl) ?_
                                    refine mr_aload C dL_runs_462 (ml_at hl111 7 rfl) ?_
                                    refine mr_aload C dL_runs_464 (ml_at hl111 9 rfl) ?_
                                    refine mr_aload C dL_runs_466 (ml_at hl111 11 rfl) ?_
                                    refine mr_aload C dL_runs_468 (ml_at hl111 13 rfl) ?_
                                    refine pr_lv (As := fun ad => [.int x88, .int (7 : Int32), mV ad (some 1), mV ad (some 2), mV ad (some 4), mV ad (some 6), mV ad (some 0)]) C hM108 (fun ad had => by simp only [mV_some, had 1 (by decide), had 2 (by decide), had 4 (by decide), had 6 (by decide), had 0 (by decide)]) hl111.1.1 cw_L_67 (fun ad => c_L_end l G ad x88 (7 : Int32) _ _ h107) (fun _ q => q.1) (n := 7) ⟨rfl, by decide, by decide, by decide +kernel⟩ rfl rfl ⟨Nat.le_of_ble_eq_true rfl, Nat.le_of_ble_eq_true rfl⟩ m_c0 (Nat.le_of_ble_eq_true rfl) dL_runs_470 ⟨hu_177, Nat.mul_le_mul_left 18 hu_177⟩ (fun τ115 H locs h112 hM113 => ?_)
                                    clear h107 hM108
                                    replace h112 := h112.2
                                    refine mr_aload_n C dL_runs_473 rfl (ml_at hl111 3 rfl) ?_
                                    refine lv_iload hx hb dL_runs_474 (ml_at hl111 1 rfl) ?_
                                    obtain ⟨hr119, h112⟩ := h112
                                    obtain ⟨k121, hk121, h112⟩ := h112
                                    refine pr_wi (Is := [.int x88]) C E hM113 hr119 hl111.1.1 cl_L_132 (fun ad => c_L_cancel l hfl G ad x88 _ _ _ h112) (fun _ _ q => q.1) (n := 2) ⟨by decide, by decide, by decide +kernel⟩ rfl rfl ⟨Nat.le_of_ble_eq_true rfl, Nat.le_of_ble_eq_true rfl⟩ m_c0 (Nat.le_of_ble_eq_true rfl) dL_runs_476 hk121 (fun x118 σ120 H locs h116 hM117 => ?_)
                                    clear h112 hM113
                                    replace h116 := h116.2
                                    refine lv_iload hx hb dL_runs_479 (ml_at hl111 0 rfl) ?_
                                    obtain ⟨J489, hJ489, h116⟩ := h116
                                    have hj489 : ∀ (xk0_489 : Int32) (u_489 : Nat) (σ_489 τ_489 : mS) (H : Heap) (locs : List Loc) (ls : Array Slot), u_489 ≤ b → J489 xk0_489 u_489 σ_489 τ_489 → pM G a1 a2 (mN σ0) s σ_489 τ_489 H locs → ml_has ls 21 [(0, mV a1 (some 0)), (1, .ref bs), (2, .int y2), (3, mV a2 (some 1)), (4, mV a2 (some 2)), (5, mV a2 (some 3)), (6, mV a2 (some 4)), (7, mV a2 (some 5)), (8, mV a2 (some 6)), (9, mV a2 (some 7)), (10, mV a2 (some 0)), (11, .int x11_106), (12, .int (pCell L xs j17)), (13, .int (pCell L xs j24))] → W p l e (mRb 10 213 b) s m ([mV a1 (some 0), .ref bs, .int y2, mV a2 (some 1), mV a2 (some 2), mV a2 (some 3), mV a2 (some 4), mV a2 (some 5), mV a2 (some 6), mV a2 (some 7)] : List Value).toArray below meth c H locs u_489 (18 * u_489) (MQ below (va_Qi (fun r (q : mS × mS) => Q r q.1 q.2 ∧ narrow .boolean (.int r) = .int r) (pPost G N1 a1 a2 (mN σ0)) (pA a1 a2 (mN σ0) N1)) ([mV a1 (some 0), .ref bs, .int y2, mV a2 (some 1), mV a2 (some 2), mV a2 (some 3), mV a2 (some 4), mV a2 (some 5), mV a2 (some 6), mV a2 (some 7)] : List Value).toArray s b (18 * b) (pA a1 a2 (mN σ0) N1)) (F0 m 489 ls [.int xk0_489]) := by
                                      intro xk0_489 u_489 σ_489 τ_489 H locs ls hu_489 h_489 hM_489 hl_489
                                      replace h_489 := hJ489 xk0_489 u_489 σ_489 τ_489 h_489
                                      refine mr_istore (lv' := [(17, .int xk0_489), (0, mV a1 (some 0)), (1, .ref bs), (2, .int y2), (3, mV a2 (some 1)), (4, mV a2 (some 2)), (5, mV a2 (some 3)), (6, mV a2 (some 4)), (7, mV a2 (some 5)), (8, mV a2 (some 6)), (9, mV a2 (some 7)), (10, mV a2 (some 0)), (11, .int x11_106), (12, .int (pCell L xs j17)), (13, .int (pCell L xs j24))]) C hl_489 dL_runs_489 (by decide) rfl (fun ls hl122 => ?_)
                                      clear hl_489
                                      exact hj491 xk0_489 u_489 σ_489 τ_489 _ _ _ hu_489 h_489 hM_489 (ml_sub hl122 [1, 2, 3, 4, 5, 6, 7, 8, 9, 10, 11, 12, 13, 14, 0] rfl)
                                    refine lv_icmp_ne (tgt := 488) hx hb dL_runs_481 (by decide) (fun hc123 => ?_) (fun hc123 => ?_)
                                    · replace h116 := h116.1 hc123
                                      refine lv_iconst (v := 0) hx hb dL_runs_488 (by decide) ?_
                                      exact hj489 (0 : Int32) (u_177 + k121) σ120 τ115 _ _ _ hk121 h116 hM117 (ml_sub hl111 [3, 4, 5, 6, 7, 8, 9, 10, 11, 12, 13, 14, 15, 16] rfl)
                                    · replace h116 := h116.2 hc123
                                      refine lv_iconst (v := 1) hx hb dL_runs_484 (by decide) ?_
                                      refine lv_goto (tgt := 489) hx hb dL_runs_485 (by decide) ?_
                                      exact hj489 (1 : Int32) (u_177 + k121) σ120 τ115 _ _ _ hk121 h116 hM117 (ml_sub hl111 [3, 4, 5, 6, 7, 8, 9, 10, 11, 12, 13, 14, 15, 16] rfl)
                                  · replace h91 := h91.2 hc106
                                    exact hj421 u_177 σ_177 τ94 _ _ _ hu_177 h91 hM92 (ml_sub hl90 [2, 3, 4, 5, 6, 7, 8, 9, 10, 11, 12, 13, 14, 15, 0] rfl)
                          · replace h_177 := h_177.2 hc61
                            refine lv_iload hx hb dL_runs_275 (ml_at hl49 14 rfl) ?_
                            refine lv_iload hx hb dL_runs_277 (ml_at hl49 14 rfl) ?_
                            refine lv_bipush (v := 96) hx hb dL_runs_279 (by decide) ?_
                            refine lv_iand hx hb dL_runs_281 ?_
                            obtain ⟨J291, hJ291, h_177⟩ := h_177
                            have hj291 : ∀ (xk0_291 : Int32) (u_291 : Nat) (σ_291 τ_291 : mS) (H : Heap) (locs : List Loc) (ls : Array Slot), u_291 ≤ b → J291 xk0_291 u_291 σ_291 τ_291 → pM G a1 a2 (mN σ0) s σ_291 τ_291 H locs → ml_has ls 21 [(0, mV a1 (some 0)), (1, .ref bs), (2, .int y2), (3, mV a2 (some 1)), (4, mV a2 (some 2)), (5, mV a2 (some 3)), (6, mV a2 (some 4)), (7, mV a2 (some 5)), (8, mV a2 (some 6)), (9, mV a2 (some 7)), (10, mV a2 (some 0)), (11, .int x11_106), (12, .int (pCell L xs j17)), (13, .int (pCell L xs j24)), (14, .int (pCell L xs j31))] → W p l e (mRb 10 213 b) s m ([mV a1 (some 0), .ref bs, .int y2, mV a2 (some 1), mV a2 (some 2), mV a2 (some 3), mV a2 (some 4), mV a2 (some 5), mV a2 (some 6), mV a2 (some 7)] : List Value).toArray below meth c H locs u_291 (18 * u_291) (MQ below (va_Qi (fun r (q : mS × mS) => Q r q.1 q.2 ∧ narrow .boolean (.int r) = .int r) (pPost G N1 a1 a2 (mN σ0)) (pA a1 a2 (mN σ0) N1)) ([mV a1 (some 0), .ref bs, .int y2, mV a2 (some 1), mV a2 (some 2), mV a2 (some 3), mV a2 (some 4), mV a2 (some 5), mV a2 (some 6), mV a2 (some 7)] : List Value).toArray s b (18 * b) (pA a1 a2 (mN σ0) N1)) (F0 m 291 ls [.int xk0_291, .int (pCell L xs j24)]) := by
                              intro xk0_291 u_291 σ_291 τ_291 H locs ls hu_291 h_291 hM_291 hl_291
                              replace h_291 := hJ291 xk0_291 u_291 σ_291 τ_291 h_291
                              refine pr_li (As := fun ad => [.int (pCell L xs j24), .int xk0_291]) C hM_291 (fun _ _ => rfl) hl_291.1.1 cw_L_83 (fun ad => c_L_low l G ad (pCell L xs j24) xk0_291 _ _ h_291) (fun _ _ q => q.1) (n := 2) ⟨rfl, by decide, by decide, by decide +kernel⟩ rfl rfl ⟨Nat.le_of_ble_eq_true rfl, Nat.le_of_ble_eq_true rfl⟩ m_c0 (Nat.le_of_ble_eq_true rfl) dL_runs_291 ⟨hu_291, Nat.mul_le_mul_left 18 hu_291⟩ (fun x126 τ127 H locs h124 hM125 => ?_)
                              clear h_291 hM_291
                              replace h124 := h124.2
                              refine mr_istore (lv' := [(18, .int x126), (0, mV a1 (some 0)), (1, .ref bs), (2, .int y2), (3, mV a2 (some 1)), (4, mV a2 (some 2)), (5, mV a2 (some 3)), (6, mV a2 (some 4)), (7, mV a2 (some 5)), (8, mV a2 (some 6)), (9, mV a2 (some 7)), (10, mV a2 (some 0)), (11, .int x11_106), (12, .int (pCell L xs j17)), (13, .int (pCell L xs j24)), (14, .int (pCell L xs j31))]) C hl_291 dL_runs_294 (by decide) rfl (fun ls hl128 => ?_)
                              clear hl_291
                              refine lv_iconst (v := 1) hx hb dL_runs_296 (by decide) ?_
                              refine lv_iload hx hb dL_runs_297 (ml_at hl128 15 rfl) ?_
                              refine lv_iload hx hb dL_runs_299 (ml_at hl128 15 rfl) ?_
                              refine lv_bipush (v := 96) hx hb dL_runs_301 (by decide) ?_
                              refine lv_iand hx hb dL_runs_303 ?_
                              obtain ⟨J314, hJ314, h124⟩ := h124
                              have hj314 : ∀ (xk0_314 : Int32) (u_314 : Nat) (σ_314 τ_314 : mS) (H : Heap) (locs : List Loc) (ls : Array Slot), u_314 ≤ b → J314 xk0_314 u_314 σ_314 τ_314 → pM G a1 a2 (mN σ0) s σ_314 τ_314 H locs → ml_has ls 21 [(0, mV a1 (some 0)), (1, .ref bs), (2, .int y2), (3, mV a2 (some 1)), (4, mV a2 (some 2)), (5, mV a2 (some 3)), (6, mV a2 (some 4)), (7, mV a2 (some 5)), (8, mV a2 (some 6)), (9, mV a2 (some 7)), (10, mV a2 (some 0)), (11, .int x11_106), (12, .int (pCell L xs j17)), (13, .int (pCell L xs j24)), (18, .int x126)] → W p l e (mRb 10 213 b) s m ([mV a1 (some 0), .ref bs, .int y2, mV a2 (some 1), mV a2 (some 2), mV a2 (some 3), mV a2 (some 4), mV a2 (some 5), mV a2 (some 6), mV a2 (some 7)] : List Value).toArray below meth c H locs u_314 (18 * u_314) (MQ below (va_Qi (fun r (q : mS × mS) => Q r q.1 q.2 ∧ narrow .boolean (.int r) = .int r) (pPost G N1 a1 a2 (mN σ0)) (pA a1 a2 (mN σ0) N1)) ([mV a1 (some 0), .ref bs, .int y2, mV a2 (some 1), mV a2 (some 2), mV a2 (some 3), mV a2 (some 4), mV a2 (some 5), mV a2 (some 6), mV a2 (some 7)] : List Value).toArray s b (18 * b) (pA a1 a2 (mN σ0) N1)) (F0 m 314 ls [.int xk0_314, .int (pCell L xs j31), .int (1 : Int32)]) := by
                                intro xk0_314 u_314 σ_314 τ_314 H locs ls hu_314 h_314 hM_314 hl_314
                                replace h_314 := hJ314 xk0_314 u_314 σ_314 τ_314 h_314
                                refine pr_li (As := fun ad => [.int (pCell L xs j31), .int xk0_314]) C hM_314 (fun _ _ => rfl) hl_314.1.1 cw_L_83 (fun ad => c_L_low l G ad (pCell L xs j31) xk0_314 _ _ h_314) (fun _ _ q => q.1) (n := 2) ⟨rfl, by decide, by decide, by decide +kernel⟩ rfl rfl ⟨Nat.le_of_ble_eq_true rfl, Nat.le_of_ble_eq_true rfl⟩ (m_cI m_c0) (Nat.le_of_ble_eq_true rfl) dL_runs_314 ⟨hu_314, Nat.mul_le_mul_left 18 hu_314⟩ (fun x131 τ132 H locs h129 hM130 => ?_)
                                clear h_314 hM_314
                                replace h129 := h129.2
                                refine lv_iadd hx hb dL_runs_317 ?_
                                refine mr_istore (lv' := [(19, .int ((1 : Int32) + x131)), (0, mV a1 (some 0)), (1, .ref bs), (2, .int y2), (3, mV a2 (some 1)), (4, mV a2 (some 2)), (5, mV a2 (some 3)), (6, mV a2 (some 4)), (7, mV a2 (some 5)), (8, mV a2 (some 6)), (9, mV a2 (some 7)), (10, mV a2 (some 0)), (11, .int x11_106), (12, .int (pCell L xs j17)), (13, .int (pCell L xs j24)), (18, .int x126)]) C hl_314 dL_runs_318 (by decide) rfl (fun ls hl133 => ?_)
                                clear hl_314
                                refine mr_aload C dL_runs_320 (ml_at hl133 11 rfl) ?_
                                refine lv_iconst (v := 1) hx hb dL_runs_322 (by decide) ?_
                                obtain ⟨j134, ej135, ej135b, h129⟩ := h129
                                refine pr_iald C hM130 (i := 0) rfl (by decide) ej135 ej135b (by decide) dL_runs_323 ?_
                                refine mr_istore (lv' := [(20, .int (mI τ132 0 j134)), (19, .int ((1 : Int32) + x131)), (0, mV a1 (some 0)), (1, .ref bs), (2, .int y2), (3, mV a2 (some 1)), (4, mV a2 (some 2)), (5, mV a2 (some 3)), (6, mV a2 (some 4)), (7, mV a2 (some 5)), (8, mV a2 (some 6)), (9, mV a2 (some 7)), (10, mV a2 (some 0)), (11, .int x11_106), (12, .int (pCell L xs j17)), (13, .int (pCell L xs j24)), (18, .int x126)]) C hl133 dL_runs_324 (by decide) rfl (fun ls hl136 => ?_)
                                clear hl133
                                refine lv_iload hx hb dL_runs_326 (ml_at hl136 16 rfl) ?_
                                refine mr_aload C dL_runs_328 (ml_at hl136 12 rfl) ?_
                                refine lv_iconst (v := 0) hx hb dL_runs_330 (by decide) ?_
                                obtain ⟨j137, ej138, ej138b, h129⟩ := h129
                                refine pr_iald C hM130 (i := 0) rfl (by decide) ej138 ej138b (by decide) dL_runs_331 ?_
                                refine lv_iload hx hb dL_runs_332 (ml_at hl136 1 rfl) ?_
                                refine lv_iadd hx hb dL_runs_334 ?_
                                refine lv_iconst (v := -1) hx hb dL_runs_335 (by decide) ?_
                                refine mr_aload_n C dL_runs_336 rfl (ml_at hl136 5 rfl) ?_
                                refine mr_aload C dL_runs_337 (ml_at hl136 6 rfl) ?_
                                refine mr_aload C dL_runs_339 (ml_at hl136 7 rfl) ?_
                                refine mr_aload C dL_runs_341 (ml_at hl136 8 rfl) ?_
                                refine mr_aload C dL_runs_343 (ml_at hl136 9 rfl) ?_
                                refine mr_aload C dL_runs_345 (ml_at hl136 10 rfl) ?_
                                refine mr_aload C dL_runs_347 (ml_at hl136 12 rfl) ?_
                                refine pr_lv (As := fun ad => [.int x126, .int ((mI τ132 0 j137) + ((1 : Int32) + x131)), .int (-1 : Int32), mV ad (some 1), mV ad (some 2), mV ad (some 3), mV ad (some 4), mV ad (some 5), mV ad (some 6), mV ad (some 0)]) C hM130 (fun ad had => by simp only [mV_some, had 1 (by decide), had 2 (by decide), had 3 (by decide), had 4 (by decide), had 5 (by decide), had 6 (by decide), had 0 (by decide)]) hl136.1.1 cw_L_79 (fun ad => c_L_begin l G ad x126 ((mI τ132 0 j137) + ((1 : Int32) + x131)) (-1 : Int32) _ _ h129) (fun _ q => q.1) (n := 10) ⟨rfl, by decide, by decide, by decide +kernel⟩ rfl rfl ⟨Nat.le_of_ble_eq_true rfl, Nat.le_of_ble_eq_true rfl⟩ m_c0 (Nat.le_of_ble_eq_true rfl) dL_runs_349 ⟨hu_314, Nat.mul_le_mul_left 18 hu_314⟩ (fun τ142 H locs h139 hM140 => ?_)
                                clear h129 hM130
                                replace h139 := h139.2
                                refine mr_aload_n C dL_runs_352 rfl (ml_at hl136 2 rfl) ?_
                                refine lv_iload hx hb dL_runs_353 (ml_at hl136 16 rfl) ?_
                                refine lv_iload hx hb dL_runs_355 (ml_at hl136 1 rfl) ?_
                                obtain ⟨hr146, h139⟩ := h139
                                obtain ⟨k148, hk148, h139⟩ := h139
                                refine pr_wi (Is := [.int x126, .int ((1 : Int32) + x131)]) C E hM140 hr146 hl136.1.1 cl_L_136 (fun ad => c_L_call l hfl G ad x126 ((1 : Int32) + x131) _ _ _ h139) (fun _ _ q => q.1) (n := 3) ⟨by decide, by decide, by decide +kernel⟩ rfl rfl ⟨Nat.le_of_ble_eq_true rfl, Nat.le_of_ble_eq_true rfl⟩ m_c0 (Nat.le_of_ble_eq_true rfl) dL_runs_357 hk148 (fun x145 σ147 H locs h143 hM144 => ?_)
                                clear h139 hM140
                                replace h143 := h143.2
                                refine lv_iload hx hb dL_runs_360 (ml_at hl136 0 rfl) ?_
                                obtain ⟨J370, hJ370, h143⟩ := h143
                                have hj370 : ∀ (xk0_370 : Int32) (u_370 : Nat) (σ_370 τ_370 : mS) (H : Heap) (locs : List Loc) (ls : Array Slot), u_370 ≤ b → J370 xk0_370 u_370 σ_370 τ_370 → pM G a1 a2 (mN σ0) s σ_370 τ_370 H locs → ml_has ls 21 [(0, mV a1 (some 0)), (1, .ref bs), (2, .int y2), (3, mV a2 (some 1)), (4, mV a2 (some 2)), (5, mV a2 (some 3)), (6, mV a2 (some 4)), (7, mV a2 (some 5)), (8, mV a2 (some 6)), (9, mV a2 (some 7)), (10, mV a2 (some 0)), (11, .int x11_106), (12, .int (pCell L xs j17)), (13, .int (pCell L xs j24))] → W p l e (mRb 10 213 b) s m ([mV a1 (some 0), .ref bs, .int y2, mV a2 (some 1), mV a2 (some 2), mV a2 (some 3), mV a2 (some 4), mV a2 (some 5), mV a2 (some 6), mV a2 (some 7)] : List Value).toArray below meth c H locs u_370 (18 * u_370) (MQ below (va_Qi (fun r (q : mS × mS) => Q r q.1 q.2 ∧ narrow .boolean (.int r) = .int r) (pPost G N1 a1 a2 (mN σ0)) (pA a1 a2 (mN σ0) N1)) ([mV a1 (some 0), .ref bs, .int y2, mV a2 (some 1), mV a2 (some 2), mV a2 (some 3), mV a2 (some 4), mV a2 (some 5), mV a2 (some 6), mV a2 (some 7)] : List Value).toArray s b (18 * b) (pA a1 a2 (mN σ0) N1)) (F0 m 370 ls [.int xk0_370]) := by
                                  intro xk0_370 u_370 σ_370 τ_370 H locs ls hu_370 h_370 hM_370 hl_370
                                  replace h_370 := hJ370 xk0_370 u_370 σ_370 τ_370 h_370
                                  refine mr_istore (lv' := [(17, .int xk0_370), (0, mV a1 (some 0)), (1, .ref bs), (2, .int y2), (3, mV a2 (some 1)), (4, mV a2 (some 2)), (5, mV a2 (some 3)), (6, mV a2 (some 4)), (7, mV a2 (some 5)), (8, mV a2 (some 6)), (9, mV a2 (some 7)), (10, mV a2 (some 0)), (11, .int x11_106), (12, .int (pCell L xs j17)), (13, .int (pCell L xs j24))]) C hl_370 dL_runs_370 (by decide) rfl (fun ls hl149 => ?_)
                                  clear hl_370
                                  refine lv_goto (tgt := 547) hx hb dL_runs_372 (by decide) ?_
                                  exact hj547 xk0_370 u_370 σ_370 τ_370 _ _ _ hu_370 h_370 hM_370 (ml_sub hl149 [1, 2, 3, 4, 5, 6, 7, 8, 9, 10, 11, 12, 13, 14, 0] rfl)
                                refine lv_icmp_ne (tgt := 369) hx hb dL_runs_362 (by decide) (fun hc150 => ?_) (fun hc150 => ?_)
                                · replace h143 := h143.1 hc150
                                  refine lv_iconst (v := 0) hx hb dL_runs_369 (by decide) ?_
                                  exact hj370 (0 : Int32) (u_314 + k148) σ147 τ142 _ _ _ hk148 h143 hM144 (ml_sub hl136 [2, 3, 4, 5, 6, 7, 8, 9, 10, 11, 12, 13, 14, 15] rfl)
                                · replace h143 := h143.2 hc150
                                  refine lv_iconst (v := 1) hx hb dL_runs_365 (by decide) ?_
                                  refine lv_goto (tgt := 370) hx hb dL_runs_366 (by decide) ?_
                                  exact hj370 (1 : Int32) (u_314 + k148) σ147 τ142 _ _ _ hk148 h143 hM144 (ml_sub hl136 [2, 3, 4, 5, 6, 7, 8, 9, 10, 11, 12, 13, 14, 15] rfl)
                              refine lv_if_ne (tgt := 312) hx hb dL_runs_304 (by decide) (fun hc151 => ?_) (fun hc151 => ?_)
                              · replace h124 := h124.1 hc151
                                refine lv_bipush (v := 20) hx hb dL_runs_312 (by decide) ?_
                                exact hj314 (20 : Int32) u_291 σ_291 τ127 _ _ _ hu_291 h124 hM125 (ml_sub hl128 [1, 2, 3, 4, 5, 6, 7, 8, 9, 10, 11, 12, 13, 14, 0] rfl)
                              · replace h124 := h124.2 hc151
                                refine lv_bipush (v := 100) hx hb dL_runs_307 (by decide) ?_
                                refine lv_goto (tgt := 314) hx hb dL_runs_309 (by decide) ?_
                                exact hj314 (100 : Int32) u_291 σ_291 τ127 _ _ _ hu_291 h124 hM125 (ml_sub hl128 [1, 2, 3, 4, 5, 6, 7, 8, 9, 10, 11, 12, 13, 14, 0] rfl)
                            refine lv_if_ne (tgt := 290) hx hb dL_runs_282 (by decide) (fun hc152 => ?_) (fun hc152 => ?_)
                            · replace h_177 := h_177.1 hc152
                              refine lv_iconst (v := 2) hx hb dL_runs_290 (by decide) ?_
                              exact hj291 (2 : Int32) u_177 σ_177 τ_177 _ _ _ hu_177 h_177 hM_177 (ml_sub hl49 [1, 2, 3, 4, 5, 6, 7, 8, 9, 10, 11, 12, 13, 14, 15] rfl)
                            · replace h_177 := h_177.2 hc152
                              refine lv_bipush (v := 6) hx hb dL_runs_285 (by decide) ?_
                              refine lv_goto (tgt := 291) hx hb dL_runs_287 (by decide) ?_
                              exact hj291 (6 : Int32) u_177 σ_177 τ_177 _ _ _ hu_177 h_177 hM_177 (ml_sub hl49 [1, 2, 3, 4, 5, 6, 7, 8, 9, 10, 11, 12, 13, 14, 15] rfl)
                        · replace h_177 := h_177.2 hc60
                          refine mr_aload_n C dL_runs_252 rfl (ml_at hl49 1 rfl) ?_
                          refine lv_iload hx hb dL_runs_253 (ml_at hl49 16 rfl) ?_
                          refine lv_iload hx hb dL_runs_255 (ml_at hl49 14 rfl) ?_
                          refine lv_iload hx hb dL_runs_257 (ml_at hl49 15 rfl) ?_
                          refine mr_aload_n C dL_runs_259 rfl (ml_at hl49 4 rfl) ?_
                          obtain ⟨k156, hk156, h_177⟩ := h_177
                          refine pr_pi (As := fun a => [mV a (some 0), .int x38, .int (pCell L xs j24), .int (pCell L xs j31), mV a2 (some 1)]) C E hM_177 (fun a ha => by simp only [mV_some, ha]) hl49.1.1 cw_L_146 (fun a N1 => c_L_sets l hfl G N0 N1 a a2 x38 (pCell L xs j24) (pCell L xs j31) _ _ k156 _ h_177) (n := 5) ⟨rfl, by decide, by decide, by decide +kernel⟩ rfl rfl ⟨Nat.le_of_ble_eq_true rfl, Nat.le_of_ble_eq_true rfl⟩ m_c0 (Nat.le_of_ble_eq_true rfl) dL_runs_260 hk156 (fun x155 σ157 τ158 H locs h153 hzx155 hM154 => ?_)
                          clear h_177 hM_177
                          refine mr_istore (lv' := [(17, .int x155), (0, mV a1 (some 0)), (1, .ref bs), (2, .int y2), (3, mV a2 (some 1)), (4, mV a2 (some 2)), (5, mV a2 (some 3)), (6, mV a2 (some 4)), (7, mV a2 (some 5)), (8, mV a2 (some 6)), (9, mV a2 (some 7)), (10, mV a2 (some 0)), (11, .int x11_106), (12, .int (pCell L xs j17)), (13, .int (pCell L xs j24)), (14, .int (pCell L xs j31)), (15, .int x38), (16, .int x16_177)]) C hl49 dL_runs_263 (by decide) rfl (fun ls hl159 => ?_)
                          clear hl49
                          refine lv_goto (tgt := 547) hx hb dL_runs_265 (by decide) ?_
                          exact hj547 x155 (u_177 + k156) σ157 τ158 _ _ _ hk156 h153 hM154 (ml_sub hl159 [1, 2, 3, 4, 5, 6, 7, 8, 9, 10, 11, 12, 13, 14, 0] rfl)
                      · replace h_177 := h_177.2 hc48
                        refine lv_iconst (v := 1) hx hb dL_runs_240 (by decide) ?_
                        exact mr_wi hu_177 (pr_zret C hM_177 hN hr hlk rfl h_177 dL_runs_241)
                    · replace h_177 := h_177.2 hc45
                      refine lv_iload hx hb dL_runs_186 (ml_at hl_177 16 rfl) ?_
                      refine mr_aload C dL_runs_188 (ml_at hl_177 4 rfl) ?_
                      refine lv_iload hx hb dL_runs_190 (ml_at hl_177 17 rfl) ?_
                      refine lv_iconst (v := 3) hx hb dL_runs_192 (by decide) ?_
                      refine lv_iconst (v := 3) hx hb dL_runs_193 (by decide) ?_
                      refine pr_li (As := fun ad => [mV ad (some 2), .int x17_177, .int (3 : Int32), .int (3 : Int32)]) C hM_177 (fun ad had => by simp only [mV_some, had 2 (by decide)]) hl_177.1.1 cw_L_59 (fun ad => c_L_get l G ad x17_177 (3 : Int32) (3 : Int32) _ _ h_177) (fun _ _ q => q.1) (n := 4) ⟨rfl, by decide, by decide, by decide +kernel⟩ rfl rfl ⟨Nat.le_of_ble_eq_true rfl, Nat.le_of_ble_eq_true rfl⟩ (m_cI m_c0) (Nat.le_of_ble_eq_true rfl) dL_runs_194 ⟨hu_177, Nat.mul_le_mul_left 18 hu_177⟩ (fun x162 τ163 H locs h160 hM161 => ?_)
                      clear h_177 hM_177
                      replace h160 := h160.2
                      refine lv_iconst (v := 2) hx hb dL_runs_197 (by decide) ?_
                      refine lv_icmp_eq (tgt := 214) hx hb dL_runs_198 (by decide) (fun hc164 => ?_) (fun hc164 => ?_)
                      · replace h160 := h160.1 hc164
                        refine lv_iconst (v := 1) hx hb dL_runs_214 (by decide) ?_
                        refine lv_goto (tgt := 219) hx hb dL_runs_215 (by decide) ?_
                        refine lv_iadd hx hb dL_runs_219 ?_
                        refine mr_istore (lv' := [(16, .int (x16_177 + (1 : Int32))), (0, mV a1 (some 0)), (1, .ref bs), (2, .int y2), (3, mV a2 (some 1)), (4, mV a2 (some 2)), (5, mV a2 (some 3)), (6, mV a2 (some 4)), (7, mV a2 (some 5)), (8, mV a2 (some 6)), (9, mV a2 (some 7)), (10, mV a2 (some 0)), (11, .int x11_106), (12, .int (pCell L xs j17)), (13, .int (pCell L xs j24)), (14, .int (pCell L xs j31)), (15, .int x38), (17, .int x17_177)]) C hl_177 dL_runs_220 (by decide) rfl (fun ls hl165 => ?_)
                        clear hl_177
                        refine mr_iinc (v := (x17_177 + 1)) (lv' := [(17, .int (x17_177 + 1)), (16, .int (x16_177 + (1 : Int32))), (0, mV a1 (some 0)), (1, .ref bs), (2, .int y2), (3, mV a2 (some 1)), (4, mV a2 (some 2)), (5, mV a2 (some 3)), (6, mV a2 (some 4)), (7, mV a2 (some 5)), (8, mV a2 (some 6)), (9, mV a2 (some 7)), (10, mV a2 (some 0)), (11, .int x11_106), (12, .int (pCell L xs j17)), (13, .int (pCell L xs j24)), (14, .int (pCell L xs j31)), (15, .int x38)]) C hl165 dL_runs_222 (k := 17) rfl rfl (by decide) rfl (fun ls hl166 => ?_)
                        clear hl165
                        refine lv_goto (tgt := 177) hx hb dL_runs_225 (by decide) ?_
                        obtain ⟨k167, hk167, h160⟩ := h160
                        exact ih177 k167 hk167 (x16_177 + (1 : Int32)) (x17_177 + 1) u_177 σ_177 τ163 _ _ _ hu_177 h160 hM161 (ml_sub hl166 [2, 3, 4, 5, 6, 7, 8, 9, 10, 11, 12, 13, 14, 15, 16, 17, 1, 0] rfl)
                      · replace h160 := h160.2 hc164
                        refine mr_aload C dL_runs_201 (ml_at hl_177 4 rfl) ?_
                        refine lv_iload hx hb dL_runs_203 (ml_at hl_177 17 rfl) ?_
                        refine lv_iconst (v := 3) hx hb dL_runs_205 (by decide) ?_
                        refine lv_iconst (v := 3) hx hb dL_runs_206 (by decide) ?_
                        refine pr_li (As := fun ad => [mV ad (some 2), .int x17_177, .int (3 : Int32), .int (3 : Int32)]) C hM161 (fun ad had => by simp only [mV_some, had 2 (by decide)]) hl_177.1.1 cw_L_59 (fun ad => c_L_get l G ad x17_177 (3 : Int32) (3 : Int32) _ _ h160) (fun _ _ q => q.1) (n := 4) ⟨rfl, by decide, by decide, by decide +kernel⟩ rfl rfl ⟨Nat.le_of_ble_eq_true rfl, Nat.le_of_ble_eq_true rfl⟩ (m_cI m_c0) (Nat.le_of_ble_eq_true rfl) dL_runs_207 ⟨hu_177, Nat.mul_le_mul_left 18 hu_177⟩ (fun x170 τ171 H locs h168 hM169 => ?_)
                        clear h160 hM161
                        replace h168 := h168.2
                        refine lv_iconst (v := 1) hx hb dL_runs_210 (by decide) ?_
                        refine lv_icmp_ne (tgt := 218) hx hb dL_runs_211 (by decide) (fun hc172 => ?_) (fun hc172 => ?_)
                        · replace h168 := h168.1 hc172
                          refine lv_iconst (v := 0) hx hb dL_runs_218 (by decide) ?_
                          refine lv_iadd hx hb dL_runs_219 ?_
                          refine mr_istore (lv' := [(16, .int (x16_177 + (0 : Int32))), (0, mV a1 (some 0)), (1, .ref bs), (2, .int y2), (3, mV a2 (some 1)), (4, mV a2 (some 2)), (5, mV a2 (some 3)), (6, mV a2 (some 4)), (7, mV a2 (some 5)), (8, mV a2 (some 6)), (9, mV a2 (some 7)), (10, mV a2 (some 0)), (11, .int x11_106), (12, .int (pCell L xs j17)), (13, .int (pCell L xs j24)), (14, .int (pCell L xs j31)), (15, .int x38), (17, .int x17_177)]) C hl_177 dL_runs_220 (by decide) rfl (fun ls hl173 => ?_)
                          clear hl_177
                          refine mr_iinc (v := (x17_177 + 1)) (lv' := [(17, .int (x17_177 + 1)), (16, .int (x16_177 + (0 : Int32))), (0, mV a1 (some 0)), (1, .ref bs), (2, .int y2), (3, mV a2 (some 1)), (4, mV a2 (some 2)), (5, mV a2 (some 3)), (6, mV a2 (some 4)), (7, mV a2 (some 5)), (8, mV a2 (some 6)), (9, mV a2 (some 7)), (10, mV a2 (some 0)), (11, .int x11_106), (12, .int (pCell L xs j17)), (13, .int (pCell L xs j24)), (14, .int (pCell L xs j31)), (15, .int x38)]) C hl173 dL_runs_222 (k := 17) rfl rfl (by decide) rfl (fun ls hl174 => ?_)
                          clear hl173
                          refine lv_goto (tgt := 177) hx hb dL_runs_225 (by decide) ?_
                          obtain ⟨k175, hk175, h168⟩ := h168
                          exact ih177 k175 hk175 (x16_177 + (0 : Int32)) (x17_177 + 1) u_177 σ_177 τ171 _ _ _ hu_177 h168 hM169 (ml_sub hl174 [2, 3, 4, 5, 6, 7, 8, 9, 10, 11, 12, 13, 14, 15, 16, 17, 1, 0] rfl)
                        · replace h168 := h168.2 hc172
                          refine lv_iconst (v := 1) hx hb dL_runs_214 (by decide) ?_
                          refine lv_goto (tgt := 219) hx hb dL_runs_215 (by decide) ?_
                          refine lv_iadd hx hb dL_runs_219 ?_
                          refine mr_istore (lv' := [(16, .int (x16_177 + (1 : Int32))), (0, mV a1 (some 0)), (1, .ref bs), (2, .int y2), (3, mV a2 (some 1)), (4, mV a2 (some 2)), (5, mV a2 (some 3)), (6, mV a2 (some 4)), (7, mV a2 (some 5)), (8, mV a2 (some 6)), (9, mV a2 (some 7)), (10, mV a2 (some 0)), (11, .int x11_106), (12, .int (pCell L xs j17)), (13, .int (pCell L xs j24)), (14, .int (pCell L xs j31)), (15, .int x38), (17, .int x17_177)]) C hl_177 dL_runs_220 (by decide) rfl (fun ls hl176 => ?_)
                          clear hl_177
                          refine mr_iinc (v := (x17_177 + 1)) (lv' := [(17, .int (x17_177 + 1)), (16, .int (x16_177 + (1 : Int32))), (0, mV a1 (some 0)), (1, .ref bs), (2, .int y2), (3, mV a2 (some 1)), (4, mV a2 (some 2)), (5, mV a2 (some 3)), (6, mV a2 (some 4)), (7, mV a2 (some 5)), (8, mV a2 (some 6)), (9, mV a2 (some 7)), (10, mV a2 (some 0)), (11, .int x11_106), (12, .int (pCell L xs j17)), (13, .int (pCell L xs j24)), (14, .int (pCell L xs j31)), (15, .int x38)]) C hl176 dL_runs_222 (k := 17) rfl rfl (by decide) rfl (fun ls hl177 => ?_)
                          clear hl176
                          refine lv_goto (tgt := 177) hx hb dL_runs_225 (by decide) ?_
                          obtain ⟨k178, hk178, h168⟩ := h168
                          exact ih177 k178 hk178 (x16_177 + (1 : Int32)) (x17_177 + 1) u_177 σ_177 τ171 _ _ _ hu_177 h168 hM169 (ml_sub hl177 [2, 3, 4, 5, 6, 7, 8, 9, 10, 11, 12, 13, 14, 15, 16, 17, 1, 0] rfl)
                  exact hL177 nn177 (0 : Int32) (0 : Int32) u_106 σ_106 τ39 _ _ _ hu_106 h36 hM37 (ml_sub hl42 [6, 7, 8, 9, 10, 11, 12, 13, 14, 15, 16, 17, 5, 4, 3, 2, 1, 0] rfl)
                · replace h_106 := h_106.2 hc35
                  refine lv_iconst (v := 4) hx hb dL_runs_158 (by decide) ?_
                  refine lv_goto (tgt := 169) hx hb dL_runs_159 (by decide) ?_
                  refine mr_istore (lv' := [(15, .int (4 : Int32)), (14, .int (pCell L xs j31)), (13, .int (pCell L xs j24)), (12, .int (pCell L xs j17)), (0, mV a1 (some 0)), (1, .ref bs), (2, .int y2), (3, mV a2 (some 1)), (4, mV a2 (some 2)), (5, mV a2 (some 3)), (6, mV a2 (some 4)), (7, mV a2 (some 5)), (8, mV a2 (some 6)), (9, mV a2 (some 7)), (10, mV a2 (some 0)), (11, .int x11_106)]) C hl34 dL_runs_169 (by decide) rfl (fun ls hl179 => ?_)
                  clear hl34
                  refine lv_iconst (v := 0) hx hb dL_runs_171 (by decide) ?_
                  refine mr_istore (lv' := [(16, .int (0 : Int32)), (15, .int (4 : Int32)), (14, .int (pCell L xs j31)), (13, .int (pCell L xs j24)), (12, .int (pCell L xs j17)), (0, mV a1 (some 0)), (1, .ref bs), (2, .int y2), (3, mV a2 (some 1)), (4, mV a2 (some 2)), (5, mV a2 (some 3)), (6, mV a2 (some 4)), (7, mV a2 (some 5)), (8, mV a2 (some 6)), (9, mV a2 (some 7)), (10, mV a2 (some 0)), (11, .int x11_106)]) C hl179 dL_runs_172 (by decide) rfl (fun ls hl180 => ?_)
                  clear hl179
                  refine lv_iconst (v := 0) hx hb dL_runs_174 (by decide) ?_
                  refine mr_istore (lv' := [(17, .int (0 : Int32)), (16, .int (0 : Int32)), (15, .int (4 : Int32)), (14, .int (pCell L xs j31)), (13, .int (pCell L xs j24)), (12, .int (pCell L xs j17)), (0, mV a1 (some 0)), (1, .ref bs), (2, .int y2), (3, mV a2 (some 1)), (4, mV a2 (some 2)), (5, mV a2 (some 3)), (6, mV a2 (some 4)), (7, mV a2 (some 5)), (8, mV a2 (some 6)), (9, mV a2 (some 7)), (10, mV a2 (some 0)), (11, .int x11_106)]) C hl180 dL_runs_175 (by decide) rfl (fun ls hl181 => ?_)
                  clear hl180
                  obtain ⟨I177, hI177, nn177, h_106⟩ := h_106
                  have hL177 : ∀ (n177 : Nat) (x16_177 : Int32) (x17_177 : Int32) (u_177 : Nat) (σ_177 τ_177 : mS) (H : Heap) (locs : List Loc) (ls : Array Slot), u_177 ≤ b → I177 n177 x16_177 x17_177 u_177 σ_177 τ_177 → pM G a1 a2 (mN σ0) s σ_177 τ_177 H locs → ml_has ls 21 [(0, mV a1 (some 0)), (1, .ref bs), (2, .int y2), (3, mV a2 (some 1)), (4, mV a2 (some 2)), (5, mV a2 (some 3)), (6, mV a2 (some 4)), (7, mV a2 (some 5)), (8, mV a2 (some 6)), (9, mV a2 (some 7)), (10, mV a2 (some 0)), (11, .int x11_106), (12, .int (pCell L xs j17)), (13, .int (pCell L xs j24)), (14, .int (pCell L xs j31)), (15, .int (4 : Int32)), (16, .int x16_177), (17, .int x17_177)] → W p l e (mRb 10 213 b) s m ([mV a1 (some 0), .ref bs, .int y2, mV a2 (some 1), mV a2 (some 2), mV a2 (some 3), mV a2 (some 4), mV a2 (some 5), mV a2 (some 6), mV a2 (some 7)] : List Value).toArray below meth c H locs u_177 (18 * u_177) (MQ below (va_Qi (fun r (q : mS × mS) => Q r q.1 q.2 ∧ narrow .boolean (.int r) = .int r) (pPost G N1 a1 a2 (mN σ0)) (pA a1 a2 (mN σ0) N1)) ([mV a1 (some 0), .ref bs, .int y2, mV a2 (some 1), mV a2 (some 2), mV a2 (some 3), mV a2 (some 4), mV a2 (some 5), mV a2 (some 6), mV a2 (some 7)] : List Value).toArray s b (18 * b) (pA a1 a2 (mN σ0) N1)) (F0 m 177 ls []) := by
                    refine m_loop (fun n177 ih177 => ?_)
                    intro x16_177 x17_177 u_177 σ_177 τ_177 H locs ls hu_177 h_177 hM_177 hl_177
                    replace h_177 := hI177 n177 x16_177 x17_177 u_177 σ_177 τ_177 h_177
                    refine lv_iload hx hb dL_runs_177 (ml_at hl_177 17 rfl) ?_
                    refine mr_aload C dL_runs_179 (ml_at hl_177 10 rfl) ?_
                    refine lv_iconst (v := 1) hx hb dL_runs_181 (by decide) ?_
                    obtain ⟨j182, ej183, ej183b, h_177⟩ := h_177
                    refine pr_iald C hM_177 (i := 0) rfl (by decide) ej183 ej183b (by decide) dL_runs_182 ?_
                    refine lv_icmp_ge (tgt := 228) hx hb dL_runs_183 (by decide) (fun hc184 => ?_) (fun hc184 => ?_)
                    · replace h_177 := h_177.1 hc184
                      refine mr_aload C dL_runs_228 (ml_at hl_177 10 rfl) ?_
                      refine lv_iconst (v := 1) hx hb dL_runs_230 (by decide) ?_
                      obtain ⟨j185, ej186, ej186b, h_177⟩ := h_177
                      refine pr_iald C hM_177 (i := 0) rfl (by decide) ej186 ej186b (by decide) dL_runs_231 ?_
                      refine lv_iload hx hb dL_runs_232 (ml_at hl_177 16 rfl) ?_
                      refine lv_iadd hx hb dL_runs_234 ?_
                      refine lv_bipush (v := 58) hx hb dL_runs_235 (by decide) ?_
                      refine lv_icmp_le (tgt := 242) hx hb dL_runs_237 (by decide) (fun hc187 => ?_) (fun hc187 => ?_)
                      · replace h_177 := h_177.1 hc187
                        refine lv_iconst (v := 1) hx hb dL_runs_242 (by decide) ?_
                        refine mr_istore (lv' := [(17, .int (1 : Int32)), (0, mV a1 (some 0)), (1, .ref bs), (2, .int y2), (3, mV a2 (some 1)), (4, mV a2 (some 2)), (5, mV a2 (some 3)), (6, mV a2 (some 4)), (7, mV a2 (some 5)), (8, mV a2 (some 6)), (9, mV a2 (some 7)), (10, mV a2 (some 0)), (11, .int x11_106), (12, .int (pCell L xs j17)), (13, .int (pCell L xs j24)), (14, .int (pCell L xs j31)), (15, .int (4 : Int32)), (16, .int x16_177)]) C hl_177 dL_runs_243 (by decide) rfl (fun ls hl188 => ?_)
                        clear hl_177
                        refine lv_iload hx hb dL_runs_245 (ml_at hl188 16 rfl) ?_
                        refine lv_bipush (v := 9) hx hb dL_runs_247 (by decide) ?_
                        obtain ⟨J547, hJ547, h_177⟩ := h_177
                        have hj547 : ∀ (x17_547 : Int32) (u_547 : Nat) (σ_547 τ_547 : mS) (H : Heap) (locs : List Loc) (ls : Array Slot), u_547 ≤ b → J547 x17_547 u_547 σ_547 τ_547 → pM G a1 a2 (mN σ0) s σ_547 τ_547 H locs → ml_has ls 21 [(0, mV a1 (some 0)), (1, .ref bs), (2, .int y2), (3, mV a2 (some 1)), (4, mV a2 (some 2)), (5, mV a2 (some 3)), (6, mV a2 (some 4)), (7, mV a2 (some 5)), (8, mV a2 (some 6)), (9, mV a2 (some 7)), (10, mV a2 (some 0)), (11, .int x11_106), (12, .int (pCell L xs j17)), (13, .int (pCell L xs j24)), (17, .int x17_547)] → W p l e (mRb 10 213 b) s m ([mV a1 (some 0), .ref bs, .int y2, mV a2 (some 1), mV a2 (some 2), mV a2 (some 3), mV a2 (some 4), mV a2 (some 5), mV a2 (some 6), mV a2 (some 7)] : List Value).toArray below meth c H locs u_547 (18 * u_547) (MQ below (va_Qi (fun r (q : mS × mS) => Q r q.1 q.2 ∧ narrow .boolean (.int r) = .int r) (pPost G N1 a1 a2 (mN σ0)) (pA a1 a2 (mN σ0) N1)) ([mV a1 (some 0), .ref bs, .int y2, mV a2 (some 1), mV a2 (some 2), mV a2 (some 3), mV a2 (some 4), mV a2 (some 5), mV a2 (some 6), mV a2 (some 7)] : List Value).toArray s b (18 * b) (pA a1 a2 (mN σ0) N1)) (F0 m 547 ls []) := by
                          intro x17_547 u_547 σ_547 τ_547 H locs ls hu_547 h_547 hM_547 hl_547
                          replace h_547 := hJ547 x17_547 u_547 σ_547 τ_547 h_547
                          refine lv_iload hx hb dL_runs_547 (ml_at hl_547 14 rfl) ?_
                          refine lv_if_eq (tgt := 577) hx hb dL_runs_549 (by decide) (fun hc189 => ?_) (fun hc189 => ?_)
                          · replace h_547 := h_547.1 hc189
                            refine lv_iconst (v := 0) hx hb dL_runs_577 (by decide) ?_
                            exact mr_wi hu_547 (pr_zret C hM_547 hN hr hlk rfl h_547 dL_runs_578)
                          · replace h_547 := h_547.2 hc189
                            refine mr_aload_n C dL_runs_552 rfl (ml_at hl_547 0 rfl) ?_
                            refine lv_iload hx hb dL_runs_553 (ml_at hl_547 12 rfl) ?_
                            refine lv_iconst (v := 5) hx hb dL_runs_555 (by decide) ?_
                            refine lv_ishr hx hb dL_runs_556 ?_
                            refine lv_iload hx hb dL_runs_557 (ml_at hl_547 13 rfl) ?_
                            refine lv_ixor hx hb dL_runs_559 ?_
                            refine mr_aload_n C dL_runs_560 rfl (ml_at hl_547 3 rfl) ?_
                            refine mr_aload C dL_runs_561 (ml_at hl_547 4 rfl) ?_
                            refine mr_aload C dL_runs_563 (ml_at hl_547 5 rfl) ?_
                            refine mr_aload C dL_runs_565 (ml_at hl_547 6 rfl) ?_
                            refine mr_aload C dL_runs_567 (ml_at hl_547 8 rfl) ?_
                            refine mr_aload C dL_runs_569 (ml_at hl_547 10 rfl) ?_
                            obtain ⟨k193, hk193, h_547⟩ := h_547
                            refine pr_pi (As := fun a => [mV a (some 0), .int (((pCell L xs j17) >>> ((5 : Int32) &&& 31)) ^^^ (pCell L xs j24)), mV a2 (some 1), mV a2 (some 2), mV a2 (some 3), mV a2 (some 4), mV a2 (some 6), mV a2 (some 0)]) C E hM_547 (fun a ha => by simp only [mV_some, ha]) hl_547.1.1 cw_L_138 (fun a N1 => c_L_isTold l hfl G N0 N1 a a2 (((pCell L xs j17) >>> ((5 : Int32) &&& 31)) ^^^ (pCell L xs j24)) _ _ k193 _ h_547) (n := 8) ⟨rfl, by decide, by decide, by decide +kernel⟩ rfl rfl ⟨Nat.le_of_ble_eq_true rfl, Nat.le_of_ble_eq_true rfl⟩ m_c0 (Nat.le_of_ble_eq_true rfl) dL_runs_571 hk193 (fun x192 σ194 τ195 H locs h190 hzx192 hM191 => ?_)
                            clear h_547 hM_547
                            refine lv_if_ne (tgt := 579) hx hb dL_runs_574 (by decide) (fun hc196 => ?_) (fun hc196 => ?_)
                            · replace h190 := h190.1 hc196
                              refine mr_iinc (v := (x11_106 + 1)) (lv' := [(11, .int (x11_106 + 1)), (0, mV a1 (some 0)), (1, .ref bs), (2, .int y2), (3, mV a2 (some 1)), (4, mV a2 (some 2)), (5, mV a2 (some 3)), (6, mV a2 (some 4)), (7, mV a2 (some 5)), (8, mV a2 (some 6)), (9, mV a2 (some 7)), (10, mV a2 (some 0)), (12, .int (pCell L xs j17)), (13, .int (pCell L xs j24)), (17, .int x17_547)]) C hl_547 dL_runs_579 (k := 11) rfl rfl (by decide) rfl (fun ls hl197 => ?_)
                              clear hl_547
                              refine lv_goto (tgt := 106) hx hb dL_runs_582 (by decide) ?_
                              obtain ⟨k198, hk198, h190⟩ := h190
                              exact ih106 k198 hk198 (x11_106 + 1) (u_547 + k193) σ194 τ195 _ _ _ hk193 h190 hM191 (ml_sub hl197 [1, 2, 3, 4, 5, 6, 7, 8, 9, 10, 11, 0] rfl)
                            · replace h190 := h190.2 hc196
                              refine lv_iconst (v := 0) hx hb dL_runs_577 (by decide) ?_
                              exact mr_wi hk193 (pr_zret C hM191 hN hr hlk rfl h190 dL_runs_578)
                        refine lv_icmp_ge (tgt := 268) hx hb dL_runs_249 (by decide) (fun hc199 => ?_) (fun hc199 => ?_)
                        · replace h_177 := h_177.1 hc199
                          refine lv_iload hx hb dL_runs_268 (ml_at hl188 16 rfl) ?_
                          refine lv_bipush (v := 14) hx hb dL_runs_270 (by decide) ?_
                          refine lv_icmp_ge (tgt := 375) hx hb dL_runs_272 (by decide) (fun hc200 => ?_) (fun hc200 => ?_)
                          · replace h_177 := h_177.1 hc200
                            refine lv_iload hx hb dL_runs_375 (ml_at hl188 16 rfl) ?_
                            refine lv_bipush (v := 14) hx hb dL_runs_377 (by decide) ?_
                            obtain ⟨J494, hJ494, h_177⟩ := h_177
                            have hj494 : ∀ (x17_494 : Int32) (u_494 : Nat) (σ_494 τ_494 : mS) (H : Heap) (locs : List Loc) (ls : Array Slot), u_494 ≤ b → J494 x17_494 u_494 σ_494 τ_494 → pM G a1 a2 (mN σ0) s σ_494 τ_494 H locs → ml_has ls 21 [(0, mV a1 (some 0)), (1, .ref bs), (2, .int y2), (3, mV a2 (some 1)), (4, mV a2 (some 2)), (5, mV a2 (some 3)), (6, mV a2 (some 4)), (7, mV a2 (some 5)), (8, mV a2 (some 6)), (9, mV a2 (some 7)), (10, mV a2 (some 0)), (11, .int x11_106), (12, .int (pCell L xs j17)), (13, .int (pCell L xs j24)), (15, .int (4 : Int32)), (17, .int x17_494)] → W p l e (mRb 10 213 b) s m ([mV a1 (some 0), .ref bs, .int y2, mV a2 (some 1), mV a2 (some 2), mV a2 (some 3), mV a2 (some 4), mV a2 (some 5), mV a2 (some 6), mV a2 (some 7)] : List Value).toArray below meth c H locs u_494 (18 * u_494) (MQ below (va_Qi (fun r (q : mS × mS) => Q r q.1 q.2 ∧ narrow .boolean (.int r) = .int r) (pPost G N1 a1 a2 (mN σ0)) (pA a1 a2 (mN σ0) N1)) ([mV a1 (some 0), .ref bs, .int y2, mV a2 (some 1), mV a2 (some 2), mV a2 (some 3), mV a2 (some 4), mV a2 (some 5), mV a2 (some 6), mV a2 (some 7)] : List Value).toArray s b (18 * b) (pA a1 a2 (mN σ0) N1)) (F0 m 494 ls []) := by
                              intro x17_494 u_494 σ_494 τ_494 H locs ls hu_494 h_494 hM_494 hl_494
                              replace h_494 := hJ494 x17_494 u_494 σ_494 τ_494 h_494
                              refine lv_iload hx hb dL_runs_494 (ml_at hl_494 14 rfl) ?_
                              refine lv_bipush (v := 14) hx hb dL_runs_496 (by decide) ?_
                              refine lv_icmp_le (tgt := 547) hx hb dL_runs_498 (by decide) (fun hc201 => ?_) (fun hc201 => ?_)
                              · replace h_494 := h_494.1 hc201
                                exact hj547 x17_494 u_494 σ_494 τ_494 _ _ _ hu_494 h_494 hM_494 (ml_sub hl_494 [0, 1, 2, 3, 4, 5, 6, 7, 8, 9, 10, 11, 12, 13, 15] rfl)
                              · replace h_494 := h_494.2 hc201
                                refine mr_aload C dL_runs_501 (ml_at hl_494 10 rfl) ?_
                                refine lv_iconst (v := 2) hx hb dL_runs_503 (by decide) ?_
                                obtain ⟨j202, ej203, ej203b, h_494⟩ := h_494
                                refine pr_iald C hM_494 (i := 0) rfl (by decide) ej203 ej203b (by decide) dL_runs_504 ?_
                                refine mr_istore (lv' := [(18, .int (mI τ_494 0 j202)), (0, mV a1 (some 0)), (1, .ref bs), (2, .int y2), (3, mV a2 (some 1)), (4, mV a2 (some 2)), (5, mV a2 (some 3)), (6, mV a2 (some 4)), (7, mV a2 (some 5)), (8, mV a2 (some 6)), (9, mV a2 (some 7)), (10, mV a2 (some 0)), (11, .int x11_106), (12, .int (pCell L xs j17)), (13, .int (pCell L xs j24)), (15, .int (4 : Int32)), (17, .int x17_494)]) C hl_494 dL_runs_505 (by decide) rfl (fun ls hl204 => ?_)
                                clear hl_494
                                refine mr_aload_n C dL_runs_507 rfl (ml_at hl204 4 rfl) ?_
                                refine mr_aload C dL_runs_508 (ml_at hl204 5 rfl) ?_
                                refine mr_aload C dL_runs_510 (ml_at hl204 6 rfl) ?_
                                refine mr_aload C dL_runs_512 (ml_at hl204 7 rfl) ?_
                                refine mr_aload C dL_runs_514 (ml_at hl204 8 rfl) ?_
                                refine mr_aload C dL_runs_516 (ml_at hl204 9 rfl) ?_
                                refine mr_aload C dL_runs_518 (ml_at hl204 10 rfl) ?_
                                refine mr_aload C dL_runs_520 (ml_at hl204 11 rfl) ?_
                                refine pr_lv (As := fun ad => [mV ad (some 1), mV ad (some 2), mV ad (some 3), mV ad (some 4), mV ad (some 5), mV ad (some 6), mV ad (some 7), mV ad (some 0)]) C hM_494 (fun ad had => by simp only [mV_some, had 1 (by decide), had 2 (by decide), had 3 (by decide), had 4 (by decide), had 5 (by decide), had 6 (by decide), had 7 (by decide), had 0 (by decide)]) hl204.1.1 cw_L_150 (fun ad => c_L_tick l G ad  _ _ h_494) (fun _ q => q.1) (n := 8) ⟨rfl, by decide, by decide, by decide +kernel⟩ rfl rfl ⟨Nat.le_of_ble_eq_true rfl, Nat.le_of_ble_eq_true rfl⟩ m_c0 (Nat.le_of_ble_eq_true rfl) dL_runs_522 ⟨hu_494, Nat.mul_le_mul_left 18 hu_494⟩ (fun τ208 H locs h205 hM206 => ?_)
                                clear h_494 hM_494
                                replace h205 := h205.2
                                refine mr_aload_n C dL_runs_525 rfl (ml_at hl204 1 rfl) ?_
                                refine lv_iconst (v := 1) hx hb dL_runs_526 (by decide) ?_
                                obtain ⟨hr212, h205⟩ := h205
                                obtain ⟨k214, hk214, h205⟩ := h205
                                refine pr_wi (Is := [.int (1 : Int32)]) C E hM206 hr212 hl204.1.1 cl_L_134 (fun ad => c_L_pass l hfl G ad (1 : Int32) _ _ _ h205) (fun _ _ q => q.1) (n := 2) ⟨by decide, by decide, by decide +kernel⟩ rfl rfl ⟨Nat.le_of_ble_eq_true rfl, Nat.le_of_ble_eq_true rfl⟩ m_c0 (Nat.le_of_ble_eq_true rfl) dL_runs_527 hk214 (fun x211 σ213 H locs h209 hM210 => ?_)
                                clear h205 hM206
                                replace h209 := h209.2
                                refine mr_aload C dL_runs_530 (ml_at hl204 11 rfl) ?_
                                refine lv_iconst (v := 2) hx hb dL_runs_532 (by decide) ?_
                                obtain ⟨j215, ej216, ej216b, h209⟩ := h209
                                refine pr_iald C hM210 (i := 0) rfl (by decide) ej216 ej216b (by decide) dL_runs_533 ?_
                                refine lv_iload hx hb dL_runs_534 (ml_at hl204 0 rfl) ?_
                                refine lv_isub hx hb dL_runs_536 ?_
                                obtain ⟨J545, hJ545, h209⟩ := h209
                                have hj545 : ∀ (xk0_545 : Int32) (u_545 : Nat) (σ_545 τ_545 : mS) (H : Heap) (locs : List Loc) (ls : Array Slot), u_545 ≤ b → J545 xk0_545 u_545 σ_545 τ_545 → pM G a1 a2 (mN σ0) s σ_545 τ_545 H locs → ml_has ls 21 [(0, mV a1 (some 0)), (1, .ref bs), (2, .int y2), (3, mV a2 (some 1)), (4, mV a2 (some 2)), (5, mV a2 (some 3)), (6, mV a2 (some 4)), (7, mV a2 (some 5)), (8, mV a2 (some 6)), (9, mV a2 (some 7)), (10, mV a2 (some 0)), (11, .int x11_106), (12, .int (pCell L xs j17)), (13, .int (pCell L xs j24))] → W p l e (mRb 10 213 b) s m ([mV a1 (some 0), .ref bs, .int y2, mV a2 (some 1), mV a2 (some 2), mV a2 (some 3), mV a2 (some 4), mV a2 (some 5), mV a2 (some 6), mV a2 (some 7)] : List Value).toArray below meth c H locs u_545 (18 * u_545) (MQ below (va_Qi (fun r (q : mS × mS) => Q r q.1 q.2 ∧ narrow .boolean (.int r) = .int r) (pPost G N1 a1 a2 (mN σ0)) (pA a1 a2 (mN σ0) N1)) ([mV a1 (some 0), .ref bs, .int y2, mV a2 (some 1), mV a2 (some 2), mV a2 (some 3), mV a2 (some 4), mV a2 (some 5), mV a2 (some 6), mV a2 (some 7)] : List Value).toArray s b (18 * b) (pA a1 a2 (mN σ0) N1)) (F0 m 545 ls [.int xk0_545]) := by
                                  intro xk0_545 u_545 σ_545 τ_545 H locs ls hu_545 h_545 hM_545 hl_545
                                  replace h_545 := hJ545 xk0_545 u_545 σ_545 τ_545 h_545
                                  refine mr_istore (lv' := [(17, .int xk0_545), (0, mV a1 (some 0)), (1, .ref bs), (2, .int y2), (3, mV a2 (some 1)), (4, mV a2 (some 2)), (5, mV a2 (some 3)), (6, mV a2 (some 4)), (7, mV a2 (some 5)), (8, mV a2 (some 6)), (9, mV a2 (some 7)), (10, mV a2 (some 0)), (11, .int x11_106), (12, .int (pCell L xs j17)), (13, .int (pCell L xs j24))]) C hl_545 dL_runs_545 (by decide) rfl (fun ls hl217 => ?_)
                                  clear hl_545
                                  exact hj547 xk0_545 u_545 σ_545 τ_545 _ _ _ hu_545 h_545 hM_545 (ml_sub hl217 [1, 2, 3, 4, 5, 6, 7, 8, 9, 10, 11, 12, 13, 14, 0] rfl)
                                refine lv_icmp_ne (tgt := 544) hx hb dL_runs_537 (by decide) (fun hc218 => ?_) (fun hc218 => ?_)
                                · replace h209 := h209.1 hc218
                                  refine lv_iconst (v := 0) hx hb dL_runs_544 (by decide) ?_
                                  exact hj545 (0 : Int32) (u_494 + k214) σ213 τ208 _ _ _ hk214 h209 hM210 (ml_sub hl204 [1, 2, 3, 4, 5, 6, 7, 8, 9, 10, 11, 12, 13, 14] rfl)
                                · replace h209 := h209.2 hc218
                                  refine lv_iconst (v := 1) hx hb dL_runs_540 (by decide) ?_
                                  refine lv_goto (tgt := 545) hx hb dL_runs_541 (by decide) ?_
                                  exact hj545 (1 : Int32) (u_494 + k214) σ213 τ208 _ _ _ hk214 h209 hM210 (ml_sub hl204 [1, 2, 3, 4, 5, 6, 7, 8, 9, 10, 11, 12, 13, 14] rfl)
                            refine lv_icmp_ne (tgt := 494) hx hb dL_runs_379 (by decide) (fun hc219 => ?_) (fun hc219 => ?_)
                            · replace h_177 := h_177.1 hc219
                              exact hj494 (1 : Int32) u_177 σ_177 τ_177 _ _ _ hu_177 h_177 hM_177 (ml_sub hl188 [1, 2, 3, 4, 5, 6, 7, 8, 9, 10, 11, 12, 13, 14, 16, 0] rfl)
                            · replace h_177 := h_177.2 hc219
                              refine mr_aload C dL_runs_382 (ml_at hl188 11 rfl) ?_
                              refine lv_iconst (v := 1) hx hb dL_runs_384 (by decide) ?_
                              obtain ⟨j220, ej221, ej221b, h_177⟩ := h_177
                              refine pr_iald C hM_177 (i := 0) rfl (by decide) ej221 ej221b (by decide) dL_runs_385 ?_
                              refine lv_if_le (tgt := 494) hx hb dL_runs_386 (by decide) (fun hc222 => ?_) (fun hc222 => ?_)
                              · replace h_177 := h_177.1 hc222
                                exact hj494 (1 : Int32) u_177 σ_177 τ_177 _ _ _ hu_177 h_177 hM_177 (ml_sub hl188 [1, 2, 3, 4, 5, 6, 7, 8, 9, 10, 11, 12, 13, 14, 16, 0] rfl)
                              · replace h_177 := h_177.2 hc222
                                refine lv_iload hx hb dL_runs_389 (ml_at hl188 14 rfl) ?_
                                refine mr_aload C dL_runs_391 (ml_at hl188 11 rfl) ?_
                                refine lv_iconst (v := 1) hx hb dL_runs_393 (by decide) ?_
                                obtain ⟨j223, ej224, ej224b, h_177⟩ := h_177
                                refine pr_iald C hM_177 (i := 0) rfl (by decide) ej224 ej224b (by decide) dL_runs_394 ?_
                                refine pr_li (As := fun ad => [.int (pCell L xs j24), .int (mI τ_177 0 j223)]) C hM_177 (fun _ _ => rfl) hl188.1.1 cw_L_83 (fun ad => c_L_low l G ad (pCell L xs j24) (mI τ_177 0 j223) _ _ h_177) (fun _ _ q => q.1) (n := 2) ⟨rfl, by decide, by decide, by decide +kernel⟩ rfl rfl ⟨Nat.le_of_ble_eq_true rfl, Nat.le_of_ble_eq_true rfl⟩ m_c0 (Nat.le_of_ble_eq_true rfl) dL_runs_395 ⟨hu_177, Nat.mul_le_mul_left 18 hu_177⟩ (fun x227 τ228 H locs h225 hM226 => ?_)
                                clear h_177 hM_177
                                replace h225 := h225.2
                                refine mr_istore (lv' := [(18, .int x227), (17, .int (1 : Int32)), (0, mV a1 (some 0)), (1, .ref bs), (2, .int y2), (3, mV a2 (some 1)), (4, mV a2 (some 2)), (5, mV a2 (some 3)), (6, mV a2 (some 4)), (7, mV a2 (some 5)), (8, mV a2 (some 6)), (9, mV a2 (some 7)), (10, mV a2 (some 0)), (11, .int x11_106), (12, .int (pCell L xs j17)), (13, .int (pCell L xs j24)), (14, .int (pCell L xs j31)), (15, .int (4 : Int32)), (16, .int x16_177)]) C hl188 dL_runs_398 (by decide) rfl (fun ls hl229 => ?_)
                                clear hl188
                                refine mr_aload C dL_runs_400 (ml_at hl229 6 rfl) ?_
                                refine lv_iload hx hb dL_runs_402 (ml_at hl229 0 rfl) ?_
                                refine lv_iconst (v := 3) hx hb dL_runs_404 (by decide) ?_
                                refine lv_iconst (v := 3) hx hb dL_runs_405 (by decide) ?_
                                refine pr_li (As := fun ad => [mV ad (some 2), .int x227, .int (3 : Int32), .int (3 : Int32)]) C hM226 (fun ad had => by simp only [mV_some, had 2 (by decide)]) hl229.1.1 cw_L_59 (fun ad => c_L_get l G ad x227 (3 : Int32) (3 : Int32) _ _ h225) (fun _ _ q => q.1) (n := 4) ⟨rfl, by decide, by decide, by decide +kernel⟩ rfl rfl ⟨Nat.le_of_ble_eq_true rfl, Nat.le_of_ble_eq_true rfl⟩ m_c0 (Nat.le_of_ble_eq_true rfl) dL_runs_406 ⟨hu_177, Nat.mul_le_mul_left 18 hu_177⟩ (fun x232 τ233 H locs h230 hM231 => ?_)
                                clear h225 hM226
                                replace h230 := h230.2
                                refine lv_iconst (v := 2) hx hb dL_runs_409 (by decide) ?_
                                obtain ⟨J491, hJ491, h230⟩ := h230
                                have hj491 : ∀ (x17_491 : Int32) (u_491 : Nat) (σ_491 τ_491 : mS) (H : Heap) (locs : List Loc) (ls : Array Slot), u_491 ≤ b → J491 x17_491 u_491 σ_491 τ_491 → pM G a1 a2 (mN σ0) s σ_491 τ_491 H locs → ml_has ls 21 [(0, mV a1 (some 0)), (1, .ref bs), (2, .int y2), (3, mV a2 (some 1)), (4, mV a2 (some 2)), (5, mV a2 (some 3)), (6, mV a2 (some 4)), (7, mV a2 (some 5)), (8, mV a2 (some 6)), (9, mV a2 (some 7)), (10, mV a2 (some 0)), (11, .int x11_106), (12, .int (pCell L xs j17)), (13, .int (pCell L xs j24)), (17, .int x17_491)] → W p l e (mRb 10 213 b) s m ([mV a1 (some 0), .ref bs, .int y2, mV a2 (some 1), mV a2 (some 2), mV a2 (some 3), mV a2 (some 4), mV a2 (some 5), mV a2 (some 6), mV a2 (some 7)] : List Value).toArray below meth c H locs u_491 (18 * u_491) (MQ below (va_Qi (fun r (q : mS × mS) => Q r q.1 q.2 ∧ narrow .boolean (.int r) = .int r) (pPost G N1 a1 a2 (mN σ0)) (pA a1 a2 (mN σ0) N1)) ([mV a1 (some 0), .ref bs, .int y2, mV a2 (some 1), mV a2 (some 2), mV a2 (some 3), mV a2 (some 4), mV a2 (some 5), mV a2 (some 6), mV a2 (some 7)] : List Value).toArray s b (18 * b) (pA a1 a2 (mN σ0) N1)) (F0 m 491 ls []) := by
                                  intro x17_491 u_491 σ_491 τ_491 H locs ls hu_491 h_491 hM_491 hl_491
                                  replace h_491 := hJ491 x17_491 u_491 σ_491 τ_491 h_491
                                  refine lv_goto (tgt := 547) hx hb dL_runs_491 (by decide) ?_
                                  exact hj547 x17_491 u_491 σ_491 τ_491 _ _ _ hu_491 h_491 hM_491 (ml_sub hl_491 [0, 1, 2, 3, 4, 5, 6, 7, 8, 9, 10, 11, 12, 13, 14] rfl)
                                obtain ⟨J421, hJ421, h230⟩ := h230
                                have hj421 : ∀ (u_421 : Nat) (σ_421 τ_421 : mS) (H : Heap) (locs : List Loc) (ls : Array Slot), u_421 ≤ b → J421 u_421 σ_421 τ_421 → pM G a1 a2 (mN σ0) s σ_421 τ_421 H locs → ml_has ls 21 [(0, mV a1 (some 0)), (1, .ref bs), (2, .int y2), (3, mV a2 (some 1)), (4, mV a2 (some 2)), (5, mV a2 (some 3)), (6, mV a2 (some 4)), (7, mV a2 (some 5)), (8, mV a2 (some 6)), (9, mV a2 (some 7)), (10, mV a2 (some 0)), (11, .int x11_106), (12, .int (pCell L xs j17)), (13, .int (pCell L xs j24)), (18, .int x227)] → W p l e (mRb 10 213 b) s m ([mV a1 (some 0), .ref bs, .int y2, mV a2 (some 1), mV a2 (some 2), mV a2 (some 3), mV a2 (some 4), mV a2 (some 5), mV a2 (some 6), mV a2 (some 7)] : List Value).toArray below meth c H locs u_421 (18 * u_421) (MQ below (va_Qi (fun r (q : mS × mS) => Q r q.1 q.2 ∧ narrow .boolean (.int r) = .int r) (pPost G N1 a1 a2 (mN σ0)) (pA a1 a2 (mN σ0) N1)) ([mV a1 (some 0), .ref bs, .int y2, mV a2 (some 1), mV a2 (some 2), mV a2 (some 3), mV a2 (some 4), mV a2 (some 5), mV a2 (some 6), mV a2 (some 7)] : List Value).toArray s b (18 * b) (pA a1 a2 (mN σ0) N1)) (F0 m 421 ls []) := by
                                  intro u_421 σ_421 τ_421 H locs ls hu_421 h_421 hM_421 hl_421
                                  replace h_421 := hJ421 u_421 σ_421 τ_421 h_421
                                  refine mr_aload_n C dL_runs_421 rfl (ml_at hl_421 0 rfl) ?_
                                  refine lv_iload hx hb dL_runs_422 (ml_at hl_421 14 rfl) ?_
                                  obtain ⟨hr237, h_421⟩ := h_421
                                  obtain ⟨k239, hk239, h_421⟩ := h_421
                                  refine pr_wi (Is := [.int x227]) C E hM_421 hr237 hl_421.1.1 cl_L_132 (fun ad => c_L_cancel l hfl G ad x227 _ _ _ h_421) (fun _ _ q => q.1) (n := 2) ⟨by decide, by decide, by decide +kernel⟩ rfl rfl ⟨Nat.le_of_ble_eq_true rfl, Nat.le_of_ble_eq_true rfl⟩ m_c0 (Nat.le_of_ble_eq_true rfl) dL_runs_424 hk239 (fun x236 σ238 H locs h234 hM235 => ?_)
                                  clear h_421 hM_421
                                  replace h234 := h234.2
                                  refine lv_bipush (v := -73) hx hb dL_runs_427 (by decide) ?_
                                  obtain ⟨J437, hJ437, h234⟩ := h234
                                  have hj437 : ∀ (xk0_437 : Int32) (u_437 : Nat) (σ_437 τ_437 : mS) (H : Heap) (locs : List Loc) (ls : Array Slot), u_437 ≤ b → J437 xk0_437 u_437 σ_437 τ_437 → pM G a1 a2 (mN σ0) s σ_437 τ_437 H locs → ml_has ls 21 [(0, mV a1 (some 0)), (1, .ref bs), (2, .int y2), (3, mV a2 (some 1)), (4, mV a2 (some 2)), (5, mV a2 (some 3)), (6, mV a2 (some 4)), (7, mV a2 (some 5)), (8, mV a2 (some 6)), (9, mV a2 (some 7)), (10, mV a2 (some 0)), (11, .int x11_106), (12, .int (pCell L xs j17)), (13, .int (pCell L xs j24))] → W p l e (mRb 10 213 b) s m ([mV a1 (some 0), .ref bs, .int y2, mV a2 (some 1), mV a2 (some 2), mV a2 (some 3), mV a2 (some 4), mV a2 (some 5), mV a2 (some 6), mV a2 (some 7)] : List Value).toArray below meth c H locs u_437 (18 * u_437) (MQ below (va_Qi (fun r (q : mS × mS) => Q r q.1 q.2 ∧ narrow .boolean (.int r) = .int r) (pPost G N1 a1 a2 (mN σ0)) (pA a1 a2 (mN σ0) N1)) ([mV a1 (some 0), .ref bs, .int y2, mV a2 (some 1), mV a2 (some 2), mV a2 (some 3), mV a2 (some 4), mV a2 (some 5), mV a2 (some 6), mV a2 (some 7)] : List Value).toArray s b (18 * b) (pA a1 a2 (mN σ0) N1)) (F0 m 437 ls [.int xk0_437]) := by
                                    intro xk0_437 u_437 σ_437 τ_437 H locs ls hu_437 h_437 hM_437 hl_437
                                    replace h_437 := hJ437 xk0_437 u_437 σ_437 τ_437 h_437
                                    refine mr_istore (lv' := [(17, .int xk0_437), (0, mV a1 (some 0)), (1, .ref bs), (2, .int y2), (3, mV a2 (some 1)), (4, mV a2 (some 2)), (5, mV a2 (some 3)), (6, mV a2 (some 4)), (7, mV a2 (some 5)), (8, mV a2 (some 6)), (9, mV a2 (some 7)), (10, mV a2 (some 0)), (11, .int x11_106), (12, .int (pCell L xs j17)), (13, .int (pCell L xs j24))]) C hl_437 dL_runs_437 (by decide) rfl (fun ls hl240 => ?_)
                                    clear hl_437
                                    refine lv_goto (tgt := 491) hx hb dL_runs_439 (by decide) ?_
                                    exact hj491 xk0_437 u_437 σ_437 τ_437 _ _ _ hu_437 h_437 hM_437 (ml_sub hl240 [1, 2, 3, 4, 5, 6, 7, 8, 9, 10, 11, 12, 13, 14, 0] rfl)
                                  refine lv_icmp_ne (tgt := 436) hx hb dL_runs_429 (by decide) (fun hc241 => ?_) (fun hc241 => ?_)
                                  · replace h234 := h234.1 hc241
                                    refine lv_iconst (v := 0) hx hb dL_runs_436 (by decide) ?_
                                    exact hj437 (0 : Int32) (u_421 + k239) σ238 τ_421 _ _ _ hk239 h234 hM235 (ml_sub hl_421 [0, 1, 2, 3, 4, 5, 6, 7, 8, 9, 10, 11, 12, 13] rfl)
                                  · replace h234 := h234.2 hc241
                                    refine lv_iconst (v := 1) hx hb dL_runs_432 (by decide) ?_
                                    refine lv_goto (tgt := 437) hx hb dL_runs_433 (by decide) ?_
                                    exact hj437 (1 : Int32) (u_421 + k239) σ238 τ_421 _ _ _ hk239 h234 hM235 (ml_sub hl_421 [0, 1, 2, 3, 4, 5, 6, 7, 8, 9, 10, 11, 12, 13] rfl)
                                refine lv_icmp_gt (tgt := 421) hx hb dL_runs_410 (by decide) (fun hc242 => ?_) (fun hc242 => ?_)
                                · replace h230 := h230.1 hc242
                                  exact hj421 u_177 σ_177 τ233 _ _ _ hu_177 h230 hM231 (ml_sub hl229 [2, 3, 4, 5, 6, 7, 8, 9, 10, 11, 12, 13, 14, 15, 0] rfl)
                                · replace h230 := h230.2 hc242
                                  refine mr_aload C dL_runs_413 (ml_at hl229 8 rfl) ?_
                                  refine lv_iload hx hb dL_runs_415 (ml_at hl229 0 rfl) ?_
                                  obtain ⟨j243, ej244, ej244b, h230⟩ := h230
                                  refine pr_iald C hM231 (i := 4) rfl (by decide) ej244 ej244b (by decide) dL_runs_417 ?_
                                  refine lv_if_lt (tgt := 442) hx hb dL_runs_418 (by decide) (fun hc245 => ?_) (fun hc245 => ?_)
                                  · replace h230 := h230.1 hc245
                                    refine lv_iconst (v := 1) hx hb dL_runs_442 (by decide) ?_
                                    refine mr_aload C dL_runs_443 (ml_at hl229 6 rfl) ?_
                                    refine mr_aload C dL_runs_445 (ml_at hl229 8 rfl) ?_
                                    refine mr_aload C dL_runs_447 (ml_at hl229 12 rfl) ?_
                                    refine lv_iload hx hb dL_runs_449 (ml_at hl229 0 rfl) ?_
                                    refine pr_li (As := fun ad => [mV ad (some 2), mV ad (some 4), mV ad (some 0), .int x227]) C hM231 (fun ad had => by simp only [mV_some, had 2 (by decide), had 4 (by decide), had 0 (by decide)]) hl229.1.1 cw_L_112 (fun ad => c_L_below l G ad x227 _ _ h230) (fun _ _ q => q.1) (n := 4) ⟨rfl, by decide, by decide, by decide +kernel⟩ rfl rfl ⟨Nat.le_of_ble_eq_true rfl, Nat.le_of_ble_eq_true rfl⟩ (m_cI m_c0) (Nat.le_of_ble_eq_true rfl) dL_runs_451 ⟨hu_177, Nat.mul_le_mul_left 18 hu_177⟩ (fun x248 τ249 H locs h246 hM247 => ?_)
                                    clear h230 hM231
                                    replace h246 := h246.2
                                    refine lv_iadd hx hb dL_runs_454 ?_
                                    refine mr_istore (lv' := [(19, .int ((1 : Int32) + x248)), (18, .int x227), (17, .int (1 : Int32)), (0, mV a1 (some 0)), (1, .ref bs), (2, .int y2), (3, mV a2 (some 1)), (4, mV a2 (some 2)), (5, mV a2 (some 3)), (6, mV a2 (some 4)), (7, mV a2 (some 5)), (8, mV a2 (some 6)), (9, mV a2 (some 7)), (10, mV a2 (some 0)), (11, .int x11_106), (12, .int (pCell L xs j17)), (13, .int (pCell L xs j24)), (14, .int (pCell L xs j31)), (15, .int (4 : Int32)), (16, .int x16_177)]) C hl229 dL_runs_455 (by decide) rfl (fun ls hl250 => ?_)
                                    clear hl229
                                    refine lv_iload hx hb dL_runs_457 (ml_at hl250 1 rfl) ?_
                                    refine lv_bipush (v := 7) hx hb dL_runs_459 (by decide) ?_
                                    refine mr_aload_n C dL_runs_461 rfl (ml_at hl250 6 rfl) ?_
                                    refine mr_aload C dL_runs_462 (ml_at hl250 7 rfl) ?_
                                    refine mr_aload C dL_runs_464 (ml_at hl250 9 rfl) ?_
                                    refine mr_aload C dL_runs_466 (ml_at hl250 11 rfl) ?_
                                    refine mr_aload C dL_runs_468 (ml_at hl250 13 rfl) ?_
                                    refine pr_lv (As := fun ad => [.int x227, .int (7 : Int32), mV ad (some 1), mV ad (some 2), mV ad (some 4), mV ad (some 6), mV ad (some 0)]) C hM247 (fun ad had => by simp only [mV_some, had 1 (by decide), had 2 (by decide), had 4 (by decide), had 6 (by decide), had 0 (by decide)]) hl250.1.1 cw_L_67 (fun ad => c_L_end l G ad x227 (7 : Int32) _ _ h246) (fun _ q => q.1) (n := 7) ⟨rfl, by decide, by decide, by decide +kernel⟩ rfl rfl ⟨Nat.le_of_ble_eq_true rfl, Nat.le_of_ble_eq_true rfl⟩ m_c0 (Nat.le_of_ble_eq_true rfl) dL_runs_470 ⟨hu_177, Nat.mul_le_mul_left 18 hu_177⟩ (fun τ254 H locs h251 hM252 => ?_)
                                    clear h246 hM247
                                    replace h251 := h251.2
                                    refine mr_aload_n C dL_runs_473 rfl (ml_at hl250 3 rfl) ?_
                                    refine lv_iload hx hb dL_runs_474 (ml_at hl250 1 rfl) ?_
                                    obtain ⟨hr258, h251⟩ := h251
                                    obtain ⟨k260, hk260, h251⟩ := h251
                                    refine pr_wi (Is := [.int x227]) C E hM252 hr258 hl250.1.1 cl_L_132 (fun ad => c_L_cancel l hfl G ad x227 _ _ _ h251) (fun _ _ q => q.1) (n := 2) ⟨by decide, by decide, by decide +kernel⟩ rfl rfl ⟨Nat.le_of_ble_eq_true rfl, Nat.le_of_ble_eq_true rfl⟩ m_c0 (Nat.le_of_ble_eq_true rfl) dL_runs_476 hk260 (fun x257 σ259 H locs h255 hM256 => ?_)
                                    clear h251 hM252
                                    replace h255 := h255.2
                                    refine lv_iload hx hb dL_runs_479 (ml_at hl250 0 rfl) ?_
                                    obtain ⟨J489, hJ489, h255⟩ := h255
                                    have hj489 : ∀ (xk0_489 : Int32) (u_489 : Nat) (σ_489 τ_489 : mS) (H : Heap) (locs : List Loc) (ls : Array Slot), u_489 ≤ b → J489 xk0_489 u_489 σ_489 τ_489 → pM G a1 a2 (mN σ0) s σ_489 τ_489 H locs → ml_has ls 21 [(0, mV a1 (some 0)), (1, .ref bs), (2, .int y2), (3, mV a2 (some 1)), (4, mV a2 (some 2)), (5, mV a2 (some 3)), (6, mV a2 (some 4)), (7, mV a2 (some 5)), (8, mV a2 (some 6)), (9, mV a2 (some 7)), (10, mV a2 (some 0)), (11, .int x11_106), (12, .int (pCell L xs j17)), (13, .int (pCell L xs j24))] → W p l e (mRb 10 213 b) s m ([mV a1 (some 0), .ref bs, .int y2, mV a2 (some 1), mV a2 (some 2), mV a2 (some 3), mV a2 (some 4), mV a2 (some 5), mV a2 (some 6), mV a2 (some 7)] : List Value).toArray below meth c H locs u_489 (18 * u_489) (MQ below (va_Qi (fun r (q : mS × mS) => Q r q.1 q.2 ∧ narrow .boolean (.int r) = .int r) (pPost G N1 a1 a2 (mN σ0)) (pA a1 a2 (mN σ0) N1)) ([mV a1 (some 0), .ref bs, .int y2, mV a2 (some 1), mV a2 (some 2), mV a2 (some 3), mV a2 (some 4), mV a2 (some 5), mV a2 (some 6), mV a2 (some 7)] : List Value).toArray s b (18 * b) (pA a1 a2 (mN σ0) N1)) (F0 m 489 ls [.int xk0_489]) := by
                                      intro xk0_489 u_489 σ_489 τ_489 H locs ls hu_489 h_489 hM_489 hl_489
                                      replace h_489 := hJ489 xk0_489 u_489 σ_489 τ_489 h_489
                                      refine mr_istore (lv' := [(17, .int xk0_489), (0, mV a1 (some 0)), (1, .ref bs), (2, .int y2), (3, mV a2 (some 1)), (4, mV a2 (some 2)), (5, mV a2 (some 3)), (6, mV a2 (some 4)), (7, mV a2 (some 5)), (8, mV a2 (some 6)), (9, mV a2 (some 7)), (10, mV a2 (some 0)), (11, .int x11_106), (12, .int (pCell L xs j17)), (13, .int (pCell L xs j24))]) C hl_489 dL_runs_489 (by decide) rfl (fun ls hl261 => ?_)
                                      clear hl_489
                                      exact hj491 xk0_489 u_489 σ_489 τ_489 _ _ _ hu_489 h_489 hM_489 (ml_sub hl261 [1, 2, 3, 4, 5, 6, 7, 8, 9, 10, 11, 12, 13, 14, 0] rfl)
                                    refine lv_icmp_ne (tgt := 488) hx hb dL_runs_481 (by decide) (fun hc262 => ?_) (fun hc262 => ?_)
                                    · replace h255 := h255.1 hc262
                                      refine lv_iconst (v := 0) hx hb dL_runs_488 (by decide) ?_
                                      exact hj489 (0 : Int32) (u_177 + k260) σ259 τ254 _ _ _ hk260 h255 hM256 (ml_sub hl250 [3, 4, 5, 6, 7, 8, 9, 10, 11, 12, 13, 14, 15, 16] rfl)
                                    · replace h255 := h255.2 hc262
                                      refine lv_iconst (v := 1) hx hb dL_runs_484 (by decide) ?_
                                      refine lv_goto (tgt := 489) hx hb dL_runs_485 (by decide) ?_
                                      exact hj489 (1 : Int32) (u_177 + k260) σ259 τ254 _ _ _ hk260 h255 hM256 (ml_sub hl250 [3, 4, 5, 6, 7, 8, 9, 10, 11, 12, 13, 14, 15, 16] rfl)
                                  · replace h230 := h230.2 hc245
                                    exact hj421 u_177 σ_177 τ233 _ _ _ hu_177 h230 hM231 (ml_sub hl229 [2, 3, 4, 5, 6, 7, 8, 9, 10, 11, 12, 13, 14, 15, 0] rfl)
                          · replace h_177 := h_177.2 hc200
                            refine lv_iload hx hb dL_runs_275 (ml_at hl188 14 rfl) ?_
                            refine lv_iload hx hb dL_runs_277 (ml_at hl188 14 rfl) ?_
                            refine lv_bipush (v := 96) hx hb dL_runs_279 (by decide) ?_
                            refine lv_iand hx hb dL_runs_281 ?_
                            obtain ⟨J291, hJ291, h_177⟩ := h_177
                            have hj291 : ∀ (xk0_291 : Int32) (u_291 : Nat) (σ_291 τ_291 : mS) (H : Heap) (locs : List Loc) (ls : Array Slot), u_291 ≤ b → J291 xk0_291 u_291 σ_291 τ_291 → pM G a1 a2 (mN σ0) s σ_291 τ_291 H locs → ml_has ls 21 [(0, mV a1 (some 0)), (1, .ref bs), (2, .int y2), (3, mV a2 (some 1)), (4, mV a2 (some 2)), (5, mV a2 (some 3)), (6, mV a2 (some 4)), (7, mV a2 (some 5)), (8, mV a2 (some 6)), (9, mV a2 (some 7)), (10, mV a2 (some 0)), (11, .int x11_106), (12, .int (pCell L xs j17)), (13, .int (pCell L xs j24)), (14, .int (pCell L xs j31))] → W p l e (mRb 10 213 b) s m ([mV a1 (some 0), .ref bs, .int y2, mV a2 (some 1), mV a2 (some 2), mV a2 (some 3), mV a2 (some 4), mV a2 (some 5), mV a2 (some 6), mV a2 (some 7)] : List Value).toArray below meth c H locs u_291 (18 * u_291) (MQ below (va_Qi (fun r (q : mS × mS) => Q r q.1 q.2 ∧ narrow .boolean (.int r) = .int r) (pPost G N1 a1 a2 (mN σ0)) (pA a1 a2 (mN σ0) N1)) ([mV a1 (some 0), .ref bs, .int y2, mV a2 (some 1), mV a2 (some 2), mV a2 (some 3), mV a2 (some 4), mV a2 (some 5), mV a2 (some 6), mV a2 (some 7)] : List Value).toArray s b (18 * b) (pA a1 a2 (mN σ0) N1)) (F0 m 291 ls [.int xk0_291, .int (pCell L xs j24)]) := by
                              intro xk0_291 u_291 σ_291 τ_291 H locs ls hu_291 h_291 hM_291 hl_291
                              replace h_291 := hJ291 xk0_291 u_291 σ_291 τ_291 h_291
                              refine pr_li (As := fun ad => [.int (pCell L xs j24), .int xk0_291]) C hM_291 (fun _ _ => rfl) hl_291.1.1 cw_L_83 (fun ad => c_L_low l G ad (pCell L xs j24) xk0_291 _ _ h_291) (fun _ _ q => q.1) (n := 2) ⟨rfl, by decide, by decide, by decide +kernel⟩ rfl rfl ⟨Nat.le_of_ble_eq_true rfl, Nat.le_of_ble_eq_true rfl⟩ m_c0 (Nat.le_of_ble_eq_true rfl) dL_runs_291 ⟨hu_291, Nat.mul_le_mul_left 18 hu_291⟩ (fun x265 τ266 H locs h263 hM264 => ?_)
                              clear h_291 hM_291
                              replace h263 := h263.2
                              refine mr_istore (lv' := [(18, .int x265), (0, mV a1 (some 0)), (1, .ref bs), (2, .int y2), (3, mV a2 (some 1)), (4, mV a2 (some 2)), (5, mV a2 (some 3)), (6, mV a2 (some 4)), (7, mV a2 (some 5)), (8, mV a2 (some 6)), (9, mV a2 (some 7)), (10, mV a2 (some 0)), (11, .int x11_106), (12, .int (pCell L xs j17)), (13, .int (pCell L xs j24)), (14, .int (pCell L xs j31))]) C hl_291 dL_runs_294 (by decide) rfl (fun ls hl267 => ?_)
                              clear hl_291
                              refine lv_iconst (v := 1) hx hb dL_runs_296 (by decide) ?_
                              refine lv_iload hx hb dL_runs_297 (ml_at hl267 15 rfl) ?_
                              refine lv_iload hx hb dL_runs_299 (ml_at hl267 15 rfl) ?_
                              refine lv_bipush (v := 96) hx hb dL_runs_301 (by decide) ?_
                              refine lv_iand hx hb dL_runs_303 ?_
                              obtain ⟨J314, hJ314, h263⟩ := h263
                              have hj314 : ∀ (xk0_314 : Int32) (u_314 : Nat) (σ_314 τ_314 : mS) (H : Heap) (locs : List Loc) (ls : Array Slot), u_314 ≤ b → J314 xk0_314 u_314 σ_314 τ_314 → pM G a1 a2 (mN σ0) s σ_314 τ_314 H locs → ml_has ls 21 [(0, mV a1 (some 0)), (1, .ref bs), (2, .int y2), (3, mV a2 (some 1)), (4, mV a2 (some 2)), (5, mV a2 (some 3)), (6, mV a2 (some 4)), (7, mV a2 (some 5)), (8, mV a2 (some 6)), (9, mV a2 (some 7)), (10, mV a2 (some 0)), (11, .int x11_106), (12, .int (pCell L xs j17)), (13, .int (pCell L xs j24)), (18, .int x265)] → W p l e (mRb 10 213 b) s m ([mV a1 (some 0), .ref bs, .int y2, mV a2 (some 1), mV a2 (some 2), mV a2 (some 3), mV a2 (some 4), mV a2 (some 5), mV a2 (some 6), mV a2 (some 7)] : List Value).toArray below meth c H locs u_314 (18 * u_314) (MQ below (va_Qi (fun r (q : mS × mS) => Q r q.1 q.2 ∧ narrow .boolean (.int r) = .int r) (pPost G N1 a1 a2 (mN σ0)) (pA a1 a2 (mN σ0) N1)) ([mV a1 (some 0), .ref bs, .int y2, mV a2 (some 1), mV a2 (some 2), mV a2 (some 3), mV a2 (some 4), mV a2 (some 5), mV a2 (some 6), mV a2 (some 7)] : List Value).toArray s b (18 * b) (pA a1 a2 (mN σ0) N1)) (F0 m 314 ls [.int xk0_314, .int (pCell L xs j31), .int (1 : Int32)]) := by
                                intro xk0_314 u_314 σ_314 τ_314 H locs ls hu_314 h_314 hM_314 hl_314
                                replace h_314 := hJ314 xk0_314 u_314 σ_314 τ_314 h_314
                                refine pr_li (As := fun ad => [.int (pCell L xs j31), .int xk0_314]) C hM_314 (fun _ _ => rfl) hl_314.1.1 cw_L_83 (fun ad => c_L_low l G ad (pCell L xs j31) xk0_314 _ _ h_314) (fun _ _ q => q.1) (n := 2) ⟨rfl, by decide, by decide, by decide +kernel⟩ rfl rfl ⟨Nat.le_of_ble_eq_true rfl, Nat.le_of_ble_eq_true rfl⟩ (m_cI m_c0) (Nat.le_of_ble_eq_true rfl) dL_runs_314 ⟨hu_314, Nat.mul_le_mul_left 18 hu_314⟩ (fun x270 τ271 H locs h268 hM269 => ?_)
                                clear h_314 hM_314
                                replace h268 := h268.2
                                refine lv_iadd hx hb dL_runs_317 ?_
                                refine mr_istore (lv' := [(19, .int ((1 : Int32) + x270)), (0, mV a1 (some 0)), (1, .ref bs), (2, .int y2), (3, mV a2 (some 1)), (4, mV a2 (some 2)), (5, mV a2 (some 3)), (6, mV a2 (some 4)), (7, mV a2 (some 5)), (8, mV a2 (some 6)), (9, mV a2 (some 7)), (10, mV a2 (some 0)), (11, .int x11_106), (12, .int (pCell L xs j17)), (13, .int (pCell L xs j24)), (18, .int x265)]) C hl_314 dL_runs_318 (by decide) rfl (fun ls hl272 => ?_)
                                clear hl_314
                                refine mr_aload C dL_runs_320 (ml_at hl272 11 rfl) ?_
                                refine lv_iconst (v := 1) hx hb dL_runs_322 (by decide) ?_
                                obtain ⟨j273, ej274, ej274b, h268⟩ := h268
                                refine pr_iald C hM269 (i := 0) rfl (by decide) ej274 ej274b (by decide) dL_runs_323 ?_
                                refine mr_istore (lv' := [(20, .int (mI τ271 0 j273)), (19, .int ((1 : Int32) + x270)), (0, mV a1 (some 0)), (1, .ref bs), (2, .int y2), (3, mV a2 (some 1)), (4, mV a2 (some 2)), (5, mV a2 (some 3)), (6, mV a2 (some 4)), (7, mV a2 (some 5)), (8, mV a2 (some 6)), (9, mV a2 (some 7)), (10, mV a2 (some 0)), (11, .int x11_106), (12, .int (pCell L xs j17)), (13, .int (pCell L xs j24)), (18, .int x265)]) C hl272 dL_runs_324 (by decide) rfl (fun ls hl275 => ?_)
                                clear hl272
                                refine lv_iload hx hb dL_runs_326 (ml_at hl275 16 rfl) ?_
                                refine mr_aload C dL_runs_328 (ml_at hl275 12 rfl) ?_
                                refine lv_iconst (v := 0) hx hb dL_runs_330 (by decide) ?_
                                obtain ⟨j276, ej277, ej277b, h268⟩ := h268
                                refine pr_iald C hM269 (i := 0) rfl (by decide) ej277 ej277b (by decide) dL_runs_331 ?_
                                refine lv_iload hx hb dL_runs_332 (ml_at hl275 1 rfl) ?_
                                refine lv_iadd hx hb dL_runs_334 ?_
                                refine lv_iconst (v := -1) hx hb dL_runs_335 (by decide) ?_
                                refine mr_aload_n C dL_runs_336 rfl (ml_at hl275 5 rfl) ?_
                                refine mr_aload C dL_runs_337 (ml_at hl275 6 rfl) ?_
                                refine mr_aload C dL_runs_339 (ml_at hl275 7 rfl) ?_
                                refine mr_aload C dL_runs_341 (ml_at hl275 8 rfl) ?_
                                refine mr_aload C dL_runs_343 (ml_at hl275 9 rfl) ?_
                                refine mr_aload C dL_runs_345 (ml_at hl275 10 rfl) ?_
                                refine mr_aload C dL_runs_347 (ml_at hl275 12 rfl) ?_
                                refine pr_lv (As := fun ad => [.int x265, .int ((mI τ271 0 j276) + ((1 : Int32) + x270)), .int (-1 : Int32), mV ad (some 1), mV ad (some 2), mV ad (some 3), mV ad (some 4), mV ad (some 5), mV ad (some 6), mV ad (some 0)]) C hM269 (fun ad had => by simp only [mV_some, had 1 (by decide), had 2 (by decide), had 3 (by decide), had 4 (by decide), had 5 (by decide), had 6 (by decide), had 0 (by decide)]) hl275.1.1 cw_L_79 (fun ad => c_L_begin l G ad x265 ((mI τ271 0 j276) + ((1 : Int32) + x270)) (-1 : Int32) _ _ h268) (fun _ q => q.1) (n := 10) ⟨rfl, by decide, by decide, by decide +kernel⟩ rfl rfl ⟨Nat.le_of_ble_eq_true rfl, Nat.le_of_ble_eq_true rfl⟩ m_c0 (Nat.le_of_ble_eq_true rfl) dL_runs_349 ⟨hu_314, Nat.mul_le_mul_left 18 hu_314⟩ (fun τ281 H locs h278 hM279 => ?_)
                                clear h268 hM269
                                replace h278 := h278.2
                                refine mr_aload_n C dL_runs_352 rfl (ml_at hl275 2 rfl) ?_
                                refine lv_iload hx hb dL_runs_353 (ml_at hl275 16 rfl) ?_
                                refine lv_iload hx hb dL_runs_355 (ml_at hl275 1 rfl) ?_
                                obtain ⟨hr285, h278⟩ := h278
                                obtain ⟨k287, hk287, h278⟩ := h278
                                refine pr_wi (Is := [.int x265, .int ((1 : Int32) + x270)]) C E hM279 hr285 hl275.1.1 cl_L_136 (fun ad => c_L_call l hfl G ad x265 ((1 : Int32) + x270) _ _ _ h278) (fun _ _ q => q.1) (n := 3) ⟨by decide, by decide, by decide +kernel⟩ rfl rfl ⟨Nat.le_of_ble_eq_true rfl, Nat.le_of_ble_eq_true rfl⟩ m_c0 (Nat.le_of_ble_eq_true rfl) dL_runs_357 hk287 (fun x284 σ286 H locs h282 hM283 => ?_)
                                clear h278 hM279
                                replace h282 := h282.2
                                refine lv_iload hx hb dL_runs_360 (ml_at hl275 0 rfl) ?_
                                obtain ⟨J370, hJ370, h282⟩ := h282
                                have hj370 : ∀ (xk0_370 : Int32) (u_370 : Nat) (σ_370 τ_370 : mS) (H : Heap) (locs : List Loc) (ls : Array Slot), u_370 ≤ b → J370 xk0_370 u_370 σ_370 τ_370 → pM G a1 a2 (mN σ0) s σ_370 τ_370 H locs → ml_has ls 21 [(0, mV a1 (some 0)), (1, .ref bs), (2, .int y2), (3, mV a2 (some 1)), (4, mV a2 (some 2)), (5, mV a2 (some 3)), (6, mV a2 (some 4)), (7, mV a2 (some 5)), (8, mV a2 (some 6)), (9, mV a2 (some 7)), (10, mV a2 (some 0)), (11, .int x11_106), (12, .int (pCell L xs j17)), (13, .int (pCell L xs j24))] → W p l e (mRb 10 213 b) s m ([mV a1 (some 0), .ref bs, .int y2, mV a2 (some 1), mV a2 (some 2), mV a2 (some 3), mV a2 (some 4), mV a2 (some 5), mV a2 (some 6), mV a2 (some 7)] : List Value).toArray below meth c H locs u_370 (18 * u_370) (MQ below (va_Qi (fun r (q : mS × mS) => Q r q.1 q.2 ∧ narrow .boolean (.int r) = .int r) (pPost G N1 a1 a2 (mN σ0)) (pA a1 a2 (mN σ0) N1)) ([mV a1 (some 0), .ref bs, .int y2, mV a2 (some 1), mV a2 (some 2), mV a2 (some 3), mV a2 (some 4), mV a2 (some 5), mV a2 (some 6), mV a2 (some 7)] : List Value).toArray s b (18 * b) (pA a1 a2 (mN σ0) N1)) (F0 m 370 ls [.int xk0_370]) := by
                                  intro xk0_370 u_370 σ_370 τ_370 H locs ls hu_370 h_370 hM_370 hl_370
                                  replace h_370 := hJ370 xk0_370 u_370 σ_370 τ_370 h_370
                                  refine mr_istore (lv' := [(17, .int xk0_370), (0, mV a1 (some 0)), (1, .ref bs), (2, .int y2), (3, mV a2 (some 1)), (4, mV a2 (some 2)), (5, mV a2 (some 3)), (6, mV a2 (some 4)), (7, mV a2 (some 5)), (8, mV a2 (some 6)), (9, mV a2 (some 7)), (10, mV a2 (some 0)), (11, .int x11_106), (12, .int (pCell L xs j17)), (13, .int (pCell L xs j24))]) C hl_370 dL_runs_370 (by decide) rfl (fun ls hl288 => ?_)
                                  clear hl_370
                                  refine lv_goto (tgt := 547) hx hb dL_runs_372 (by decide) ?_
                                  exact hj547 xk0_370 u_370 σ_370 τ_370 _ _ _ hu_370 h_370 hM_370 (ml_sub hl288 [1, 2, 3, 4, 5, 6, 7, 8, 9, 10, 11, 12, 13, 14, 0] rfl)
                                refine lv_icmp_ne (tgt := 369) hx hb dL_runs_362 (by decide) (fun hc289 => ?_) (fun hc289 => ?_)
                                · replace h282 := h282.1 hc289
                                  refine lv_iconst (v := 0) hx hb dL_runs_369 (by decide) ?_
                                  exact hj370 (0 : Int32) (u_314 + k287) σ286 τ281 _ _ _ hk287 h282 hM283 (ml_sub hl275 [2, 3, 4, 5, 6, 7, 8, 9, 10, 11, 12, 13, 14, 15] rfl)
                                · replace h282 := h282.2 hc289
                                  refine lv_iconst (v := 1) hx hb dL_runs_365 (by decide) ?_
                                  refine lv_goto (tgt := 370) hx hb dL_runs_366 (by decide) ?_
                                  exact hj370 (1 : Int32) (u_314 + k287) σ286 τ281 _ _ _ hk287 h282 hM283 (ml_sub hl275 [2, 3, 4, 5, 6, 7, 8, 9, 10, 11, 12, 13, 14, 15] rfl)
                              refine lv_if_ne (tgt := 312) hx hb dL_runs_304 (by decide) (fun hc290 => ?_) (fun hc290 => ?_)
                              · replace h263 := h263.1 hc290
                                refine lv_bipush (v := 20) hx hb dL_runs_312 (by decide) ?_
                                exact hj314 (20 : Int32) u_291 σ_291 τ266 _ _ _ hu_291 h263 hM264 (ml_sub hl267 [1, 2, 3, 4, 5, 6, 7, 8, 9, 10, 11, 12, 13, 14, 0] rfl)
                              · replace h263 := h263.2 hc290
                                refine lv_bipush (v := 100) hx hb dL_runs_307 (by decide) ?_
                                refine lv_goto (tgt := 314) hx hb dL_runs_309 (by decide) ?_
                                exact hj314 (100 : Int32) u_291 σ_291 τ266 _ _ _ hu_291 h263 hM264 (ml_sub hl267 [1, 2, 3, 4, 5, 6, 7, 8, 9, 10, 11, 12, 13, 14, 0] rfl)
                            refine lv_if_ne (tgt := 290) hx hb dL_runs_282 (by decide) (fun hc291 => ?_) (fun hc291 => ?_)
                            · replace h_177 := h_177.1 hc291
                              refine lv_iconst (v := 2) hx hb dL_runs_290 (by decide) ?_
                              exact hj291 (2 : Int32) u_177 σ_177 τ_177 _ _ _ hu_177 h_177 hM_177 (ml_sub hl188 [1, 2, 3, 4, 5, 6, 7, 8, 9, 10, 11, 12, 13, 14, 15] rfl)
                            · replace h_177 := h_177.2 hc291
                              refine lv_bipush (v := 6) hx hb dL_runs_285 (by decide) ?_
                              refine lv_goto (tgt := 291) hx hb dL_runs_287 (by decide) ?_
                              exact hj291 (6 : Int32) u_177 σ_177 τ_177 _ _ _ hu_177 h_177 hM_177 (ml_sub hl188 [1, 2, 3, 4, 5, 6, 7, 8, 9, 10, 11, 12, 13, 14, 15] rfl)
                        · replace h_177 := h_177.2 hc199
                          refine mr_aload_n C dL_runs_252 rfl (ml_at hl188 1 rfl) ?_
                          refine lv_iload hx hb dL_runs_253 (ml_at hl188 16 rfl) ?_
                          refine lv_iload hx hb dL_runs_255 (ml_at hl188 14 rfl) ?_
                          refine lv_iload hx hb dL_runs_257 (ml_at hl188 15 rfl) ?_
                          refine mr_aload_n C dL_runs_259 rfl (ml_at hl188 4 rfl) ?_
                          obtain ⟨k295, hk295, h_177⟩ := h_177
                          refine pr_pi (As := fun a => [mV a (some 0), .int (4 : Int32), .int (pCell L xs j24), .int (pCell L xs j31), mV a2 (some 1)]) C E hM_177 (fun a ha => by simp only [mV_some, ha]) hl188.1.1 cw_L_146 (fun a N1 => c_L_sets l hfl G N0 N1 a a2 (4 : Int32) (pCell L xs j24) (pCell L xs j31) _ _ k295 _ h_177) (n := 5) ⟨rfl, by decide, by decide, by decide +kernel⟩ rfl rfl ⟨Nat.le_of_ble_eq_true rfl, Nat.le_of_ble_eq_true rfl⟩ m_c0 (Nat.le_of_ble_eq_true rfl) dL_runs_260 hk295 (fun x294 σ296 τ297 H locs h292 hzx294 hM293 => ?_)
                          clear h_177 hM_177
                          refine mr_istore (lv' := [(17, .int x294), (0, mV a1 (some 0)), (1, .ref bs), (2, .int y2), (3, mV a2 (some 1)), (4, mV a2 (some 2)), (5, mV a2 (some 3)), (6, mV a2 (some 4)), (7, mV a2 (some 5)), (8, mV a2 (some 6)), (9, mV a2 (some 7)), (10, mV a2 (some 0)), (11, .int x11_106), (12, .int (pCell L xs j17)), (13, .int (pCell L xs j24)), (14, .int (pCell L xs j31)), (15, .int (4 : Int32)), (16, .int x16_177)]) C hl188 dL_runs_263 (by decide) rfl (fun ls hl298 => ?_)
                          clear hl188
                          refine lv_goto (tgt := 547) hx hb dL_runs_265 (by decide) ?_
                          exact hj547 x294 (u_177 + k295) σ296 τ297 _ _ _ hk295 h292 hM293 (ml_sub hl298 [1, 2, 3, 4, 5, 6, 7, 8, 9, 10, 11, 12, 13, 14, 0] rfl)
                      · replace h_177 := h_177.2 hc187
                        refine lv_iconst (v := 1) hx hb dL_runs_240 (by decide) ?_
                        exact mr_wi hu_177 (pr_zret C hM_177 hN hr hlk rfl h_177 dL_runs_241)
                    · replace h_177 := h_177.2 hc184
                      refine lv_iload hx hb dL_runs_186 (ml_at hl_177 16 rfl) ?_
                      refine mr_aload C dL_runs_188 (ml_at hl_177 4 rfl) ?_
                      refine lv_iload hx hb dL_runs_190 (ml_at hl_177 17 rfl) ?_
                      refine lv_iconst (v := 3) hx hb dL_runs_192 (by decide) ?_
                      refine lv_iconst (v := 3) hx hb dL_runs_193 (by decide) ?_
                      refine pr_li (As := fun ad => [mV ad (some 2), .int x17_177, .int (3 : Int32), .int (3 : Int32)]) C hM_177 (fun ad had => by simp only [mV_some, had 2 (by decide)]) hl_177.1.1 cw_L_59 (fun ad => c_L_get l G ad x17_177 (3 : Int32) (3 : Int32) _ _ h_177) (fun _ _ q => q.1) (n := 4) ⟨rfl, by decide, by decide, by decide +kernel⟩ rfl rfl ⟨Nat.le_of_ble_eq_true rfl, Nat.le_of_ble_eq_true rfl⟩ (m_cI m_c0) (Nat.le_of_ble_eq_true rfl) dL_runs_194 ⟨hu_177, Nat.mul_le_mul_left 18 hu_177⟩ (fun x301 τ302 H locs h299 hM300 => ?_)
                      clear h_177 hM_177
                      replace h299 := h299.2
                      refine lv_iconst (v := 2) hx hb dL_runs_197 (by decide) ?_
                      refine lv_icmp_eq (tgt := 214) hx hb dL_runs_198 (by decide) (fun hc303 => ?_) (fun hc303 => ?_)
                      · replace h299 := h299.1 hc303
                        refine lv_iconst (v := 1) hx hb dL_runs_214 (by decide) ?_
                        refine lv_goto (tgt := 219) hx hb dL_runs_215 (by decide) ?_
                        refine lv_iadd hx hb dL_runs_219 ?_
                        refine mr_istore (lv' := [(16, .int (x16_177 + (1 : Int32))), (0, mV a1 (some 0)), (1, .ref bs), (2, .int y2), (3, mV a2 (some 1)), (4, mV a2 (some 2)), (5, mV a2 (some 3)), (6, mV a2 (some 4)), (7, mV a2 (some 5)), (8, mV a2 (some 6)), (9, mV a2 (some 7)), (10, mV a2 (some 0)), (11, .int x11_106), (12, .int (pCell L xs j17)), (13, .int (pCell L xs j24)), (14, .int (pCell L xs j31)), (15, .int (4 : Int32)), (17, .int x17_177)]) C hl_177 dL_runs_220 (by decide) rfl (fun ls hl304 => ?_)
                        clear hl_177
                        refine mr_iinc (v := (x17_177 + 1)) (lv' := [(17, .int (x17_177 + 1)), (16, .int (x16_177 + (1 : Int32))), (0, mV a1 (some 0)), (1, .ref bs), (2, .int y2), (3, mV a2 (some 1)), (4, mV a2 (some 2)), (5, mV a2 (some 3)), (6, mV a2 (some 4)), (7, mV a2 (some 5)), (8, mV a2 (some 6)), (9, mV a2 (some 7)), (10, mV a2 (some 0)), (11, .int x11_106), (12, .int (pCell L xs j17)), (13, .int (pCell L xs j24)), (14, .int (pCell L xs j31)), (15, .int (4 : Int32))]) C hl304 dL_runs_222 (k := 17) rfl rfl (by decide) rfl (fun ls hl305 => ?_)
                        clear hl304
                        refine lv_goto (tgt := 177) hx hb dL_runs_225 (by decide) ?_
                        obtain ⟨k306, hk306, h299⟩ := h299
                        exact ih177 k306 hk306 (x16_177 + (1 : Int32)) (x17_177 + 1) u_177 σ_177 τ302 _ _ _ hu_177 h299 hM300 (ml_sub hl305 [2, 3, 4, 5, 6, 7, 8, 9, 10, 11, 12, 13, 14, 15, 16, 17, 1, 0] rfl)
                      · replace h299 := h299.2 hc303
                        refine mr_aload C dL_runs_201 (ml_at hl_177 4 rfl) ?_
                        refine lv_iload hx hb dL_runs_203 (ml_at hl_177 17 rfl) ?_
                        refine lv_iconst (v := 3) hx hb dL_runs_205 (by decide) ?_
                        refine lv_iconst (v := 3) hx hb dL_runs_206 (by decide) ?_
                        refine pr_li (As := fun ad => [mV ad (some 2), .int x17_177, .int (3 : Int32), .int (3 : Int32)]) C hM300 (fun ad had => by simp only [mV_some, had 2 (by decide)]) hl_177.1.1 cw_L_59 (fun ad => c_L_get l G ad x17_177 (3 : Int32) (3 : Int32) _ _ h299) (fun _ _ q => q.1) (n := 4) ⟨rfl, by decide, by decide, by decide +kernel⟩ rfl rfl ⟨Nat.le_of_ble_eq_true rfl, Nat.le_of_ble_eq_true rfl⟩ (m_cI m_c0) (Nat.le_of_ble_eq_true rfl) dL_runs_207 ⟨hu_177, Nat.mul_le_mul_left 18 hu_177⟩ (fun x309 τ310 H locs h307 hM308 => ?_)
                        clear h299 hM300
                        replace h307 := h307.2
                        refine lv_iconst (v := 1) hx hb dL_runs_210 (by decide) ?_
                        refine lv_icmp_ne (tgt := 218) hx hb dL_runs_211 (by decide) (fun hc311 => ?_) (fun hc311 => ?_)
                        · replace h307 := h307.1 hc311
                          refine lv_iconst (v := 0) hx hb dL_runs_218 (by decide) ?_
                          refine lv_iadd hx hb dL_runs_219 ?_
                          refine mr_istore (lv' := [(16, .int (x16_177 + (0 : Int32))), (0, mV a1 (some 0)), (1, .ref bs), (2, .int y2), (3, mV a2 (some 1)), (4, mV a2 (some 2)), (5, mV a2 (some 3)), (6, mV a2 (some 4)), (7, mV a2 (some 5)), (8, mV a2 (some 6)), (9, mV a2 (some 7)), (10, mV a2 (some 0)), (11, .int x11_106), (12, .int (pCell L xs j17)), (13, .int (pCell L xs j24)), (14, .int (pCell L xs j31)), (15, .int (4 : Int32)), (17, .int x17_177)]) C hl_177 dL_runs_220 (by decide) rfl (fun ls hl312 => ?_)
                          clear hl_177
                          refine mr_iinc (v := (x17_177 + 1)) (lv' := [(17, .int (x17_177 + 1)), (16, .int (x16_177 + (0 : Int32))), (0, mV a1 (some 0)), (1, .ref bs), (2, .int y2), (3, mV a2 (some 1)), (4, mV a2 (some 2)), (5, mV a2 (some 3)), (6, mV a2 (some 4)), (7, mV a2 (some 5)), (8, mV a2 (some 6)), (9, mV a2 (some 7)), (10, mV a2 (some 0)), (11, .int x11_106), (12, .int (pCell L xs j17)), (13, .int (pCell L xs j24)), (14, .int (pCell L xs j31)), (15, .int (4 : Int32))]) C hl312 dL_runs_222 (k := 17) rfl rfl (by decide) rfl (fun ls hl313 => ?_)
                          clear hl312
                          refine lv_goto (tgt := 177) hx hb dL_runs_225 (by decide) ?_
                          obtain ⟨k314, hk314, h307⟩ := h307
                          exact ih177 k314 hk314 (x16_177 + (0 : Int32)) (x17_177 + 1) u_177 σ_177 τ310 _ _ _ hu_177 h307 hM308 (ml_sub hl313 [2, 3, 4, 5, 6, 7, 8, 9, 10, 11, 12, 13, 14, 15, 16, 17, 1, 0] rfl)
                        · replace h307 := h307.2 hc311
                          refine lv_iconst (v := 1) hx hb dL_runs_214 (by decide) ?_
                          refine lv_goto (tgt := 219) hx hb dL_runs_215 (by decide) ?_
                          refine lv_iadd hx hb dL_runs_219 ?_
                          refine mr_istore (lv' := [(16, .int (x16_177 + (1 : Int32))), (0, mV a1 (some 0)), (1, .ref bs), (2, .int y2), (3, mV a2 (some 1)), (4, mV a2 (some 2)), (5, mV a2 (some 3)), (6, mV a2 (some 4)), (7, mV a2 (some 5)), (8, mV a2 (some 6)), (9, mV a2 (some 7)), (10, mV a2 (some 0)), (11, .int x11_106), (12, .int (pCell L xs j17)), (13, .int (pCell L xs j24)), (14, .int (pCell L xs j31)), (15, .int (4 : Int32)), (17, .int x17_177)]) C hl_177 dL_runs_220 (by decide) rfl (fun ls hl315 => ?_)
                          clear hl_177
                          refine mr_iinc (v := (x17_177 + 1)) (lv' := [(17, .int (x17_177 + 1)), (16, .int (x16_177 + (1 : Int32))), (0, mV a1 (some 0)), (1, .ref bs), (2, .int y2), (3, mV a2 (some 1)), (4, mV a2 (some 2)), (5, mV a2 (some 3)), (6, mV a2 (some 4)), (7, mV a2 (some 5)), (8, mV a2 (some 6)), (9, mV a2 (some 7)), (10, mV a2 (some 0)), (11, .int x11_106), (12, .int (pCell L xs j17)), (13, .int (pCell L xs j24)), (14, .int (pCell L xs j31)), (15, .int (4 : Int32))]) C hl315 dL_runs_222 (k := 17) rfl rfl (by decide) rfl (fun ls hl316 => ?_)
                          clear hl315
                          refine lv_goto (tgt := 177) hx hb dL_runs_225 (by decide) ?_
                          obtain ⟨k317, hk317, h307⟩ := h307
                          exact ih177 k317 hk317 (x16_177 + (1 : Int32)) (x17_177 + 1) u_177 σ_177 τ310 _ _ _ hu_177 h307 hM308 (ml_sub hl316 [2, 3, 4, 5, 6, 7, 8, 9, 10, 11, 12, 13, 14, 15, 16, 17, 1, 0] rfl)
                  exact hL177 nn177 (0 : Int32) (0 : Int32) u_106 σ_106 τ_106 _ _ _ hu_106 h_106 hM33 (ml_sub hl181 [6, 7, 8, 9, 10, 11, 12, 13, 14, 15, 16, 17, 5, 4, 3, 2, 1, 0] rfl)
            exact hL106 nn106 y2 (u_29 + k8) σ9 τ10 _ _ _ hk8 h5 hM6 (ml_sub hl12 [1, 2, 3, 4, 5, 6, 7, 8, 9, 10, 11, 0] rfl)
          · replace h5 := h5.2 hc11
            refine lv_iconst (v := 0) hx hb dL_runs_101 (by decide) ?_
            exact mr_wi hk8 (pr_zret C hM6 hN hr hlk rfl h5 dL_runs_102)
        · replace h_29 := h_29.2 hc4
          refine mr_aload_n C dL_runs_36 rfl (ml_at hl_29 3 rfl) ?_
          refine lv_bipush (v := 10) hx hb dL_runs_37 (by decide) ?_
          refine lv_iload hx hb dL_runs_39 (ml_at hl_29 11 rfl) ?_
          refine lv_imul hx hb dL_runs_41 ?_
          refine lv_iconst (v := 1) hx hb dL_runs_42 (by decide) ?_
          obtain ⟨j318, ej319, ej319b, h_29⟩ := h_29
          refine pr_iast C hM_29 (i := 1) rfl (by decide) ej319 ej319b (by decide) dL_runs_43 (fun H locs hM320 => ?_)
          clear hM_29
          obtain ⟨τ321, eτ321⟩ : ∃ y, y = sI τ_29 1 j318 (1 : Int32) := ⟨_, rfl⟩
          rw [← eτ321] at hM320
          replace h_29 := h_29 τ321 eτ321
          refine mr_aload_n C dL_runs_44 rfl (ml_at hl_29 3 rfl) ?_
          refine lv_bipush (v := 10) hx hb dL_runs_45 (by decide) ?_
          refine lv_iload hx hb dL_runs_47 (ml_at hl_29 11 rfl) ?_
          refine lv_imul hx hb dL_runs_49 ?_
          refine lv_iconst (v := 4) hx hb dL_runs_50 (by decide) ?_
          refine lv_iadd hx hb dL_runs_51 ?_
          refine lv_iconst (v := 2) hx hb dL_runs_52 (by decide) ?_
          obtain ⟨j322, ej323, ej323b, h_29⟩ := h_29
          refine pr_iast C hM320 (i := 1) rfl (by decide) ej323 ej323b (by decide) dL_runs_53 (fun H locs hM324 => ?_)
          clear hM320
          obtain ⟨τ325, eτ325⟩ : ∃ y, y = sI τ321 1 j322 (2 : Int32) := ⟨_, rfl⟩
          rw [← eτ325] at hM324
          replace h_29 := h_29 τ325 eτ325
          refine mr_aload_n C dL_runs_54 rfl (ml_at hl_29 3 rfl) ?_
          refine lv_bipush (v := 10) hx hb dL_runs_55 (by decide) ?_
          refine lv_iload hx hb dL_runs_57 (ml_at hl_29 11 rfl) ?_
          refine lv_imul hx hb dL_runs_59 ?_
          refine lv_iconst (v := 5) hx hb dL_runs_60 (by decide) ?_
          refine lv_iadd hx hb dL_runs_61 ?_
          refine lv_iconst (v := 4) hx hb dL_runs_62 (by decide) ?_
          obtain ⟨j326, ej327, ej327b, h_29⟩ := h_29
          refine pr_iast C hM324 (i := 1) rfl (by decide) ej327 ej327b (by decide) dL_runs_63 (fun H locs hM328 => ?_)
          clear hM324
          obtain ⟨τ329, eτ329⟩ : ∃ y, y = sI τ325 1 j326 (4 : Int32) := ⟨_, rfl⟩
          rw [← eτ329] at hM328
          replace h_29 := h_29 τ329 eτ329
          refine mr_aload_n C dL_runs_64 rfl (ml_at hl_29 3 rfl) ?_
          refine lv_bipush (v := 10) hx hb dL_runs_65 (by decide) ?_
          refine lv_iload hx hb dL_runs_67 (ml_at hl_29 11 rfl) ?_
          refine lv_imul hx hb dL_runs_69 ?_
          refine lv_bipush (v := 7) hx hb dL_runs_70 (by decide) ?_
          refine lv_iadd hx hb dL_runs_72 ?_
          refine lv_bipush (v := 20) hx hb dL_runs_73 (by decide) ?_
          obtain ⟨j330, ej331, ej331b, h_29⟩ := h_29
          refine pr_iast C hM328 (i := 1) rfl (by decide) ej331 ej331b (by decide) dL_runs_75 (fun H locs hM332 => ?_)
          clear hM328
          obtain ⟨τ333, eτ333⟩ : ∃ y, y = sI τ329 1 j330 (20 : Int32) := ⟨_, rfl⟩
          rw [← eτ333] at hM332
          replace h_29 := h_29 τ333 eτ333
          refine mr_iinc (v := (x11_29 + 1)) (lv' := [(11, .int (x11_29 + 1)), (0, mV a1 (some 0)), (1, .ref bs), (2, .int y2), (3, mV a2 (some 1)), (4, mV a2 (some 2)), (5, mV a2 (some 3)), (6, mV a2 (some 4)), (7, mV a2 (some 5)), (8, mV a2 (some 6)), (9, mV a2 (some 7)), (10, mV a2 (some 0))]) C hl_29 dL_runs_76 (k := 11) rfl rfl (by decide) rfl (fun ls hl334 => ?_)
          clear hl_29
          refine lv_goto (tgt := 29) hx hb dL_runs_79 (by decide) ?_
          obtain ⟨k335, hk335, h_29⟩ := h_29
          exact ih29 k335 hk335 (x11_29 + 1) u_29 σ_29 τ333 _ _ _ hu_29 h_29 hM332 (ml_sub hl334 [1, 2, 3, 4, 5, 6, 7, 8, 9, 10, 11, 0] rfl)
      exact hL29 nn29 (0 : Int32) u_8 σ_8 τ_8 _ _ _ hu_8 h_8 hM_8 (ml_sub hl3 [1, 2, 3, 4, 5, 6, 7, 8, 9, 10, 11, 0] rfl)
    · replace h_8 := h_8.2 hc2
      refine mr_aload_n C dL_runs_15 rfl (ml_at hl_8 3 rfl) ?_
      refine lv_iload hx hb dL_runs_16 (ml_at hl_8 11 rfl) ?_
      refine lv_iconst (v := 0) hx hb dL_runs_18 (by decide) ?_
      obtain ⟨j336, ej337, ej337b, h_8⟩ := h_8
      refine pr_iast C hM_8 (i := 1) rfl (by decide) ej337 ej337b (by decide) dL_runs_19 (fun H locs hM338 => ?_)
      clear hM_8
      obtain ⟨τ339, eτ339⟩ : ∃ y, y = sI τ_8 1 j336 (0 : Int32) := ⟨_, rfl⟩
      rw [← eτ339] at hM338
      replace h_8 := h_8 τ339 eτ339
      refine mr_iinc (v := (x11_8 + 1)) (lv' := [(11, .int (x11_8 + 1)), (0, mV a1 (some 0)), (1, .ref bs), (2, .int y2), (3, mV a2 (some 1)), (4, mV a2 (some 2)), (5, mV a2 (some 3)), (6, mV a2 (some 4)), (7, mV a2 (some 5)), (8, mV a2 (some 6)), (9, mV a2 (some 7)), (10, mV a2 (some 0))]) C hl_8 dL_runs_20 (k := 11) rfl rfl (by decide) rfl (fun ls hl340 => ?_)
      clear hl_8
      refine lv_goto (tgt := 8) hx hb dL_runs_23 (by decide) ?_
      obtain ⟨k341, hk341, h_8⟩ := h_8
      exact ih8 k341 hk341 (x11_8 + 1) u_8 σ_8 τ339 _ _ _ hu_8 h_8 hM338 (ml_sub hl340 [1, 2, 3, 4, 5, 6, 7, 8, 9, 10, 11, 0] rfl)
  exact hL8 nn8 (0 : Int32) 1 σ0 τ0 _ _ _ hb1 h hM (ml_sub hl1 [1, 2, 3, 4, 5, 6, 7, 8, 9, 10, 11, 0] rfl)
