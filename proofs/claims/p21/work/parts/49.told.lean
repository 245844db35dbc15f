def w_L_isTold (y1 : Int32) (σ0 τ0 : mS) (b : Nat) (Q : Int32 → mS → mS → Prop) : Prop := (∃ I3 : Nat → Int32 → Nat → mS → mS → Prop, (∀ (n3 : Nat) (x8_3 : Int32) (u_3 : Nat) (σ_3 τ_3 : mS), I3 n3 x8_3 u_3 σ_3 τ_3 → (∃ j2, (1 : Int32) = nI j2 ∧ (j2 < 3 ∧ (((mI τ_3 0 j2) ≤ x8_3 → (∃ j5, (1 : Int32) = nI j5 ∧ (j5 < 3 ∧ (∃ J144 : Int32 → Nat → mS → mS → Prop, (∀ (xk0_144 : Int32) (u_144 : Nat) (σ_144 τ_144 : mS), J144 xk0_144 u_144 σ_144 τ_144 → (∃ j8, (1 : Int32) = nI j8 ∧ (j8 < 3 ∧ (((mI τ_144 0 j8) ≤ 0 → (∃ I177 : Nat → Int32 → Nat → mS → mS → Prop, (∀ (n177 : Nat) (x9_177 : Int32) (u_177 : Nat) (σ_177 τ_177 : mS), I177 n177 x9_177 u_177 σ_177 τ_177 → (((6 : Int32) ≤ x9_177 → (mRok kdC σ_177 ∧ w_X2_time  σ_177 (fun x15 σ17 => (mN σ_177 ≤ mN σ17 ∧ (∃ j18, (0 : Int32) = nI j18 ∧ (j18 < 3 ∧ ((¬ x15 = (mI τ_177 0 j18) → (Q (0 : Int32) σ17 τ_177)) ∧ (x15 = (mI τ_177 0 j18) → (mRok kdC σ17 ∧ w_X2_calls  σ17 (fun x23 σ25 => (mN σ17 ≤ mN σ25 ∧ (∃ j26, (1 : Int32) = nI j26 ∧ (j26 < 3 ∧ ((¬ x23 = (mI τ_177 0 j26) → (Q (0 : Int32) σ25 τ_177)) ∧ (x23 = (mI τ_177 0 j26) → (∃ j29, (1 : Int32) = nI j29 ∧ (j29 < 3 ∧ (mRok kdC σ25 ∧ (∃ k36, u_177 + k36 ≤ b ∧ w_L_state (mI τ_177 0 j29) σ25 k36 (fun x33 σ35 => (mN σ25 ≤ mN σ35 ∧ ((¬ x33 = (-71 : Int32) → (Q (0 : Int32) σ35 τ_177)) ∧ (x33 = (-71 : Int32) → (mRok kdC σ35 ∧ (∃ k43, (u_177 + k36) + k43 ≤ b ∧ w_L_state (-1 : Int32) σ35 k43 (fun x40 σ42 => (mN σ35 ≤ mN σ42 ∧ ((¬ x40 = (-71 : Int32) → (Q (0 : Int32) σ42 τ_177)) ∧ (x40 = (-71 : Int32) → (∃ j45, (1 : Int32) = nI j45 ∧ (j45 < 3 ∧ (mRok kdC σ42 ∧ (∃ k52, ((u_177 + k36) + k43) + k52 ≤ b ∧ w_L_place (mI τ_177 0 j45) σ42 k52 (fun x49 σ51 => (mN σ42 ≤ mN σ51 ∧ ((¬ x49 = (-71 : Int32) → (Q (0 : Int32) σ51 τ_177)) ∧ (x49 = (-71 : Int32) → (mRok kdC σ51 ∧ (∃ k59, (((u_177 + k36) + k43) + k52) + k59 ≤ b ∧ w_L_queuedAt (6 : Int32) (0 : Int32) σ51 k59 (fun x56 σ58 => (mN σ51 ≤ mN σ58 ∧ ((¬ x56 = (-71 : Int32) → (Q (0 : Int32) σ58 τ_177)) ∧ (x56 = (-71 : Int32) → (mRok kdC σ58 ∧ (∃ k66, ((((u_177 + k36) + k43) + k52) + k59) + k66 ≤ b ∧ w_L_queuedAt (0 : Int32) (-1 : Int32) σ58 k66 (fun x63 σ65 => (mN σ58 ≤ mN σ65 ∧ ((¬ x63 = (-71 : Int32) → (Q (0 : Int32) σ65 τ_177)) ∧ (x63 = (-71 : Int32) → (mRok kdC σ65 ∧ (∃ k73, (((((u_177 + k36) + k43) + k52) + k59) + k66) + k73 ≤ b ∧ w_L_count (6 : Int32) (8 : Int32) σ65 k73 (fun x70 σ72 => (mN σ65 ≤ mN σ72 ∧ ((¬ x70 = (-71 : Int32) → (Q (0 : Int32) σ72 τ_177)) ∧ (x70 = (-71 : Int32) → (mRok kdC σ72 ∧ (∃ k80, ((((((u_177 + k36) + k43) + k52) + k59) + k66) + k73) + k80 ≤ b ∧ w_L_count (0 : Int32) (8 : Int32) σ72 k80 (fun x77 σ79 => (mN σ72 ≤ mN σ79 ∧ ((¬ x77 = (-72 : Int32) → (Q (0 : Int32) σ79 τ_177)) ∧ (x77 = (-72 : Int32) → (mRok kdC σ79 ∧ (∃ k87, (((((((u_177 + k36) + k43) + k52) + k59) + k66) + k73) + k80) + k87 ≤ b ∧ w_L_count (0 : Int32) (-1 : Int32) σ79 k87 (fun x84 σ86 => (mN σ79 ≤ mN σ86 ∧ ((¬ x84 = (-72 : Int32) → (Q (0 : Int32) σ86 τ_177)) ∧ (x84 = (-72 : Int32) → (mRok kdC σ86 ∧ (∃ k94, ((((((((u_177 + k36) + k43) + k52) + k59) + k66) + k73) + k80) + k87) + k94 ≤ b ∧ w_L_tokens (6 : Int32) σ86 k94 (fun x91 σ93 => (mN σ86 ≤ mN σ93 ∧ ((¬ x91 = (-71 : Int32) → (Q (0 : Int32) σ93 τ_177)) ∧ (x91 = (-71 : Int32) → (∃ j96, (1 : Int32) = nI j96 ∧ (j96 < 3 ∧ (mRok kdC σ93 ∧ (∃ k103, (((((((((u_177 + k36) + k43) + k52) + k59) + k66) + k73) + k80) + k87) + k94) + k103 ≤ b ∧ w_L_cancel (mI τ_177 0 j96) σ93 k103 (fun x100 σ102 => (mN σ93 ≤ mN σ102 ∧ ((¬ x100 = (-71 : Int32) → (Q (0 : Int32) σ102 τ_177)) ∧ (x100 = (-71 : Int32) → (mRok kdC σ102 ∧ (∃ k110, ((((((((((u_177 + k36) + k43) + k52) + k59) + k66) + k73) + k80) + k87) + k94) + k103) + k110 ≤ b ∧ w_L_cancel (-1 : Int32) σ102 k110 (fun x107 σ109 => (mN σ102 ≤ mN σ109 ∧ ((¬ x107 = (-71 : Int32) → (Q (0 : Int32) σ109 τ_177)) ∧ (x107 = (-71 : Int32) → (mRok kdC σ109 ∧ (∃ k117, (((((((((((u_177 + k36) + k43) + k52) + k59) + k66) + k73) + k80) + k87) + k94) + k103) + k110) + k117 ≤ b ∧ w_L_pass (0 : Int32) σ109 k117 (fun x114 σ116 => (mN σ109 ≤ mN σ116 ∧ ((¬ x114 = (-72 : Int32) → (Q (0 : Int32) σ116 τ_177)) ∧ (x114 = (-72 : Int32) → (mRok kdC σ116 ∧ (∃ k124, ((((((((((((u_177 + k36) + k43) + k52) + k59) + k66) + k73) + k80) + k87) + k94) + k103) + k110) + k117) + k124 ≤ b ∧ w_L_pass (101 : Int32) σ116 k124 (fun x121 σ123 => (mN σ116 ≤ mN σ123 ∧ ((¬ x121 = (-72 : Int32) → (Q (0 : Int32) σ123 τ_177)) ∧ (x121 = (-72 : Int32) → (mRok kdC σ123 ∧ (∃ k131, (((((((((((((u_177 + k36) + k43) + k52) + k59) + k66) + k73) + k80) + k87) + k94) + k103) + k110) + k117) + k124) + k131 ≤ b ∧ w_L_call (6 : Int32) (0 : Int32) σ123 k131 (fun x128 σ130 => (mN σ123 ≤ mN σ130 ∧ ((¬ x128 = (-71 : Int32) → (Q (0 : Int32) σ130 τ_177)) ∧ (x128 = (-71 : Int32) → (mRok kdC σ130 ∧ (∃ k138, ((((((((((((((u_177 + k36) + k43) + k52) + k59) + k66) + k73) + k80) + k87) + k94) + k103) + k110) + k117) + k124) + k131) + k138 ≤ b ∧ w_L_call (0 : Int32) (0 : Int32) σ130 k138 (fun x135 σ137 => (mN σ130 ≤ mN σ137 ∧ ((¬ x135 = (-72 : Int32) → (Q (0 : Int32) σ137 τ_177)) ∧ (x135 = (-72 : Int32) → (mRok kdC σ137 ∧ (∃ k145, (((((((((((((((u_177 + k36) + k43) + k52) + k59) + k66) + k73) + k80) + k87) + k94) + k103) + k110) + k117) + k124) + k131) + k138) + k145 ≤ b ∧ w_L_call (0 : Int32) (101 : Int32) σ137 k145 (fun x142 σ144 => (mN σ137 ≤ mN σ144 ∧ ((¬ x142 = (-72 : Int32) → (Q (0 : Int32) σ144 τ_177)) ∧ (x142 = (-72 : Int32) → (Q (1 : Int32) σ144 τ_177)))))))))))))))))))))))))))))))))))))))))))))))))))))))))))))))))))))))))))))))))))))))))))))))))))))))))))))))))))))) ∧ (¬ (6 : Int32) ≤ x9_177 → (mRok kdC σ_177 ∧ (∃ k152, u_177 + k152 ≤ b ∧ w_L_tokens x9_177 σ_177 k152 (fun x149 σ151 => (mN σ_177 ≤ mN σ151 ∧ (∃ j153, (((10 : Int32) * x9_177) + (7 : Int32)) = nI j153 ∧ (j153 < 60 ∧ ((¬ x149 = (mI τ_177 1 j153) → (Q (0 : Int32) σ151 τ_177)) ∧ (x149 = (mI τ_177 1 j153) → (mRok kdC σ151 ∧ (∃ k161, (u_177 + k152) + k161 ≤ b ∧ w_X2_isOpen x9_177 σ151 k161 (fun x158 σ160 => (mN σ151 ≤ mN σ160 ∧ (∃ j162, (0 : Int32) = nI j162 ∧ (j162 < 3 ∧ (∃ j164, (((10 : Int32) * x9_177) + (9 : Int32)) = nI j164 ∧ (j164 < 60 ∧ (∃ J231 : Int32 → Nat → mS → mS → Prop, (∀ (xk0_231 : Int32) (u_231 : Nat) (σ_231 τ_231 : mS), J231 xk0_231 u_231 σ_231 τ_231 → ((x158 = xk0_231 → w_L_low (y1 >>> (x9_177 &&& 31)) (8 : Int32) τ_231 (fun x169 τ170 => (mN τ170 = 8 ∧ (mRok kdC σ_231 ∧ (∃ k177, u_231 + k177 ≤ b ∧ w_L_count x9_177 x169 σ_231 k177 (fun x174 σ176 => (mN σ_231 ≤ mN σ176 ∧ w_L_many x9_177 x169 τ170 (fun x180 τ181 => (mN τ181 = 8 ∧ ((x174 = x180 → (∃ I276 : Nat → Int32 → Int32 → Nat → mS → mS → Prop, (∀ (n276 : Nat) (x11_276 : Int32) (x12_276 : Int32) (u_276 : Nat) (σ_276 τ_276 : mS), I276 n276 x11_276 x12_276 u_276 σ_276 τ_276 → (∃ j185, (1 : Int32) = nI j185 ∧ (j185 < 3 ∧ (((mI τ_276 0 j185) ≤ x12_276 → (mRok kdC σ_276 ∧ (∃ k193, u_276 + k193 ≤ b ∧ w_L_queuedAt x9_177 x11_276 σ_276 k193 (fun x190 σ192 => (mN σ_276 ≤ mN σ192 ∧ ((x190 = (-71 : Int32) → (∃ k196, k196 < n177 ∧ I177 k196 (x9_177 + 1) (u_276 + k193) σ192 τ_276)) ∧ (¬ x190 = (-71 : Int32) → (Q (0 : Int32) σ192 τ_276)))))))) ∧ (¬ (mI τ_276 0 j185) ≤ x12_276 → (∃ j197, x12_276 = nI j197 ∧ (j197 < 60 ∧ ((((mI τ_276 2 j197) &&& (63 : Int32)) = x9_177 → (mRok kdC σ_276 ∧ (∃ k205, u_276 + k205 ≤ b ∧ w_L_queuedAt x9_177 x11_276 σ_276 k205 (fun x202 σ204 => (mN σ_276 ≤ mN σ204 ∧ ((x202 = x12_276 → (∃ k209, k209 < n276 ∧ I276 k209 (x11_276 + 1) (x12_276 + 1) (u_276 + k205) σ204 τ_276)) ∧ (¬ x202 = x12_276 → (Q (0 : Int32) σ204 τ_276)))))))) ∧ (¬ ((mI τ_276 2 j197) &&& (63 : Int32)) = x9_177 → (∃ k211, k211 < n276 ∧ I276 k211 x11_276 (x12_276 + 1) u_276 σ_276 τ_276)))))))))) ∧ ∃ n, I276 n (0 : Int32) (0 : Int32) (u_231 + k177) σ176 τ181)) ∧ (¬ x174 = x180 → (Q (0 : Int32) σ176 τ181)))))))))))) ∧ (¬ x158 = xk0_231 → (Q (0 : Int32) σ_231 τ_231)))) ∧ (((mI τ_177 1 j164) ≤ (mI τ_177 0 j162) → (J231 (0 : Int32) ((u_177 + k152) + k161) σ160 τ_177)) ∧ (¬ (mI τ_177 1 j164) ≤ (mI τ_177 0 j162) → (J231 (1 : Int32) ((u_177 + k152) + k161) σ160 τ_177)))))))))) (fun _ _ => False)))))))))))))) ∧ ∃ n, I177 n (0 : Int32) u_144 σ_144 τ_144)) ∧ (¬ (mI τ_144 0 j8) ≤ 0 → (mRok kdC σ_144 ∧ (∃ k218, u_144 + k218 ≤ b ∧ w_X2_below xk0_144 σ_144 k218 (fun x215 σ217 => (mN σ_144 ≤ mN σ217 ∧ w_L_below xk0_144 τ_144 (fun x221 τ222 => (mN τ222 = 8 ∧ ((x215 = x221 → (∃ I177 : Nat → Int32 → Nat → mS → mS → Prop, (∀ (n177 : Nat) (x9_177 : Int32) (u_177 : Nat) (σ_177 τ_177 : mS), I177 n177 x9_177 u_177 σ_177 τ_177 → (((6 : Int32) ≤ x9_177 → (mRok kdC σ_177 ∧ w_X2_time  σ_177 (fun x228 σ230 => (mN σ_177 ≤ mN σ230 ∧ (∃ j231, (0 : Int32) = nI j231 ∧ (j231 < 3 ∧ ((¬ x228 = (mI τ_177 0 j231) → (Q (0 : Int32) σ230 τ_177)) ∧ (x228 = (mI τ_177 0 j231) → (mRok kdC σ230 ∧ w_X2_calls  σ230 (fun x236 σ238 => (mN σ230 ≤ mN σ238 ∧ (∃ j239, (1 : Int32) = nI j239 ∧ (j239 < 3 ∧ ((¬ x236 = (mI τ_177 0 j239) → (Q (0 : Int32) σ238 τ_177)) ∧ (x236 = (mI τ_177 0 j239) → (∃ j242, (1 : Int32) = nI j242 ∧ (j242 < 3 ∧ (mRok kdC σ238 ∧ (∃ k249, u_177 + k249 ≤ b ∧ w_L_state (mI τ_177 0 j242) σ238 k249 (fun x246 σ248 => (mN σ238 ≤ mN σ248 ∧ ((¬ x246 = (-71 : Int32) → (Q (0 : Int32) σ248 τ_177)) ∧ (x246 = (-71 : Int32) → (mRok kdC σ248 ∧ (∃ k256, (u_177 + k249) + k256 ≤ b ∧ w_L_state (-1 : Int32) σ248 k256 (fun x253 σ255 => (mN σ248 ≤ mN σ255 ∧ ((¬ x253 = (-71 : Int32) → (Q (0 : Int32) σ255 τ_177)) ∧ (x253 = (-71 : Int32) → (∃ j258, (1 : Int32) = nI j258 ∧ (j258 < 3 ∧ (mRok kdC σ255 ∧ (∃ k265, ((u_177 + k249) + k256) + k265 ≤ b ∧ w_L_place (mI τ_177 0 j258) σ255 k265 (fun x262 σ264 => (mN σ255 ≤ mN σ264 ∧ ((¬ x262 = (-71 : Int32) → (Q (0 : Int32) σ264 τ_177)) ∧ (x262 = (-71 : Int32) → (mRok kdC σ264 ∧ (∃ k272, (((u_177 + k249) + k256) + k265) + k272 ≤ b ∧ w_L_queuedAt (6 : Int32) (0 : Int32) σ264 k272 (fun x269 σ271 => (mN σ264 ≤ mN σ271 ∧ ((¬ x269 = (-71 : Int32) → (Q (0 : Int32) σ271 τ_177)) ∧ (x269 = (-71 : Int32) → (mRok kdC σ271 ∧ (∃ k279, ((((u_177 + k249) + k256) + k265) + k272) + k279 ≤ b ∧ w_L_queuedAt (0 : Int32) (-1 : Int32) σ271 k279 (fun x276 σ278 => (mN σ271 ≤ mN σ278 ∧ ((¬ x276 = (-71 : Int32) → (Q (0 : Int32) σ278 τ_177)) ∧ (x276 = (-71 : Int32) → (mRok kdC σ278 ∧ (∃ k286, (((((u_177 + k249) + k256) + k265) + k272) + k279) + k286 ≤ b ∧ w_L_count (6 : Int32) (8 : Int32) σ278 k286 (fun x283 σ285 => (mN σ278 ≤ mN σ285 ∧ ((¬ x283 = (-71 : Int32) → (Q (0 : Int32) σ285 τ_177)) ∧ (x283 = (-71 : Int32) → (mRok kdC σ285 ∧ (∃ k293, ((((((u_177 + k249) + k256) + k265) + k272) + k279) + k286) + k293 ≤ b ∧ w_L_count (0 : Int32) (8 : Int32) σ285 k293 (fun x290 σ292 => (mN σ285 ≤ mN σ292 ∧ ((¬ x290 = (-72 : Int32) → (Q (0 : Int32) σ292 τ_177)) ∧ (x290 = (-72 : Int32) → (mRok kdC σ292 ∧ (∃ k300, (((((((u_177 + k249) + k256) + k265) + k272) + k279) + k286) + k293) + k300 ≤ b ∧ w_L_count (0 : Int32) (-1 : Int32) σ292 k300 (fun x297 σ299 => (mN σ292 ≤ mN σ299 ∧ ((¬ x297 = (-72 : Int32) → (Q (0 : Int32) σ299 τ_177)) ∧ (x297 = (-72 : Int32) → (mRok kdC σ299 ∧ (∃ k307, ((((((((u_177 + k249) + k256) + k265) + k272) + k279) + k286) + k293) + k300) + k307 ≤ b ∧ w_L_tokens (6 : Int32) σ299 k307 (fun x304 σ306 => (mN σ299 ≤ mN σ306 ∧ ((¬ x304 = (-71 : Int32) → (Q (0 : Int32) σ306 τ_177)) ∧ (x304 = (-71 : Int32) → (∃ j309, (1 : Int32) = nI j309 ∧ (j309 < 3 ∧ (mRok kdC σ306 ∧ (∃ k316, (((((((((u_177 + k249) + k256) + k265) + k272) + k279) + k286) + k293) + k300) + k307) + k316 ≤ b ∧ w_L_cancel (mI τ_177 0 j309) σ306 k316 (fun x313 σ315 => (mN σ306 ≤ mN σ315 ∧ ((¬ x313 = (-71 : Int32) → (Q (0 : Int32) σ315 τ_177)) ∧ (x313 = (-71 : Int32) → (mRok kdC σ315 ∧ (∃ k323, ((((((((((u_177 + k249) + k256) + k265) + k272) + k279) + k286) + k293) + k300) + k307) + k316) + k323 ≤ b ∧ w_L_cancel (-1 : Int32) σ315 k323 (fun x320 σ322 => (mN σ315 ≤ mN σ322 ∧ ((¬ x320 = (-71 : Int32) → (Q (0 : Int32) σ322 τ_177)) ∧ (x320 = (-71 : Int32) → (mRok kdC σ322 ∧ (∃ k330, (((((((((((u_177 + k249) + k256) + k265) + k272) + k279) + k286) + k293) + k300) + k307) + k316) + k323) + k330 ≤ b ∧ w_L_pass (0 : Int32) σ322 k330 (fun x327 σ329 => (mN σ322 ≤ mN σ329 ∧ ((¬ x327 = (-72 : Int32) → (Q (0 : Int32) σ329 τ_177)) ∧ (x327 = (-72 : Int32) → (mRok kdC σ329 ∧ (∃ k337, ((((((((((((u_177 + k249) + k256) + k265) + k272) + k279) + k286) + k293) + k300) + k307) + k316) + k323) + k330) + k337 ≤ b ∧ w_L_pass (101 : Int32) σ329 k337 (fun x334 σ336 => (mN σ329 ≤ mN σ336 ∧ ((¬ x334 = (-72 : Int32) → (Q (0 : Int32) σ336 τ_177)) ∧ (x334 = (-72 : Int32) → (mRok kdC σ336 ∧ (∃ k344, (((((((((((((u_177 + k249) + k256) + k265) + k272) + k279) + k286) + k293) + k300) + k307) + k316) + k323) + k330) + k337) + k344 ≤ b ∧ w_L_call (6 : Int32) (0 : Int32) σ336 k344 (fun x341 σ343 => (mN σ336 ≤ mN σ343 ∧ ((¬ x341 = (-71 : Int32) → (Q (0 : Int32) σ343 τ_177)) ∧ (x341 = (-71 : Int32) → (mRok kdC σ343 ∧ (∃ k351, ((((((((((((((u_177 + k249) + k256) + k265) + k272) + k279) + k286) + k293) + k300) + k307) + k316) + k323) + k330) + k337) + k344) + k351 ≤ b ∧ w_L_call (0 : Int32) (0 : Int32) σ343 k351 (fun x348 σ350 => (mN σ343 ≤ mN σ350 ∧ ((¬ x348 = (-72 : Int32) → (Q (0 : Int32) σ350 τ_177)) ∧ (x348 = (-72 : Int32) → (mRok kdC σ350 ∧ (∃ k358, (((((((((((((((u_177 + k249) + k256) + k265) + k272) + k279) + k286) + k293) + k300) + k307) + k316) + k323) + k330) + k337) + k344) + k351) + k358 ≤ b ∧ w_L_call (0 : Int32) (101 : Int32) σ350 k358 (fun x355 σ357 => (mN σ350 ≤ mN σ357 ∧ ((¬ x355 = (-72 : Int32) → (Q (0 : Int32) σ357 τ_177)) ∧ (x355 = (-72 : Int32) → (Q (1 : Int32) σ357 τ_177)))))))))))))))))))))))))))))))))))))))))))))))))))))))))))))))))))))))))))))))))))))))))))))))))))))))))))))))))))))) ∧ (¬ (6 : Int32) ≤ x9_177 → (mRok kdC σ_177 ∧ (∃ k365, u_177 + k365 ≤ b ∧ w_L_tokens x9_177 σ_177 k365 (fun x362 σ364 => (mN σ_177 ≤ mN σ364 ∧ (∃ j366, (((10 : Int32) * x9_177) + (7 : Int32)) = nI j366 ∧ (j366 < 60 ∧ ((¬ x362 = (mI τ_177 1 j366) → (Q (0 : Int32) σ364 τ_177)) ∧ (x362 = (mI τ_177 1 j366) → (mRok kdC σ364 ∧ (∃ k374, (u_177 + k365) + k374 ≤ b ∧ w_X2_isOpen x9_177 σ364 k374 (fun x371 σ373 => (mN σ364 ≤ mN σ373 ∧ (∃ j375, (0 : Int32) = nI j375 ∧ (j375 < 3 ∧ (∃ j377, (((10 : Int32) * x9_177) + (9 : Int32)) = nI j377 ∧ (j377 < 60 ∧ (∃ J231 : Int32 → Nat → mS → mS → Prop, (∀ (xk0_231 : Int32) (u_231 : Nat) (σ_231 τ_231 : mS), J231 xk0_231 u_231 σ_231 τ_231 → ((x371 = xk0_231 → w_L_low (y1 >>> (x9_177 &&& 31)) (8 : Int32) τ_231 (fun x382 τ383 => (mN τ383 = 8 ∧ (mRok kdC σ_231 ∧ (∃ k390, u_231 + k390 ≤ b ∧ w_L_count x9_177 x382 σ_231 k390 (fun x387 σ389 => (mN σ_231 ≤ mN σ389 ∧ w_L_many x9_177 x382 τ383 (fun x393 τ394 => (mN τ394 = 8 ∧ ((x387 = x393 → (∃ I276 : Nat → Int32 → Int32 → Nat → mS → mS → Prop, (∀ (n276 : Nat) (x11_276 : Int32) (x12_276 : Int32) (u_276 : Nat) (σ_276 τ_276 : mS), I276 n276 x11_276 x12_276 u_276 σ_276 τ_276 → (∃ j398, (1 : Int32) = nI j398 ∧ (j398 < 3 ∧ (((mI τ_276 0 j398) ≤ x12_276 → (mRok kdC σ_276 ∧ (∃ k406, u_276 + k406 ≤ b ∧ w_L_queuedAt x9_177 x11_276 σ_276 k406 (fun x403 σ405 => (mN σ_276 ≤ mN σ405 ∧ ((x403 = (-71 : Int32) → (∃ k409, k409 < n177 ∧ I177 k409 (x9_177 + 1) (u_276 + k406) σ405 τ_276)) ∧ (¬ x403 = (-71 : Int32) → (Q (0 : Int32) σ405 τ_276)))))))) ∧ (¬ (mI τ_276 0 j398) ≤ x12_276 → (∃ j410, x12_276 = nI j410 ∧ (j410 < 60 ∧ ((((mI τ_276 2 j410) &&& (63 : Int32)) = x9_177 → (mRok kdC σ_276 ∧ (∃ k418, u_276 + k418 ≤ b ∧ w_L_queuedAt x9_177 x11_276 σ_276 k418 (fun x415 σ417 => (mN σ_276 ≤ mN σ417 ∧ ((x415 = x12_276 → (∃ k422, k422 < n276 ∧ I276 k422 (x11_276 + 1) (x12_276 + 1) (u_276 + k418) σ417 τ_276)) ∧ (¬ x415 = x12_276 → (Q (0 : Int32) σ417 τ_276)))))))) ∧ (¬ ((mI τ_276 2 j410) &&& (63 : Int32)) = x9_177 → (∃ k424, k424 < n276 ∧ I276 k424 x11_276 (x12_276 + 1) u_276 σ_276 τ_276)))))))))) ∧ ∃ n, I276 n (0 : Int32) (0 : Int32) (u_231 + k390) σ389 τ394)) ∧ (¬ x387 = x393 → (Q (0 : Int32) σ389 τ394)))))))))))) ∧ (¬ x371 = xk0_231 → (Q (0 : Int32) σ_231 τ_231)))) ∧ (((mI τ_177 1 j377) ≤ (mI τ_177 0 j375) → (J231 (0 : Int32) ((u_177 + k365) + k374) σ373 τ_177)) ∧ (¬ (mI τ_177 1 j377) ≤ (mI τ_177 0 j375) → (J231 (1 : Int32) ((u_177 + k365) + k374) σ373 τ_177)))))))))) (fun _ _ => False)))))))))))))) ∧ ∃ n, I177 n (0 : Int32) (u_144 + k218) σ217 τ222)) ∧ (¬ x215 = x221 → (Q (0 : Int32) σ217 τ222))))))) (fun _ _ => False)))))))) ∧ ((¬ (mI τ_3 0 j5) = 0 → (∃ j427, (1 : Int32) = nI j427 ∧ (j427 < 3 ∧ w_L_low y1 (mI τ_3 0 j427) τ_3 (fun x431 τ432 => (mN τ432 = 8 ∧ (J144 x431 u_3 σ_3 τ432)))))) ∧ ((mI τ_3 0 j5) = 0 → (J144 (0 : Int32) u_3 σ_3 τ_3))))))) ∧ (¬ (mI τ_3 0 j2) ≤ x8_3 → w_L_get x8_3 (3 : Int32) (3 : Int32) τ_3 (fun x435 τ436 => (mN τ436 = 8 ∧ (mRok kdC σ_3 ∧ (∃ k443, u_3 + k443 ≤ b ∧ w_L_state x8_3 σ_3 k443 (fun x440 σ442 => (mN σ_3 ≤ mN σ442 ∧ ((¬ x440 = x435 → (Q (0 : Int32) σ442 τ436)) ∧ (x440 = x435 → (mRok kdC σ442 ∧ (∃ k450, (u_3 + k443) + k450 ≤ b ∧ w_X2_origin x8_3 σ442 k450 (fun x447 σ449 => (mN σ442 ≤ mN σ449 ∧ (∃ j451, x8_3 = nI j451 ∧ (j451 < 60 ∧ (∃ j453, x8_3 = nI j453 ∧ (j453 < 60 ∧ ((¬ x447 = ((((1000 : Int32) * ((mI τ436 2 j451) &&& (7 : Int32))) + (mI τ436 4 j453)) + (1 : Int32)) → (Q (0 : Int32) σ449 τ436)) ∧ (x447 = ((((1000 : Int32) * ((mI τ436 2 j451) &&& (7 : Int32))) + (mI τ436 4 j453)) + (1 : Int32)) → (mRok kdC σ449 ∧ (∃ k461, ((u_3 + k443) + k450) + k461 ≤ b ∧ w_X2_deadline x8_3 σ449 k461 (fun x458 σ460 => (mN σ449 ≤ mN σ460 ∧ (∃ j462, x8_3 = nI j462 ∧ (j462 < 60 ∧ ((¬ x458 = (mI τ436 3 j462) → (Q (0 : Int32) σ460 τ436)) ∧ (x458 = (mI τ436 3 j462) → (mRok kdC σ460 ∧ (∃ k470, (((u_3 + k443) + k450) + k461) + k470 ≤ b ∧ w_X2_overAt x8_3 σ460 k470 (fun x467 σ469 => (mN σ460 ≤ mN σ469 ∧ (∃ j471, x8_3 = nI j471 ∧ (j471 < 60 ∧ ((¬ x467 = (mI τ436 6 j471) → (Q (0 : Int32) σ469 τ436)) ∧ (x467 = (mI τ436 6 j471) → (mRok kdC σ469 ∧ (∃ k479, ((((u_3 + k443) + k450) + k461) + k470) + k479 ≤ b ∧ w_L_place x8_3 σ469 k479 (fun x476 σ478 => (mN σ469 ≤ mN σ478 ∧ ((¬ x435 = (2 : Int32) → ((x476 = (-1 : Int32) → (∃ k483, k483 < n3 ∧ I3 k483 (x8_3 + 1) (((((u_3 + k443) + k450) + k461) + k470) + k479) σ478 τ436)) ∧ (¬ x476 = (-1 : Int32) → (Q (0 : Int32) σ478 τ436)))) ∧ (x435 = (2 : Int32) → w_L_get x8_3 (6 : Int32) (2 : Int32) τ436 (fun x486 τ487 => (mN τ487 = 8 ∧ ((x476 = x486 → (∃ k490, k490 < n3 ∧ I3 k490 (x8_3 + 1) (((((u_3 + k443) + k450) + k461) + k470) + k479) σ478 τ487)) ∧ (¬ x476 = x486 → (Q (0 : Int32) σ478 τ487))))))))))))))))) (fun _ _ => False))))))))) (fun _ _ => False))))))))))) (fun _ _ => False)))))))))))))))) ∧ ∃ n, I3 n (0 : Int32) 0 σ0 τ0)
set_option maxRecDepth 100000 in
set_option maxHeartbeats 4000000 in
theorem c_L_isTold (l : Launch) (hfl : l.stackTraces = false) (G : mG) (N0 N1 : Nat) (a1 a2 : Nat → Nat) (y1 : Int32) (σ0 τ0 : mS) (b : Nat) (Q : Int32 → mS → mS → Prop) (h : w_L_isTold y1 σ0 τ0 b Q) : Met l yL_isTold (mWs yL_isTold cL_isTold 13 (some .boolean)) (mRb 9 181 b) (va_Pc [mV a1 (some 0), .int y1, mV a2 (some 1), mV a2 (some 2), mV a2 (some 3), mV a2 (some 4), mV a2 (some 6), mV a2 (some 0)] (pPre G N0 N1 a1 a2 σ0 τ0)) (va_Qi (fun r (q : mS × mS) => Q r q.1 q.2 ∧ narrow .boolean (.int r) = .int r) (pPost G N1 a1 a2 (mN σ0)) (pA a1 a2 (mN σ0) N1)) b (18 * b) (pA a1 a2 (mN σ0) N1) := by
  refine pr_start (lst := [(0, mV a1 (some 0)), (1, .int y1), (2, mV a2 (some 1)), (3, mV a2 (some 2)), (4, mV a2 (some 3)), (5, mV a2 (some 4)), (6, mV a2 (some 6)), (7, mV a2 (some 0))]) (by decide) (m_cR (m_cI (m_cR (m_cR (m_cR (m_cR (m_cR (m_cR m_c0)))))))) rfl (Nat.le_of_ble_eq_true rfl) (fun p e s m below meth c C E hM hN hr hlk ls hl => ?_)
  have hx := C.1.1
  have hb := C.1.2.1
  unfold w_L_isTold at h
  refine lv_iconst (v := 0) hx hb dL_isTold_0 (by decide) ?_
  refine mr_istore (lv' := [(8, .int (0 : Int32)), (0, mV a1 (some 0)), (1, .int y1), (2, mV a2 (some 1)), (3, mV a2 (some 2)), (4, mV a2 (some 3)), (5, mV a2 (some 4)), (6, mV a2 (some 6)), (7, mV a2 (some 0))]) C hl dL_isTold_1 (by decide) rfl (fun ls hl1 => ?_)
  clear hl
  obtain ⟨I3, hI3, nn3, h⟩ := h
  have hL3 : ∀ (n3 : Nat) (x8_3 : Int32) (u_3 : Nat) (σ_3 τ_3 : mS) (H : Heap) (locs : List Loc) (ls : Array Slot), u_3 ≤ b → I3 n3 x8_3 u_3 σ_3 τ_3 → pM G a1 a2 (mN σ0) s σ_3 τ_3 H locs → ml_has ls 13 [(0, mV a1 (some 0)), (1, .int y1), (2, mV a2 (some 1)), (3, mV a2 (some 2)), (4, mV a2 (some 3)), (5, mV a2 (some 4)), (6, mV a2 (some 6)), (7, mV a2 (some 0)), (8, .int x8_3)] → W p l e (mRb 9 181 b) s m ([mV a1 (some 0), .int y1, mV a2 (some 1), mV a2 (some 2), mV a2 (some 3), mV a2 (some 4), mV a2 (some 6), mV a2 (some 0)] : List Value).toArray below meth c H locs u_3 (18 * u_3) (MQ below (va_Qi (fun r (q : mS × mS) => Q r q.1 q.2 ∧ narrow .boolean (.int r) = .int r) (pPost G N1 a1 a2 (mN σ0)) (pA a1 a2 (mN σ0) N1)) ([mV a1 (some 0), .int y1, mV a2 (some 1), mV a2 (some 2), mV a2 (some 3), mV a2 (some 4), mV a2 (some 6), mV a2 (some 0)] : List Value).toArray s b (18 * b) (pA a1 a2 (mN σ0) N1)) (F0 m 3 ls []) := by
    refine m_loop (fun n3 ih3 => ?_)
    intro x8_3 u_3 σ_3 τ_3 H locs ls hu_3 h_3 hM_3 hl_3
    replace h_3 := hI3 n3 x8_3 u_3 σ_3 τ_3 h_3
    refine lv_iload hx hb dL_isTold_3 (ml_at hl_3 8 rfl) ?_
    refine mr_aload C dL_isTold_5 (ml_at hl_3 7 rfl) ?_
    refine lv_iconst (v := 1) hx hb dL_isTold_7 (by decide) ?_
    obtain ⟨j2, ej3, ej3b, h_3⟩ := h_3
    refine pr_iald C hM_3 (i := 0) rfl (by decide) ej3 ej3b (by decide) dL_isTold_8 ?_
    refine lv_icmp_ge (tgt := 125) hx hb dL_isTold_9 (by decide) (fun hc4 => ?_) (fun hc4 => ?_)
    · replace h_3 := h_3.1 hc4
      refine mr_aload C dL_isTold_125 (ml_at hl_3 7 rfl) ?_
      refine lv_iconst (v := 1) hx hb dL_isTold_127 (by decide) ?_
      obtain ⟨j5, ej6, ej6b, h_3⟩ := h_3
      refine pr_iald C hM_3 (i := 0) rfl (by decide) ej6 ej6b (by decide) dL_isTold_128 ?_
      obtain ⟨J144, hJ144, h_3⟩ := h_3
      have hj144 : ∀ (xk0_144 : Int32) (u_144 : Nat) (σ_144 τ_144 : mS) (H : Heap) (locs : List Loc) (ls : Array Slot), u_144 ≤ b → J144 xk0_144 u_144 σ_144 τ_144 → pM G a1 a2 (mN σ0) s σ_144 τ_144 H locs → ml_has ls 13 [(0, mV a1 (some 0)), (1, .int y1), (2, mV a2 (some 1)), (3, mV a2 (some 2)), (5, mV a2 (some 4)), (7, mV a2 (some 0))] → W p l e (mRb 9 181 b) s m ([mV a1 (some 0), .int y1, mV a2 (some 1), mV a2 (some 2), mV a2 (some 3), mV a2 (some 4), mV a2 (some 6), mV a2 (some 0)] : List Value).toArray below meth c H locs u_144 (18 * u_144) (MQ below (va_Qi (fun r (q : mS × mS) => Q r q.1 q.2 ∧ narrow .boolean (.int r) = .int r) (pPost G N1 a1 a2 (mN σ0)) (pA a1 a2 (mN σ0) N1)) ([mV a1 (some 0), .int y1, mV a2 (some 1), mV a2 (some 2), mV a2 (some 3), mV a2 (some 4), mV a2 (some 6), mV a2 (some 0)] : List Value).toArray s b (18 * b) (pA a1 a2 (mN σ0) N1)) (F0 m 144 ls [.int xk0_144]) := by
        intro xk0_144 u_144 σ_144 τ_144 H locs ls hu_144 h_144 hM_144 hl_144
        replace h_144 := hJ144 xk0_144 u_144 σ_144 τ_144 h_144
        refine mr_istore (lv' := [(8, .int xk0_144), (0, mV a1 (some 0)), (1, .int y1), (2, mV a2 (some 1)), (3, mV a2 (some 2)), (5, mV a2 (some 4)), (7, mV a2 (some 0))]) C hl_144 dL_isTold_144 (by decide) rfl (fun ls hl7 => ?_)
        clear hl_144
        refine mr_aload C dL_isTold_146 (ml_at hl7 6 rfl) ?_
        refine lv_iconst (v := 1) hx hb dL_isTold_148 (by decide) ?_
        obtain ⟨j8, ej9, ej9b, h_144⟩ := h_144
        refine pr_iald C hM_144 (i := 0) rfl (by decide) ej9 ej9b (by decide) dL_isTold_149 ?_
        refine lv_if_le (tgt := 174) hx hb dL_isTold_150 (by decide) (fun hc10 => ?_) (fun hc10 => ?_)
        · replace h_144 := h_144.1 hc10
          refine lv_iconst (v := 0) hx hb dL_isTold_174 (by decide) ?_
          refine mr_istore (lv' := [(9, .int (0 : Int32)), (8, .int xk0_144), (0, mV a1 (some 0)), (1, .int y1), (2, mV a2 (some 1)), (3, mV a2 (some 2)), (5, mV a2 (some 4)), (7, mV a2 (some 0))]) C hl7 dL_isTold_175 (by decide) rfl (fun ls hl11 => ?_)
          clear hl7
          obtain ⟨I177, hI177, nn177, h_144⟩ := h_144
          have hL177 : ∀ (n177 : Nat) (x9_177 : Int32) (u_177 : Nat) (σ_177 τ_177 : mS) (H : Heap) (locs : List Loc) (ls : Array Slot), u_177 ≤ b → I177 n177 x9_177 u_177 σ_177 τ_177 → pM G a1 a2 (mN σ0) s σ_177 τ_177 H locs → ml_has ls 13 [(0, mV a1 (some 0)), (1, .int y1), (2, mV a2 (some 1)), (3, mV a2 (some 2)), (7, mV a2 (some 0)), (9, .int x9_177)] → W p l e (mRb 9 181 b) s m ([mV a1 (some 0), .int y1, mV a2 (some 1), mV a2 (some 2), mV a2 (some 3), mV a2 (some 4), mV a2 (some 6), mV a2 (some 0)] : List Value).toArray below meth c H locs u_177 (18 * u_177) (MQ below (va_Qi (fun r (q : mS × mS) => Q r q.1 q.2 ∧ narrow .boolean (.int r) = .int r) (pPost G N1 a1 a2 (mN σ0)) (pA a1 a2 (mN σ0) N1)) ([mV a1 (some 0), .int y1, mV a2 (some 1), mV a2 (some 2), mV a2 (some 3), mV a2 (some 4), mV a2 (some 6), mV a2 (some 0)] : List Value).toArray s b (18 * b) (pA a1 a2 (mN σ0) N1)) (F0 m 177 ls []) := by
            refine m_loop (fun n177 ih177 => ?_)
            intro x9_177 u_177 σ_177 τ_177 H locs ls hu_177 h_177 hM_177 hl_177
            replace h_177 := hI177 n177 x9_177 u_177 σ_177 τ_177 h_177
            refine lv_iload hx hb dL_isTold_177 (ml_at hl_177 5 rfl) ?_
            refine lv_bipush (v := 6) hx hb dL_isTold_179 (by decide) ?_
            refine lv_icmp_ge (tgt := 345) hx hb dL_isTold_181 (by decide) (fun hc12 => ?_) (fun hc12 => ?_)
            · replace h_177 := h_177.1 hc12
              refine mr_aload_n C dL_isTold_345 rfl (ml_at hl_177 0 rfl) ?_
              obtain ⟨hr16, h_177⟩ := h_177
              refine pr_vi (Is := []) C E hM_177 hr16 hl_177.1.1 cw_L_125 (fun ad => c_X2_time l G ad  _ _ h_177) (fun _ _ q => q.1) (n := 0) ⟨rfl, by decide, by decide, by decide +kernel⟩ rfl rfl ⟨Nat.le_of_ble_eq_true rfl, Nat.le_of_ble_eq_true rfl⟩ m_c0 (Nat.le_of_ble_eq_true rfl) dL_isTold_346 ⟨hu_177, Nat.mul_le_mul_left 18 hu_177⟩ (fun x15 σ17 H locs h13 hM14 => ?_)
              clear h_177 hM_177
              replace h13 := h13.2
              refine mr_aload C dL_isTold_349 (ml_at hl_177 4 rfl) ?_
              refine lv_iconst (v := 0) hx hb dL_isTold_351 (by decide) ?_
              obtain ⟨j18, ej19, ej19b, h13⟩ := h13
              refine pr_iald C hM14 (i := 0) rfl (by decide) ej19 ej19b (by decide) dL_isTold_352 ?_
              refine lv_icmp_ne (tgt := 556) hx hb dL_isTold_353 (by decide) (fun hc20 => ?_) (fun hc20 => ?_)
              · replace h13 := h13.1 hc20
                refine lv_iconst (v := 0) hx hb dL_isTold_556 (by decide) ?_
                exact mr_wi hu_177 (pr_zret C hM14 hN hr hlk rfl h13 dL_isTold_557)
              · replace h13 := h13.2 hc20
                refine mr_aload_n C dL_isTold_356 rfl (ml_at hl_177 0 rfl) ?_
                obtain ⟨hr24, h13⟩ := h13
                refine pr_vi (Is := []) C E hM14 hr24 hl_177.1.1 cw_L_129 (fun ad => c_X2_calls l G ad  _ _ h13) (fun _ _ q => q.1) (n := 0) ⟨rfl, by decide, by decide, by decide +kernel⟩ rfl rfl ⟨Nat.le_of_ble_eq_true rfl, Nat.le_of_ble_eq_true rfl⟩ m_c0 (Nat.le_of_ble_eq_true rfl) dL_isTold_357 ⟨hu_177, Nat.mul_le_mul_left 18 hu_177⟩ (fun x23 σ25 H locs h21 hM22 => ?_)
                clear h13 hM14
                replace h21 := h21.2
                refine mr_aload C dL_isTold_360 (ml_at hl_177 4 rfl) ?_
                refine lv_iconst (v := 1) hx hb dL_isTold_362 (by decide) ?_
                obtain ⟨j26, ej27, ej27b, h21⟩ := h21
                refine pr_iald C hM22 (i := 0) rfl (by decide) ej27 ej27b (by decide) dL_isTold_363 ?_
                refine lv_icmp_ne (tgt := 556) hx hb dL_isTold_364 (by decide) (fun hc28 => ?_) (fun hc28 => ?_)
                · replace h21 := h21.1 hc28
                  refine lv_iconst (v := 0) hx hb dL_isTold_556 (by decide) ?_
                  exact mr_wi hu_177 (pr_zret C hM22 hN hr hlk rfl h21 dL_isTold_557)
                · replace h21 := h21.2 hc28
                  refine mr_aload_n C dL_isTold_367 rfl (ml_at hl_177 0 rfl) ?_
                  refine mr_aload C dL_isTold_368 (ml_at hl_177 4 rfl) ?_
                  refine lv_iconst (v := 1) hx hb dL_isTold_370 (by decide) ?_
                  obtain ⟨j29, ej30, ej30b, h21⟩ := h21
                  refine pr_iald C hM22 (i := 0) rfl (by decide) ej30 ej30b (by decide) dL_isTold_371 ?_
                  obtain ⟨hr34, h21⟩ := h21
                  obtain ⟨k36, hk36, h21⟩ := h21
                  refine pr_wi (Is := [.int (mI τ_177 0 j29)]) C E hM22 hr34 hl_177.1.1 cl_L_95 (fun ad => c_L_state l hfl G ad (mI τ_177 0 j29) _ _ _ h21) (fun _ _ q => q.1) (n := 2) ⟨by decide, by decide, by decide +kernel⟩ rfl rfl ⟨Nat.le_of_ble_eq_true rfl, Nat.le_of_ble_eq_true rfl⟩ m_c0 (Nat.le_of_ble_eq_true rfl) dL_isTold_372 hk36 (fun x33 σ35 H locs h31 hM32 => ?_)
                  clear h21 hM22
                  replace h31 := h31.2
                  refine lv_bipush (v := -71) hx hb dL_isTold_375 (by decide) ?_
                  refine lv_icmp_ne (tgt := 556) hx hb dL_isTold_377 (by decide) (fun hc37 => ?_) (fun hc37 => ?_)
                  · replace h31 := h31.1 hc37
                    refine lv_iconst (v := 0) hx hb dL_isTold_556 (by decide) ?_
                    exact mr_wi hk36 (pr_zret C hM32 hN hr hlk rfl h31 dL_isTold_557)
                  · replace h31 := h31.2 hc37
                    refine mr_aload_n C dL_isTold_380 rfl (ml_at hl_177 0 rfl) ?_
                    refine lv_iconst (v := -1) hx hb dL_isTold_381 (by decide) ?_
                    obtain ⟨hr41, h31⟩ := h31
                    obtain ⟨k43, hk43, h31⟩ := h31
                    refine pr_wi (Is := [.int (-1 : Int32)]) C E hM32 hr41 hl_177.1.1 cl_L_95 (fun ad => c_L_state l hfl G ad (-1 : Int32) _ _ _ h31) (fun _ _ q => q.1) (n := 2) ⟨by decide, by decide, by decide +kernel⟩ rfl rfl ⟨Nat.le_of_ble_eq_true rfl, Nat.le_of_ble_eq_true rfl⟩ m_c0 (Nat.le_of_ble_eq_true rfl) dL_isTold_382 hk43 (fun x40 σ42 H locs h38 hM39 => ?_)
                    clear h31 hM32
                    replace h38 := h38.2
                    refine lv_bipush (v := -71) hx hb dL_isTold_385 (by decide) ?_
                    refine lv_icmp_ne (tgt := 556) hx hb dL_isTold_387 (by decide) (fun hc44 => ?_) (fun hc44 => ?_)
                    · replace h38 := h38.1 hc44
                      refine lv_iconst (v := 0) hx hb dL_isTold_556 (by decide) ?_
                      exact mr_wi hk43 (pr_zret C hM39 hN hr hlk rfl h38 dL_isTold_557)
                    · replace h38 := h38.2 hc44
                      refine mr_aload_n C dL_isTold_390 rfl (ml_at hl_177 0 rfl) ?_
                      refine mr_aload C dL_isTold_391 (ml_at hl_177 4 rfl) ?_
                      refine lv_iconst (v := 1) hx hb dL_isTold_393 (by decide) ?_
                      obtain ⟨j45, ej46, ej46b, h38⟩ := h38
                      refine pr_iald C hM39 (i := 0) rfl (by decide) ej46 ej46b (by decide) dL_isTold_394 ?_
                      obtain ⟨hr50, h38⟩ := h38
                      obtain ⟨k52, hk52, h38⟩ := h38
                      refine pr_wi (Is := [.int (mI τ_177 0 j45)]) C E hM39 hr50 hl_177.1.1 cl_L_107 (fun ad => c_L_place l hfl G ad (mI τ_177 0 j45) _ _ _ h38) (fun _ _ q => q.1) (n := 2) ⟨by decide, by decide, by decide +kernel⟩ rfl rfl ⟨Nat.le_of_ble_eq_true rfl, Nat.le_of_ble_eq_true rfl⟩ m_c0 (Nat.le_of_ble_eq_true rfl) dL_isTold_395 hk52 (fun x49 σ51 H locs h47 hM48 => ?_)
                      clear h38 hM39
                      replace h47 := h47.2
                      refine lv_bipush (v := -71) hx hb dL_isTold_398 (by decide) ?_
                      refine lv_icmp_ne (tgt := 556) hx hb dL_isTold_400 (by decide) (fun hc53 => ?_) (fun hc53 => ?_)
                      · replace h47 := h47.1 hc53
                        refine lv_iconst (v := 0) hx hb dL_isTold_556 (by decide) ?_
                        exact mr_wi hk52 (pr_zret C hM48 hN hr hlk rfl h47 dL_isTold_557)
                      · replace h47 := h47.2 hc53
                        refine mr_aload_n C dL_isTold_403 rfl (ml_at hl_177 0 rfl) ?_
                        refine lv_bipush (v := 6) hx hb dL_isTold_404 (by decide) ?_
                        refine lv_iconst (v := 0) hx hb dL_isTold_406 (by decide) ?_
                        obtain ⟨hr57, h47⟩ := h47
                        obtain ⟨k59, hk59, h47⟩ := h47
                        refine pr_wi (Is := [.int (6 : Int32), .int (0 : Int32)]) C E hM48 hr57 hl_177.1.1 cl_L_123 (fun ad => c_L_queuedAt l hfl G ad (6 : Int32) (0 : Int32) _ _ _ h47) (fun _ _ q => q.1) (n := 3) ⟨by decide, by decide, by decide +kernel⟩ rfl rfl ⟨Nat.le_of_ble_eq_true rfl, Nat.le_of_ble_eq_true rfl⟩ m_c0 (Nat.le_of_ble_eq_true rfl) dL_isTold_407 hk59 (fun x56 σ58 H locs h54 hM55 => ?_)
                        clear h47 hM48
                        replace h54 := h54.2
                        refine lv_bipush (v := -71) hx hb dL_isTold_410 (by decide) ?_
                        refine lv_icmp_ne (tgt := 556) hx hb dL_isTold_412 (by decide) (fun hc60 => ?_) (fun hc60 => ?_)
                        · replace h54 := h54.1 hc60
                          refine lv_iconst (v := 0) hx hb dL_isTold_556 (by decide) ?_
                          exact mr_wi hk59 (pr_zret C hM55 hN hr hlk rfl h54 dL_isTold_557)
                        · replace h54 := h54.2 hc60
                          refine mr_aload_n C dL_isTold_415 rfl (ml_at hl_177 0 rfl) ?_
                          refine lv_iconst (v := 0) hx hb dL_isTold_416 (by decide) ?_
                          refine lv_iconst (v := -1) hx hb dL_isTold_417 (by decide) ?_
                          obtain ⟨hr64, h54⟩ := h54
                          obtain ⟨k66, hk66, h54⟩ := h54
                          refine pr_wi (Is := [.int (0 : Int32), .int (-1 : Int32)]) C E hM55 hr64 hl_177.1.1 cl_L_123 (fun ad => c_L_queuedAt l hfl G ad (0 : Int32) (-1 : Int32) _ _ _ h54) (fun _ _ q => q.1) (n := 3) ⟨by decide, by decide, by decide +kernel⟩ rfl rfl ⟨Nat.le_of_ble_eq_true rfl, Nat.le_of_ble_eq_true rfl⟩ m_c0 (Nat.le_of_ble_eq_true rfl) dL_isTold_418 hk66 (fun x63 σ65 H locs h61 hM62 => ?_)
                          clear h54 hM55
                          replace h61 := h61.2
                          refine lv_bipush (v := -71) hx hb dL_isTold_421 (by decide) ?_
                          refine lv_icmp_ne (tgt := 556) hx hb dL_isTold_423 (by decide) (fun hc67 => ?_) (fun hc67 => ?_)
                          · replace h61 := h61.1 hc67
                            refine lv_iconst (v := 0) hx hb dL_isTold_556 (by decide) ?_
                            exact mr_wi hk66 (pr_zret C hM62 hN hr hlk rfl h61 dL_isTold_557)
                          · replace h61 := h61.2 hc67
                            refine mr_aload_n C dL_isTold_426 rfl (ml_at hl_177 0 rfl) ?_
                            refine lv_bipush (v := 6) hx hb dL_isTold_427 (by decide) ?_
                            refine lv_bipush (v := 8) hx hb dL_isTold_429 (by decide) ?_
                            obtain ⟨hr71, h61⟩ := h61
                            obtain ⟨k73, hk73, h61⟩ := h61
                            refine pr_wi (Is := [.int (6 : Int32), .int (8 : Int32)]) C E hM62 hr71 hl_177.1.1 cl_L_121 (fun ad => c_L_count l hfl G ad (6 : Int32) (8 : Int32) _ _ _ h61) (fun _ _ q => q.1) (n := 3) ⟨by decide, by decide, by decide +kernel⟩ rfl rfl ⟨Nat.le_of_ble_eq_true rfl, Nat.le_of_ble_eq_true rfl⟩ m_c0 (Nat.le_of_ble_eq_true rfl) dL_isTold_431 hk73 (fun x70 σ72 H locs h68 hM69 => ?_)
                            clear h61 hM62
                            replace h68 := h68.2
                            refine lv_bipush (v := -71) hx hb dL_isTold_434 (by decide) ?_
                            refine lv_icmp_ne (tgt := 556) hx hb dL_isTold_436 (by decide) (fun hc74 => ?_) (fun hc74 => ?_)
                            · replace h68 := h68.1 hc74
                              refine lv_iconst (v := 0) hx hb dL_isTold_556 (by decide) ?_
                              exact mr_wi hk73 (pr_zret C hM69 hN hr hlk rfl h68 dL_isTold_557)
                            · replace h68 := h68.2 hc74
                              refine mr_aload_n C dL_isTold_439 rfl (ml_at hl_177 0 rfl) ?_
                              refine lv_iconst (v := 0) hx hb dL_isTold_440 (by decide) ?_
                              refine lv_bipush (v := 8) hx hb dL_isTold_441 (by decide) ?_
                              obtain ⟨hr78, h68⟩ := h68
                              obtain ⟨k80, hk80, h68⟩ := h68
                              refine pr_wi (Is := [.int (0 : Int32), .int (8 : Int32)]) C E hM69 hr78 hl_177.1.1 cl_L_121 (fun ad => c_L_count l hfl G ad (0 : Int32) (8 : Int32) _ _ _ h68) (fun _ _ q => q.1) (n := 3) ⟨by decide, by decide, by decide +kernel⟩ rfl rfl ⟨Nat.le_of_ble_eq_true rfl, Nat.le_of_ble_eq_true rfl⟩ m_c0 (Nat.le_of_ble_eq_true rfl) dL_isTold_443 hk80 (fun x77 σ79 H locs h75 hM76 => ?_)
                              clear h68 hM69
                              replace h75 := h75.2
                              refine lv_bipush (v := -72) hx hb dL_isTold_446 (by decide) ?_
                              refine lv_icmp_ne (tgt := 556) hx hb dL_isTold_448 (by decide) (fun hc81 => ?_) (fun hc81 => ?_)
                              · replace h75 := h75.1 hc81
                                refine lv_iconst (v := 0) hx hb dL_isTold_556 (by decide) ?_
                                exact mr_wi hk80 (pr_zret C hM76 hN hr hlk rfl h75 dL_isTold_557)
                              · replace h75 := h75.2 hc81
                                refine mr_aload_n C dL_isTold_451 rfl (ml_at hl_177 0 rfl) ?_
                                refine lv_iconst (v := 0) hx hb dL_isTold_452 (by decide) ?_
                                refine lv_iconst (v := -1) hx hb dL_isTold_453 (by decide) ?_
                                obtain ⟨hr85, h75⟩ := h75
                                obtain ⟨k87, hk87, h75⟩ := h75
                                refine pr_wi (Is := [.int (0 : Int32), .int (-1 : Int32)]) C E hM76 hr85 hl_177.1.1 cl_L_121 (fun ad => c_L_count l hfl G ad (0 : Int32) (-1 : Int32) _ _ _ h75) (fun _ _ q => q.1) (n := 3) ⟨by decide, by decide, by decide +kernel⟩ rfl rfl ⟨Nat.le_of_ble_eq_true rfl, Nat.le_of_ble_eq_true rfl⟩ m_c0 (Nat.le_of_ble_eq_true rfl) dL_isTold_454 hk87 (fun x84 σ86 H locs h82 hM83 => ?_)
                                clear h75 hM76
                                replace h82 := h82.2
                                refine lv_bipush (v := -72) hx hb dL_isTold_457 (by decide) ?_
                                refine lv_icmp_ne (tgt := 556) hx hb dL_isTold_459 (by decide) (fun hc88 => ?_) (fun hc88 => ?_)
                                · replace h82 := h82.1 hc88
                                  refine lv_iconst (v := 0) hx hb dL_isTold_556 (by decide) ?_
                                  exact mr_wi hk87 (pr_zret C hM83 hN hr hlk rfl h82 dL_isTold_557)
                                · replace h82 := h82.2 hc88
                                  refine mr_aload_n C dL_isTold_462 rfl (ml_at hl_177 0 rfl) ?_
                                  refine lv_bipush (v := 6) hx hb dL_isTold_463 (by decide) ?_
                                  obtain ⟨hr92, h82⟩ := h82
                                  obtain ⟨k94, hk94, h82⟩ := h82
                                  refine pr_wi (Is := [.int (6 : Int32)]) C E hM83 hr92 hl_177.1.1 cl_L_115 (fun ad => c_L_tokens l hfl G ad (6 : Int32) _ _ _ h82) (fun _ _ q => q.1) (n := 2) ⟨by decide, by decide, by decide +kernel⟩ rfl rfl ⟨Nat.le_of_ble_eq_true rfl, Nat.le_of_ble_eq_true rfl⟩ m_c0 (Nat.le_of_ble_eq_true rfl) dL_isTold_465 hk94 (fun x91 σ93 H locs h89 hM90 => ?_)
                                  clear h82 hM83
                                  replace h89 := h89.2
                                  refine lv_bipush (v := -71) hx hb dL_isTold_468 (by decide) ?_
                                  refine lv_icmp_ne (tgt := 556) hx hb dL_isTold_470 (by decide) (fun hc95 => ?_) (fun hc95 => ?_)
                                  · replace h89 := h89.1 hc95
                                    refine lv_iconst (v := 0) hx hb dL_isTold_556 (by decide) ?_
                                    exact mr_wi hk94 (pr_zret C hM90 hN hr hlk rfl h89 dL_isTold_557)
                                  · replace h89 := h89.2 hc95
                                    refine mr_aload_n C dL_isTold_473 rfl (ml_at hl_177 0 rfl) ?_
                                    refine mr_aload C dL_isTold_474 (ml_at hl_177 4 rfl) ?_
                                    refine lv_iconst (v := 1) hx hb dL_isTold_476 (by decide) ?_
                                    obtain ⟨j96, ej97, ej97b, h89⟩ := h89
                                    refine pr_iald C hM90 (i := 0) rfl (by decide) ej97 ej97b (by decide) dL_isTold_477 ?_
                                    obtain ⟨hr101, h89⟩ := h89
                                    obtain ⟨k103, hk103, h89⟩ := h89
                                    refine pr_wi (Is := [.int (mI τ_177 0 j96)]) C E hM90 hr101 hl_177.1.1 cl_L_132 (fun ad => c_L_cancel l hfl G ad (mI τ_177 0 j96) _ _ _ h89) (fun _ _ q => q.1) (n := 2) ⟨by decide, by decide, by decide +kernel⟩ rfl rfl ⟨Nat.le_of_ble_eq_true rfl, Nat.le_of_ble_eq_true rfl⟩ m_c0 (Nat.le_of_ble_eq_true rfl) dL_isTold_478 hk103 (fun x100 σ102 H locs h98 hM99 => ?_)
                                    clear h89 hM90
                                    replace h98 := h98.2
                                    refine lv_bipush (v := -71) hx hb dL_isTold_481 (by decide) ?_
                                    refine lv_icmp_ne (tgt := 556) hx hb dL_isTold_483 (by decide) (fun hc104 => ?_) (fun hc104 => ?_)
                                    · replace h98 := h98.1 hc104
                                      refine lv_iconst (v := 0) hx hb dL_isTold_556 (by decide) ?_
                                      exact mr_wi hk103 (pr_zret C hM99 hN hr hlk rfl h98 dL_isTold_557)
                                    · replace h98 := h98.2 hc104
                                      refine mr_aload_n C dL_isTold_486 rfl (ml_at hl_177 0 rfl) ?_
                                      refine lv_iconst (v := -1) hx hb dL_isTold_487 (by decide) ?_
                                      obtain ⟨hr108, h98⟩ := h98
                                      obtain ⟨k110, hk110, h98⟩ := h98
                                      refine pr_wi (Is := [.int (-1 : Int32)]) C E hM99 hr108 hl_177.1.1 cl_L_132 (fun ad => c_L_cancel l hfl G ad (-1 : Int32) _ _ _ h98) (fun _ _ q => q.1) (n := 2) ⟨by decide, by decide, by decide +kernel⟩ rfl rfl ⟨Nat.le_of_ble_eq_true rfl, Nat.le_of_ble_eq_true rfl⟩ m_c0 (Nat.le_of_ble_eq_true rfl) dL_isTold_488 hk110 (fun x107 σ109 H locs h105 hM106 => ?_)
                                      clear h98 hM99
                                      replace h105 := h105.2
                                      refine lv_bipush (v := -71) hx hb dL_isTold_491 (by decide) ?_
                                      refine lv_icmp_ne (tgt := 556) hx hb dL_isTold_493 (by decide) (fun hc111 => ?_) (fun hc111 => ?_)
                                      · replace h105 := h105.1 hc111
                                        refine lv_iconst (v := 0) hx hb dL_isTold_556 (by decide) ?_
                                        exact mr_wi hk110 (pr_zret C hM106 hN hr hlk rfl h105 dL_isTold_557)
                                      · replace h105 := h105.2 hc111
                                        refine mr_aload_n C dL_isTold_496 rfl (ml_at hl_177 0 rfl) ?_
                                        refine lv_iconst (v := 0) hx hb dL_isTold_497 (by decide) ?_
                                        obtain ⟨hr115, h105⟩ := h105
                                        obtain ⟨k117, hk117, h105⟩ := h105
                                        refine pr_wi (Is := [.int (0 : Int32)]) C E hM106 hr115 hl_177.1.1 cl_L_134 (fun ad => c_L_pass l hfl G ad (0 : Int32) _ _ _ h105) (fun _ _ q => q.1) (n := 2) ⟨by decide, by decide, by decide +kernel⟩ rfl rfl ⟨Nat.le_of_ble_eq_true rfl, Nat.le_of_ble_eq_true rfl⟩ m_c0 (Nat.le_of_ble_eq_true rfl) dL_isTold_498 hk117 (fun x114 σ116 H locs h112 hM113 => ?_)
                                        clear h105 hM106
                                        replace h112 := h112.2
                                        refine lv_bipush (v := -72) hx hb dL_isTold_501 (by decide) ?_
                                        refine lv_icmp_ne (tgt := 556) hx hb dL_isTold_503 (by decide) (fun hc118 => ?_) (fun hc118 => ?_)
                                        · replace h112 := h112.1 hc118
                                          refine lv_iconst (v := 0) hx hb dL_isTold_556 (by decide) ?_
                                          exact mr_wi hk117 (pr_zret C hM113 hN hr hlk rfl h112 dL_isTold_557)
                                        · replace h112 := h112.2 hc118
                                          refine mr_aload_n C dL_isTold_506 rfl (ml_at hl_177 0 rfl) ?_
                                          refine lv_bipush (v := 101) hx hb dL_isTold_507 (by decide) ?_
                                          obtain ⟨hr122, h112⟩ := h112
                                          obtain ⟨k124, hk124, h112⟩ := h112
                                          refine pr_wi (Is := [.int (101 : Int32)]) C E hM113 hr122 hl_177.1.1 cl_L_134 (fun ad => c_L_pass l hfl G ad (101 : Int32) _ _ _ h112) (fun _ _ q => q.1) (n := 2) ⟨by decide, by decide, by decide +kernel⟩ rfl rfl ⟨Nat.le_of_ble_eq_true rfl, Nat.le_of_ble_eq_true rfl⟩ m_c0 (Nat.le_of_ble_eq_true rfl) dL_isTold_509 hk124 (fun x121 σ123 H locs h119 hM120 => ?_)
                                          clear h112 hM113
                                          replace h119 := h119.2
                                          refine lv_bipush (v := -72) hx hb dL_isTold_512 (by decide) ?_
                                          refine lv_icmp_ne (tgt := 556) hx hb dL_isTold_514 (by decide) (fun hc125 => ?_) (fun hc125 => ?_)
                                          · replace h119 := h119.1 hc125
                                            refine lv_iconst (v := 0) hx hb dL_isTold_556 (by decide) ?_
                                            exact mr_wi hk124 (pr_zret C hM120 hN hr hlk rfl h119 dL_isTold_557)
                                          · replace h119 := h119.2 hc125
                                            refine mr_aload_n C dL_isTold_517 rfl (ml_at hl_177 0 rfl) ?_
                                            refine lv_bipush (v := 6) hx hb dL_isTold_518 (by decide) ?_
                                            refine lv_iconst (v := 0) hx hb dL_isTold_520 (by decide) ?_
                                            obtain ⟨hr129, h119⟩ := h119
                                            obtain ⟨k131, hk131, h119⟩ := h119
                                            refine pr_wi (Is := [.int (6 : Int32), .int (0 : Int32)]) C E hM120 hr129 hl_177.1.1 cl_L_136 (fun ad => c_L_call l hfl G ad (6 : Int32) (0 : Int32) _ _ _ h119) (fun _ _ q => q.1) (n := 3) ⟨by decide, by decide, by decide +kernel⟩ rfl rfl ⟨Nat.le_of_ble_eq_true rfl, Nat.le_of_ble_eq_true rfl⟩ m_c0 (Nat.le_of_ble_eq_true rfl) dL_isTold_521 hk131 (fun x128 σ130 H locs h126 hM127 => ?_)
                                            clear h119 hM120
                                            replace h126 := h126.2
                                            refine lv_bipush (v := -71) hx hb dL_isTold_524 (by decide) ?_
                                            refine lv_icmp_ne (tgt := 556) hx hb dL_isTold_526 (by decide) (fun hc132 => ?_) (fun hc132 => ?_)
                                            · replace h126 := h126.1 hc132
                                              refine lv_iconst (v := 0) hx hb dL_isTold_556 (by decide) ?_
                                              exact mr_wi hk131 (pr_zret C hM127 hN hr hlk rfl h126 dL_isTold_557)
                                            · replace h126 := h126.2 hc132
                                              refine mr_aload_n C dL_isTold_529 rfl (ml_at hl_177 0 rfl) ?_
                                              refine lv_iconst (v := 0) hx hb dL_isTold_530 (by decide) ?_
                                              refine lv_iconst (v := 0) hx hb dL_isTold_531 (by decide) ?_
                                              obtain ⟨hr136, h126⟩ := h126
                                              obtain ⟨k138, hk138, h126⟩ := h126
                                              refine pr_wi (Is := [.int (0 : Int32), .int (0 : Int32)]) C E hM127 hr136 hl_177.1.1 cl_L_136 (fun ad => c_L_call l hfl G ad (0 : Int32) (0 : Int32) _ _ _ h126) (fun _ _ q => q.1) (n := 3) ⟨by decide, by decide, by decide +kernel⟩ rfl rfl ⟨Nat.le_of_ble_eq_true rfl, Nat.le_of_ble_eq_true rfl⟩ m_c0 (Nat.le_of_ble_eq_true rfl) dL_isTold_532 hk138 (fun x135 σ137 H locs h133 hM134 => ?_)
                                              clear h126 hM127
                                              replace h133 := h133.2
                                              refine lv_bipush (v := -72) hx hb dL_isTold_535 (by decide) ?_
                                              refine lv_icmp_ne (tgt := 556) hx hb dL_isTold_537 (by decide) (fun hc139 => ?_) (fun hc139 => ?_)
                                              · replace h133 := h133.1 hc139
                                                refine lv_iconst (v := 0) hx hb dL_isTold_556 (by decide) ?_
                                                exact mr_wi hk138 (pr_zret C hM134 hN hr hlk rfl h133 dL_isTold_557)
                                              · replace h133 := h133.2 hc139
                                                refine mr_aload_n C dL_isTold_540 rfl (ml_at hl_177 0 rfl) ?_
                                                refine lv_iconst (v := 0) hx hb dL_isTold_541 (by decide) ?_
                                                refine lv_bipush (v := 101) hx hb dL_isTold_542 (by decide) ?_
                                                obtain ⟨hr143, h133⟩ := h133
                                                obtain ⟨k145, hk145, h133⟩ := h133
                                                refine pr_wi (Is := [.int (0 : Int32), .int (101 : Int32)]) C E hM134 hr143 hl_177.1.1 cl_L_136 (fun ad => c_L_call l hfl G ad (0 : Int32) (101 : Int32) _ _ _ h133) (fun _ _ q => q.1) (n := 3) ⟨by decide, by decide, by decide +kernel⟩ rfl rfl ⟨Nat.le_of_ble_eq_true rfl, Nat.le_of_ble_eq_true rfl⟩ m_c0 (Nat.le_of_ble_eq_true rfl) dL_isTold_544 hk145 (fun x142 σ144 H locs h140 hM141 => ?_)
                                                clear h133 hM134
                                                replace h140 := h140.2
                                                refine lv_bipush (v := -72) hx hb dL_isTold_547 (by decide) ?_
                                                refine lv_icmp_ne (tgt := 556) hx hb dL_isTold_549 (by decide) (fun hc146 => ?_) (fun hc146 => ?_)
                                                · replace h140 := h140.1 hc146
                                                  refine lv_iconst (v := 0) hx hb dL_isTold_556 (by decide) ?_
                                                  exact mr_wi hk145 (pr_zret C hM141 hN hr hlk rfl h140 dL_isTold_557)
                                                · replace h140 := h140.2 hc146
                                                  refine lv_iconst (v := 1) hx hb dL_isTold_552 (by decide) ?_
                                                  refine lv_goto (tgt := 557) hx hb dL_isTold_553 (by decide) ?_
                                                  exact mr_wi hk145 (pr_zret C hM141 hN hr hlk rfl h140 dL_isTold_557)
            · replace h_177 := h_177.2 hc12
              refine mr_aload_n C dL_isTold_184 rfl (ml_at hl_177 0 rfl) ?_
              refine lv_iload hx hb dL_isTold_185 (ml_at hl_177 5 rfl) ?_
              obtain ⟨hr150, h_177⟩ := h_177
              obtain ⟨k152, hk152, h_177⟩ := h_177
              refine pr_wi (Is := [.int x9_177]) C E hM_177 hr150 hl_177.1.1 cl_L_115 (fun ad => c_L_tokens l hfl G ad x9_177 _ _ _ h_177) (fun _ _ q => q.1) (n := 2) ⟨by decide, by decide, by decide +kernel⟩ rfl rfl ⟨Nat.le_of_ble_eq_true rfl, Nat.le_of_ble_eq_true rfl⟩ m_c0 (Nat.le_of_ble_eq_true rfl) dL_isTold_187 hk152 (fun x149 σ151 H locs h147 hM148 => ?_)
              clear h_177 hM_177
              replace h147 := h147.2
              refine mr_aload_n C dL_isTold_190 rfl (ml_at hl_177 2 rfl) ?_
              refine lv_bipush (v := 10) hx hb dL_isTold_191 (by decide) ?_
              refine lv_iload hx hb dL_isTold_193 (ml_at hl_177 5 rfl) ?_
              refine lv_imul hx hb dL_isTold_195 ?_
              refine lv_bipush (v := 7) hx hb dL_isTold_196 (by decide) ?_
              refine lv_iadd hx hb dL_isTold_198 ?_
              obtain ⟨j153, ej154, ej154b, h147⟩ := h147
              refine pr_iald C hM148 (i := 1) rfl (by decide) ej154 ej154b (by decide) dL_isTold_199 ?_
              refine lv_icmp_ne (tgt := 234) hx hb dL_isTold_200 (by decide) (fun hc155 => ?_) (fun hc155 => ?_)
              · replace h147 := h147.1 hc155
                refine lv_iconst (v := 0) hx hb dL_isTold_234 (by decide) ?_
                exact mr_wi hk152 (pr_zret C hM148 hN hr hlk rfl h147 dL_isTold_235)
              · replace h147 := h147.2 hc155
                refine mr_aload_n C dL_isTold_203 rfl (ml_at hl_177 0 rfl) ?_
                refine lv_iload hx hb dL_isTold_204 (ml_at hl_177 5 rfl) ?_
                obtain ⟨hr159, h147⟩ := h147
                obtain ⟨k161, hk161, h147⟩ := h147
                refine pr_xi (Is := [.int x9_177]) C E hM148 hr159 hl_177.1.1 cw_L_117 (fun ad => c_X2_isOpen l hfl G ad x9_177 _ _ _ _ h147) (fun _ _ q => q.1.1) (n := 1) ⟨rfl, by decide, by decide, by decide +kernel⟩ rfl rfl ⟨Nat.le_of_ble_eq_true rfl, Nat.le_of_ble_eq_true rfl⟩ m_c0 (Nat.le_of_ble_eq_true rfl) dL_isTold_206 hk161 (fun x158 σ160 H locs h156 hM157 => ?_)
                clear h147 hM148
                replace h156 := h156.1.2
                refine mr_aload C dL_isTold_209 (ml_at hl_177 4 rfl) ?_
                refine lv_iconst (v := 0) hx hb dL_isTold_211 (by decide) ?_
                obtain ⟨j162, ej163, ej163b, h156⟩ := h156
                refine pr_iald C hM157 (i := 0) rfl (by decide) ej163 ej163b (by decide) dL_isTold_212 ?_
                refine mr_aload_n C dL_isTold_213 rfl (ml_at hl_177 2 rfl) ?_
                refine lv_bipush (v := 10) hx hb dL_isTold_214 (by decide) ?_
                refine lv_iload hx hb dL_isTold_216 (ml_at hl_177 5 rfl) ?_
                refine lv_imul hx hb dL_isTold_218 ?_
                refine lv_bipush (v := 9) hx hb dL_isTold_219 (by decide) ?_
                refine lv_iadd hx hb dL_isTold_221 ?_
                obtain ⟨j164, ej165, ej165b, h156⟩ := h156
                refine pr_iald C hM157 (i := 1) rfl (by decide) ej165 ej165b (by decide) dL_isTold_222 ?_
                obtain ⟨J231, hJ231, h156⟩ := h156
                have hj231 : ∀ (xk0_231 : Int32) (u_231 : Nat) (σ_231 τ_231 : mS) (H : Heap) (locs : List Loc) (ls : Array Slot), u_231 ≤ b → J231 xk0_231 u_231 σ_231 τ_231 → pM G a1 a2 (mN σ0) s σ_231 τ_231 H locs → ml_has ls 13 [(0, mV a1 (some 0)), (1, .int y1), (2, mV a2 (some 1)), (3, mV a2 (some 2)), (7, mV a2 (some 0)), (9, .int x9_177)] → W p l e (mRb 9 181 b) s m ([mV a1 (some 0), .int y1, mV a2 (some 1), mV a2 (some 2), mV a2 (some 3), mV a2 (some 4), mV a2 (some 6), mV a2 (some 0)] : List Value).toArray below meth c H locs u_231 (18 * u_231) (MQ below (va_Qi (fun r (q : mS × mS) => Q r q.1 q.2 ∧ narrow .boolean (.int r) = .int r) (pPost G N1 a1 a2 (mN σ0)) (pA a1 a2 (mN σ0) N1)) ([mV a1 (some 0), .int y1, mV a2 (some 1), mV a2 (some 2), mV a2 (some 3), mV a2 (some 4), mV a2 (some 6), mV a2 (some 0)] : List Value).toArray s b (18 * b) (pA a1 a2 (mN σ0) N1)) (F0 m 231 ls [.int xk0_231, .int x158]) := by
                  intro xk0_231 u_231 σ_231 τ_231 H locs ls hu_231 h_231 hM_231 hl_231
                  replace h_231 := hJ231 xk0_231 u_231 σ_231 τ_231 h_231
                  refine lv_icmp_eq (tgt := 236) hx hb dL_isTold_231 (by decide) (fun hc166 => ?_) (fun hc166 => ?_)
                  · replace h_231 := h_231.1 hc166
                    refine lv_iload_n hx hb dL_isTold_236 rfl (ml_at hl_231 1 rfl) ?_
                    refine lv_iload hx hb dL_isTold_237 (ml_at hl_231 5 rfl) ?_
                    refine lv_ishr hx hb dL_isTold_239 ?_
                    refine lv_bipush (v := 8) hx hb dL_isTold_240 (by decide) ?_
                    refine pr_li (As := fun ad => [.int (y1 >>> (x9_177 &&& 31)), .int (8 : Int32)]) C hM_231 (fun _ _ => rfl) hl_231.1.1 cw_L_83 (fun ad => c_L_low l G ad (y1 >>> (x9_177 &&& 31)) (8 : Int32) _ _ h_231) (fun _ _ q => q.1) (n := 2) ⟨rfl, by decide, by decide, by decide +kernel⟩ rfl rfl ⟨Nat.le_of_ble_eq_true rfl, Nat.le_of_ble_eq_true rfl⟩ m_c0 (Nat.le_of_ble_eq_true rfl) dL_isTold_242 ⟨hu_231, Nat.mul_le_mul_left 18 hu_231⟩ (fun x169 τ170 H locs h167 hM168 => ?_)
                    clear h_231 hM_231
                    replace h167 := h167.2
                    refine mr_istore (lv' := [(10, .int x169), (0, mV a1 (some 0)), (1, .int y1), (2, mV a2 (some 1)), (3, mV a2 (some 2)), (7, mV a2 (some 0)), (9, .int x9_177)]) C hl_231 dL_isTold_245 (by decide) rfl (fun ls hl171 => ?_)
                    clear hl_231
                    refine mr_aload_n C dL_isTold_247 rfl (ml_at hl171 1 rfl) ?_
                    refine lv_iload hx hb dL_isTold_248 (ml_at hl171 6 rfl) ?_
                    refine lv_iload hx hb dL_isTold_250 (ml_at hl171 0 rfl) ?_
                    obtain ⟨hr175, h167⟩ := h167
                    obtain ⟨k177, hk177, h167⟩ := h167
                    refine pr_wi (Is := [.int x9_177, .int x169]) C E hM168 hr175 hl171.1.1 cl_L_121 (fun ad => c_L_count l hfl G ad x9_177 x169 _ _ _ h167) (fun _ _ q => q.1) (n := 3) ⟨by decide, by decide, by decide +kernel⟩ rfl rfl ⟨Nat.le_of_ble_eq_true rfl, Nat.le_of_ble_eq_true rfl⟩ m_c0 (Nat.le_of_ble_eq_true rfl) dL_isTold_252 hk177 (fun x174 σ176 H locs h172 hM173 => ?_)
                    clear h167 hM168
                    replace h172 := h172.2
                    refine mr_aload_n C dL_isTold_255 rfl (ml_at hl171 4 rfl) ?_
                    refine mr_aload C dL_isTold_256 (ml_at hl171 5 rfl) ?_
                    refine lv_iload hx hb dL_isTold_258 (ml_at hl171 6 rfl) ?_
                    refine lv_iload hx hb dL_isTold_260 (ml_at hl171 0 rfl) ?_
                    refine pr_li (As := fun ad => [mV ad (some 2), mV ad (some 0), .int x9_177, .int x169]) C hM173 (fun ad had => by simp only [mV_some, had 2 (by decide), had 0 (by decide)]) hl171.1.1 cw_L_63 (fun ad => c_L_many l G ad x9_177 x169 _ _ h172) (fun _ _ q => q.1) (n := 4) ⟨rfl, by decide, by decide, by decide +kernel⟩ rfl rfl ⟨Nat.le_of_ble_eq_true rfl, Nat.le_of_ble_eq_true rfl⟩ (m_cI m_c0) (Nat.le_of_ble_eq_true rfl) dL_isTold_262 ⟨hk177, Nat.mul_le_mul_left 18 hk177⟩ (fun x180 τ181 H locs h178 hM179 => ?_)
                    clear h172 hM173
                    replace h178 := h178.2
                    refine lv_icmp_eq (tgt := 270) hx hb dL_isTold_265 (by decide) (fun hc182 => ?_) (fun hc182 => ?_)
                    · replace h178 := h178.1 hc182
                      refine lv_iconst (v := 0) hx hb dL_isTold_270 (by decide) ?_
                      refine mr_istore (lv' := [(11, .int (0 : Int32)), (10, .int x169), (0, mV a1 (some 0)), (1, .int y1), (2, mV a2 (some 1)), (3, mV a2 (some 2)), (7, mV a2 (some 0)), (9, .int x9_177)]) C hl171 dL_isTold_271 (by decide) rfl (fun ls hl183 => ?_)
                      clear hl171
                      refine lv_iconst (v := 0) hx hb dL_isTold_273 (by decide) ?_
                      refine mr_istore (lv' := [(12, .int (0 : Int32)), (11, .int (0 : Int32)), (10, .int x169), (0, mV a1 (some 0)), (1, .int y1), (2, mV a2 (some 1)), (3, mV a2 (some 2)), (7, mV a2 (some 0)), (9, .int x9_177)]) C hl183 dL_isTold_274 (by decide) rfl (fun ls hl184 => ?_)
                      clear hl183
                      obtain ⟨I276, hI276, nn276, h178⟩ := h178
                      have hL276 : ∀ (n276 : Nat) (x11_276 : Int32) (x12_276 : Int32) (u_276 : Nat) (σ_276 τ_276 : mS) (H : Heap) (locs : List Loc) (ls : Array Slot), u_276 ≤ b → I276 n276 x11_276 x12_276 u_276 σ_276 τ_276 → pM G a1 a2 (mN σ0) s σ_276 τ_276 H locs → ml_has ls 13 [(0, mV a1 (some 0)), (1, .int y1), (2, mV a2 (some 1)), (3, mV a2 (some 2)), (7, mV a2 (some 0)), (9, .int x9_177), (11, .int x11_276), (12, .int x12_276)] → W p l e (mRb 9 181 b) s m ([mV a1 (some 0), .int y1, mV a2 (some 1), mV a2 (some 2), mV a2 (some 3), mV a2 (some 4), mV a2 (some 6), mV a2 (some 0)] : List Value).toArray below meth c H locs u_276 (18 * u_276) (MQ below (va_Qi (fun r (q : mS × mS) => Q r q.1 q.2 ∧ narrow .boolean (.int r) = .int r) (pPost G N1 a1 a2 (mN σ0)) (pA a1 a2 (mN σ0) N1)) ([mV a1 (some 0), .int y1, mV a2 (some 1), mV a2 (some 2), mV a2 (some 3), mV a2 (some 4), mV a2 (some 6), mV a2 (some 0)] : List Value).toArray s b (18 * b) (pA a1 a2 (mN σ0) N1)) (F0 m 276 ls []) := by
                        refine m_loop (fun n276 ih276 => ?_)
                        intro x11_276 x12_276 u_276 σ_276 τ_276 H locs ls hu_276 h_276 hM_276 hl_276
                        replace h_276 := hI276 n276 x11_276 x12_276 u_276 σ_276 τ_276 h_276
                        refine lv_iload hx hb dL_isTold_276 (ml_at hl_276 7 rfl) ?_
                        refine mr_aload C dL_isTold_278 (ml_at hl_276 4 rfl) ?_
                        refine lv_iconst (v := 1) hx hb dL_isTold_280 (by decide) ?_
                        obtain ⟨j185, ej186, ej186b, h_276⟩ := h_276
                        refine pr_iald C hM_276 (i := 0) rfl (by decide) ej186 ej186b (by decide) dL_isTold_281 ?_
                        refine lv_icmp_ge (tgt := 324) hx hb dL_isTold_282 (by decide) (fun hc187 => ?_) (fun hc187 => ?_)
                        · replace h_276 := h_276.1 hc187
                          refine mr_aload_n C dL_isTold_324 rfl (ml_at hl_276 0 rfl) ?_
                          refine lv_iload hx hb dL_isTold_325 (ml_at hl_276 5 rfl) ?_
                          refine lv_iload hx hb dL_isTold_327 (ml_at hl_276 6 rfl) ?_
                          obtain ⟨hr191, h_276⟩ := h_276
                          obtain ⟨k193, hk193, h_276⟩ := h_276
                          refine pr_wi (Is := [.int x9_177, .int x11_276]) C E hM_276 hr191 hl_276.1.1 cl_L_123 (fun ad => c_L_queuedAt l hfl G ad x9_177 x11_276 _ _ _ h_276) (fun _ _ q => q.1) (n := 3) ⟨by decide, by decide, by decide +kernel⟩ rfl rfl ⟨Nat.le_of_ble_eq_true rfl, Nat.le_of_ble_eq_true rfl⟩ m_c0 (Nat.le_of_ble_eq_true rfl) dL_isTold_329 hk193 (fun x190 σ192 H locs h188 hM189 => ?_)
                          clear h_276 hM_276
                          replace h188 := h188.2
                          refine lv_bipush (v := -71) hx hb dL_isTold_332 (by decide) ?_
                          refine lv_icmp_eq (tgt := 339) hx hb dL_isTold_334 (by decide) (fun hc194 => ?_) (fun hc194 => ?_)
                          · replace h188 := h188.1 hc194
                            refine mr_iinc (v := (x9_177 + 1)) (lv' := [(9, .int (x9_177 + 1)), (0, mV a1 (some 0)), (1, .int y1), (2, mV a2 (some 1)), (3, mV a2 (some 2)), (7, mV a2 (some 0)), (11, .int x11_276), (12, .int x12_276)]) C hl_276 dL_isTold_339 (k := 5) rfl rfl (by decide) rfl (fun ls hl195 => ?_)
                            clear hl_276
                            refine lv_goto (tgt := 177) hx hb dL_isTold_342 (by decide) ?_
                            obtain ⟨k196, hk196, h188⟩ := h188
                            exact ih177 k196 hk196 (x9_177 + 1) (u_276 + k193) σ192 τ_276 _ _ _ hk193 h188 hM189 (ml_sub hl195 [1, 2, 3, 4, 5, 0] rfl)
                          · replace h188 := h188.2 hc194
                            refine lv_iconst (v := 0) hx hb dL_isTold_337 (by decide) ?_
                            exact mr_wi hk193 (pr_zret C hM189 hN hr hlk rfl h188 dL_isTold_338)
                        · replace h_276 := h_276.2 hc187
                          refine mr_aload_n C dL_isTold_285 rfl (ml_at hl_276 3 rfl) ?_
                          refine lv_iload hx hb dL_isTold_286 (ml_at hl_276 7 rfl) ?_
                          obtain ⟨j197, ej198, ej198b, h_276⟩ := h_276
                          refine pr_iald C hM_276 (i := 2) rfl (by decide) ej198 ej198b (by decide) dL_isTold_288 ?_
                          refine lv_bipush (v := 63) hx hb dL_isTold_289 (by decide) ?_
                          refine lv_iand hx hb dL_isTold_291 ?_
                          refine lv_iload hx hb dL_isTold_292 (ml_at hl_276 5 rfl) ?_
                          refine lv_icmp_eq (tgt := 300) hx hb dL_isTold_294 (by decide) (fun hc199 => ?_) (fun hc199 => ?_)
                          · replace h_276 := h_276.1 hc199
                            refine mr_aload_n C dL_isTold_300 rfl (ml_at hl_276 0 rfl) ?_
                            refine lv_iload hx hb dL_isTold_301 (ml_at hl_276 5 rfl) ?_
                            refine lv_iload hx hb dL_isTold_303 (ml_at hl_276 6 rfl) ?_
                            obtain ⟨hr203, h_276⟩ := h_276
                            obtain ⟨k205, hk205, h_276⟩ := h_276
                            refine pr_wi (Is := [.int x9_177, .int x11_276]) C E hM_276 hr203 hl_276.1.1 cl_L_123 (fun ad => c_L_queuedAt l hfl G ad x9_177 x11_276 _ _ _ h_276) (fun _ _ q => q.1) (n := 3) ⟨by decide, by decide, by decide +kernel⟩ rfl rfl ⟨Nat.le_of_ble_eq_true rfl, Nat.le_of_ble_eq_true rfl⟩ m_c0 (Nat.le_of_ble_eq_true rfl) dL_isTold_305 hk205 (fun x202 σ204 H locs h200 hM201 => ?_)
                            clear h_276 hM_276
                            replace h200 := h200.2
                            refine lv_iload hx hb dL_isTold_308 (ml_at hl_276 7 rfl) ?_
                            refine lv_icmp_eq (tgt := 315) hx hb dL_isTold_310 (by decide) (fun hc206 => ?_) (fun hc206 => ?_)
                            · replace h200 := h200.1 hc206
                              refine mr_iinc (v := (x11_276 + 1)) (lv' := [(11, .int (x11_276 + 1)), (0, mV a1 (some 0)), (1, .int y1), (2, mV a2 (some 1)), (3, mV a2 (some 2)), (7, mV a2 (some 0)), (9, .int x9_177), (12, .int x12_276)]) C hl_276 dL_isTold_315 (k := 6) rfl rfl (by decide) rfl (fun ls hl207 => ?_)
                              clear hl_276
                              refine mr_iinc (v := (x12_276 + 1)) (lv' := [(12, .int (x12_276 + 1)), (11, .int (x11_276 + 1)), (0, mV a1 (some 0)), (1, .int y1), (2, mV a2 (some 1)), (3, mV a2 (some 2)), (7, mV a2 (some 0)), (9, .int x9_177)]) C hl207 dL_isTold_318 (k := 7) rfl rfl (by decide) rfl (fun ls hl208 => ?_)
                              clear hl207
                              refine lv_goto (tgt := 276) hx hb dL_isTold_321 (by decide) ?_
                              obtain ⟨k209, hk209, h200⟩ := h200
                              exact ih276 k209 hk209 (x11_276 + 1) (x12_276 + 1) (u_276 + k205) σ204 τ_276 _ _ _ hk205 h200 hM201 (ml_sub hl208 [2, 3, 4, 5, 6, 7, 1, 0] rfl)
                            · replace h200 := h200.2 hc206
                              refine lv_iconst (v := 0) hx hb dL_isTold_313 (by decide) ?_
                              exact mr_wi hk205 (pr_zret C hM201 hN hr hlk rfl h200 dL_isTold_314)
                          · replace h_276 := h_276.2 hc199
                            refine lv_goto (tgt := 318) hx hb dL_isTold_297 (by decide) ?_
                            refine mr_iinc (v := (x12_276 + 1)) (lv' := [(12, .int (x12_276 + 1)), (0, mV a1 (some 0)), (1, .int y1), (2, mV a2 (some 1)), (3, mV a2 (some 2)), (7, mV a2 (some 0)), (9, .int x9_177), (11, .int x11_276)]) C hl_276 dL_isTold_318 (k := 7) rfl rfl (by decide) rfl (fun ls hl210 => ?_)
                            clear hl_276
                            refine lv_goto (tgt := 276) hx hb dL_isTold_321 (by decide) ?_
                            obtain ⟨k211, hk211, h_276⟩ := h_276
                            exact ih276 k211 hk211 x11_276 (x12_276 + 1) u_276 σ_276 τ_276 _ _ _ hu_276 h_276 hM_276 (ml_sub hl210 [1, 2, 3, 4, 5, 6, 7, 0] rfl)
                      exact hL276 nn276 (0 : Int32) (0 : Int32) (u_231 + k177) σ176 τ181 _ _ _ hk177 h178 hM179 (ml_sub hl184 [3, 4, 5, 6, 7, 8, 1, 0] rfl)
                    · replace h178 := h178.2 hc182
                      refine lv_iconst (v := 0) hx hb dL_isTold_268 (by decide) ?_
                      exact mr_wi hk177 (pr_zret C hM179 hN hr hlk rfl h178 dL_isTold_269)
                  · replace h_231 := h_231.2 hc166
                    refine lv_iconst (v := 0) hx hb dL_isTold_234 (by decide) ?_
                    exact mr_wi hu_231 (pr_zret C hM_231 hN hr hlk rfl h_231 dL_isTold_235)
                refine lv_icmp_ge (tgt := 230) hx hb dL_isTold_223 (by decide) (fun hc212 => ?_) (fun hc212 => ?_)
                · replace h156 := h156.1 hc212
                  refine lv_iconst (v := 0) hx hb dL_isTold_230 (by decide) ?_
                  exact hj231 (0 : Int32) ((u_177 + k152) + k161) σ160 τ_177 _ _ _ hk161 h156 hM157 (ml_sub hl_177 [0, 1, 2, 3, 4, 5] rfl)
                · replace h156 := h156.2 hc212
                  refine lv_iconst (v := 1) hx hb dL_isTold_226 (by decide) ?_
                  refine lv_goto (tgt := 231) hx hb dL_isTold_227 (by decide) ?_
                  exact hj231 (1 : Int32) ((u_177 + k152) + k161) σ160 τ_177 _ _ _ hk161 h156 hM157 (ml_sub hl_177 [0, 1, 2, 3, 4, 5] rfl)
          exact hL177 nn177 (0 : Int32) u_144 σ_144 τ_144 _ _ _ hu_144 h_144 hM_144 (ml_sub hl11 [2, 3, 4, 5, 7, 0] rfl)
        · replace h_144 := h_144.2 hc10
          refine mr_aload_n C dL_isTold_153 rfl (ml_at hl7 1 rfl) ?_
          refine lv_iload hx hb dL_isTold_154 (ml_at hl7 0 rfl) ?_
          obtain ⟨hr216, h_144⟩ := h_144
          obtain ⟨k218, hk218, h_144⟩ := h_144
          refine pr_xi (Is := [.int xk0_144]) C E hM_144 hr216 hl7.1.1 cw_L_109 (fun ad => c_X2_below l hfl G ad xk0_144 _ _ _ _ h_144) (fun _ _ q => q.1) (n := 1) ⟨rfl, by decide, by decide, by decide +kernel⟩ rfl rfl ⟨Nat.le_of_ble_eq_true rfl, Nat.le_of_ble_eq_true rfl⟩ m_c0 (Nat.le_of_ble_eq_true rfl) dL_isTold_156 hk218 (fun x215 σ217 H locs h213 hM214 => ?_)
          clear h_144 hM_144
          replace h213 := h213.2
          refine mr_aload_n C dL_isTold_159 rfl (ml_at hl7 4 rfl) ?_
          refine mr_aload C dL_isTold_160 (ml_at hl7 5 rfl) ?_
          refine mr_aload C dL_isTold_162 (ml_at hl7 6 rfl) ?_
          refine lv_iload hx hb dL_isTold_164 (ml_at hl7 0 rfl) ?_
          refine pr_li (As := fun ad => [mV ad (some 2), mV ad (some 4), mV ad (some 0), .int xk0_144]) C hM214 (fun ad had => by simp only [mV_some, had 2 (by decide), had 4 (by decide), had 0 (by decide)]) hl7.1.1 cw_L_112 (fun ad => c_L_below l G ad xk0_144 _ _ h213) (fun _ _ q => q.1) (n := 4) ⟨rfl, by decide, by decide, by decide +kernel⟩ rfl rfl ⟨Nat.le_of_ble_eq_true rfl, Nat.le_of_ble_eq_true rfl⟩ (m_cI m_c0) (Nat.le_of_ble_eq_true rfl) dL_isTold_166 ⟨hk218, Nat.mul_le_mul_left 18 hk218⟩ (fun x221 τ222 H locs h219 hM220 => ?_)
          clear h213 hM214
          replace h219 := h219.2
          refine lv_icmp_eq (tgt := 174) hx hb dL_isTold_169 (by decide) (fun hc223 => ?_) (fun hc223 => ?_)
          · replace h219 := h219.1 hc223
            refine lv_iconst (v := 0) hx hb dL_isTold_174 (by decide) ?_
            refine mr_istore (lv' := [(9, .int (0 : Int32)), (8, .int xk0_144), (0, mV a1 (some 0)), (1, .int y1), (2, mV a2 (some 1)), (3, mV a2 (some 2)), (5, mV a2 (some 4)), (7, mV a2 (some 0))]) C hl7 dL_isTold_175 (by decide) rfl (fun ls hl224 => ?_)
            clear hl7
            obtain ⟨I177, hI177, nn177, h219⟩ := h219
            have hL177 : ∀ (n177 : Nat) (x9_177 : Int32) (u_177 : Nat) (σ_177 τ_177 : mS) (H : Heap) (locs : List Loc) (ls : Array Slot), u_177 ≤ b → I177 n177 x9_177 u_177 σ_177 τ_177 → pM G a1 a2 (mN σ0) s σ_177 τ_177 H locs → ml_has ls 13 [(0, mV a1 (some 0)), (1, .int y1), (2, mV a2 (some 1)), (3, mV a2 (some 2)), (7, mV a2 (some 0)), (9, .int x9_177)] → W p l e (mRb 9 181 b) s m ([mV a1 (some 0), .int y1, mV a2 (some 1), mV a2 (some 2), mV a2 (some 3), mV a2 (some 4), mV a2 (some 6), mV a2 (some 0)] : List Value).toArray below meth c H locs u_177 (18 * u_177) (MQ below (va_Qi (fun r (q : mS × mS) => Q r q.1 q.2 ∧ narrow .boolean (.int r) = .int r) (pPost G N1 a1 a2 (mN σ0)) (pA a1 a2 (mN σ0) N1)) ([mV a1 (some 0), .int y1, mV a2 (some 1), mV a2 (some 2), mV a2 (some 3), mV a2 (some 4), mV a2 (some 6), mV a2 (some 0)] : List Value).toArray s b (18 * b) (pA a1 a2 (mN σ0) N1)) (F0 m 177 ls []) := by
              refine m_loop (fun n177 ih177 => ?_)
              intro x9_177 u_177 σ_177 τ_177 H locs ls hu_177 h_177 hM_177 hl_177
              replace h_177 := hI177 n177 x9_177 u_177 σ_177 τ_177 h_177
              refine lv_iload hx hb dL_isTold_177 (ml_at hl_177 5 rfl) ?_
              refine lv_bipush (v := 6) hx hb dL_isTold_179 (by decide) ?_
              refine lv_icmp_ge (tgt := 345) hx hb dL_isTold_181 (by decide) (fun hc225 => ?_) (fun hc225 => ?_)
              · replace h_177 := h_177.1 hc225
                refine mr_aload_n C dL_isTold_345 rfl (ml_at hl_177 0 rfl) ?_
                obtain ⟨hr229, h_177⟩ := h_177
                refine pr_vi (Is := []) C E hM_177 hr229 hl_177.1.1 cw_L_125 (fun ad => c_X2_time l G ad  _ _ h_177) (fun _ _ q => q.1) (n := 0) ⟨rfl, by decide, by decide, by decide +kernel⟩ rfl rfl ⟨Nat.le_of_ble_eq_true rfl, Nat.le_of_ble_eq_true rfl⟩ m_c0 (Nat.le_of_ble_eq_true rfl) dL_isTold_346 ⟨hu_177, Nat.mul_le_mul_left 18 hu_177⟩ (fun x228 σ230 H locs h226 hM227 => ?_)
                clear h_177 hM_177
                replace h226 := h226.2
                refine mr_aload C dL_isTold_349 (ml_at hl_177 4 rfl) ?_
                refine lv_iconst (v := 0) hx hb dL_isTold_351 (by decide) ?_
                obtain ⟨j231, ej232, ej232b, h226⟩ := h226
                refine pr_iald C hM227 (i := 0) rfl (by decide) ej232 ej232b (by decide) dL_isTold_352 ?_
                refine lv_icmp_ne (tgt := 556) hx hb dL_isTold_353 (by decide) (fun hc233 => ?_) (fun hc233 => ?_)
                · replace h226 := h226.1 hc233
                  refine lv_iconst (v := 0) hx hb dL_isTold_556 (by decide) ?_
                  exact mr_wi hu_177 (pr_zret C hM227 hN hr hlk rfl h226 dL_isTold_557)
                · replace h226 := h226.2 hc233
                  refine mr_aload_n C dL_isTold_356 rfl (ml_at hl_177 0 rfl) ?_
                  obtain ⟨hr237, h226⟩ := h226
                  refine pr_vi (Is := []) C E hM227 hr237 hl_177.1.1 cw_L_129 (fun ad => c_X2_calls l G ad  _ _ h226) (fun _ _ q => q.1) (n := 0) ⟨rfl, by decide, by decide, by decide +kernel⟩ rfl rfl ⟨Nat.le_of_ble_eq_true rfl, Nat.le_of_ble_eq_true rfl⟩ m_c0 (Nat.le_of_ble_eq_true rfl) dL_isTold_357 ⟨hu_177, Nat.mul_le_mul_left 18 hu_177⟩ (fun x236 σ238 H locs h234 hM235 => ?_)
                  clear h226 hM227
                  replace h234 := h234.2
                  refine mr_aload C dL_isTold_360 (ml_at hl_177 4 rfl) ?_
                  refine lv_iconst (v := 1) hx hb dL_isTold_362 (by decide) ?_
                  obtain ⟨j239, ej240, ej240b, h234⟩ := h234
                  refine pr_iald C hM235 (i := 0) rfl (by decide) ej240 ej240b (by decide) dL_isTold_363 ?_
                  refine lv_icmp_ne (tgt := 556) hx hb dL_isTold_364 (by decide) (fun hc241 => ?_) (fun hc241 => ?_)
                  · replace h234 := h234.1 hc241
                    refine lv_iconst (v := 0) hx hb dL_isTold_556 (by decide) ?_
                    exact mr_wi hu_177 (pr_zret C hM235 hN hr hlk rfl h234 dL_isTold_557)
                  · replace h234 := h234.2 hc241
                    refine mr_aload_n C dL_isTold_367 rfl (ml_at hl_177 0 rfl) ?_
                    refine mr_aload C dL_isTold_368 (ml_at hl_177 4 rfl) ?_
                    refine lv_iconst (v := 1) hx hb dL_isTold_370 (by decide) ?_
                    obtain ⟨j242, ej243, ej243b, h234⟩ := h234
                    refine pr_iald C hM235 (i := 0) rfl (by decide) ej243 ej243b (by decide) dL_isTold_371 ?_
                    obtain ⟨hr247, h234⟩ := h234
                    obtain ⟨k249, hk249, h234⟩ := h234
                    refine pr_wi (Is := [.int (mI τ_177 0 j242)]) C E hM235 hr247 hl_177.1.1 cl_L_95 (fun ad => c_L_state l hfl G ad (mI τ_177 0 j242) _ _ _ h234) (fun _ _ q => q.1) (n := 2) ⟨by decide, by decide, by decide +kernel⟩ rfl rfl ⟨Nat.le_of_ble_eq_true rfl, Nat.le_of_ble_eq_true rfl⟩ m_c0 (Nat.le_of_ble_eq_true rfl) dL_isTold_372 hk249 (fun x246 σ248 H locs h244 hM245 => ?_)
                    clear h234 hM235
                    replace h244 := h244.2
                    refine lv_bipush (v := -71) hx hb dL_isTold_375 (by decide) ?_
                    refine lv_icmp_ne (tgt := 556) hx hb dL_isTold_377 (by decide) (fun hc250 => ?_) (fun hc250 => ?_)
                    · replace h244 := h244.1 hc250
                      refine lv_iconst (v := 0) hx hb dL_isTold_556 (by decide) ?_
                      exact mr_wi hk249 (pr_zret C hM245 hN hr hlk rfl h244 dL_isTold_557)
                    · replace h244 := h244.2 hc250
                      refine mr_aload_n C dL_isTold_380 rfl (ml_at hl_177 0 rfl) ?_
                      refine lv_iconst (v := -1) hx hb dL_isTold_381 (by decide) ?_
                      obtain ⟨hr254, h244⟩ := h244
                      obtain ⟨k256, hk256, h244⟩ := h244
                      refine pr_wi (Is := [.int (-1 : Int32)]) C E hM245 hr254 hl_177.1.1 cl_L_95 (fun ad => c_L_state l hfl G ad (-1 : Int32) _ _ _ h244) (fun _ _ q => q.1) (n := 2) ⟨by decide, by decide, by decide +kernel⟩ rfl rfl ⟨Nat.le_of_ble_eq_true rfl, Nat.le_of_ble_eq_true rfl⟩ m_c0 (Nat.le_of_ble_eq_true rfl) dL_isTold_382 hk256 (fun x253 σ255 H locs h251 hM252 => ?_)
                      clear h244 hM245
                      replace h251 := h251.2
                      refine lv_bipush (v := -71) hx hb dL_isTold_385 (by decide) ?_
                      refine lv_icmp_ne (tgt := 556) hx hb dL_isTold_387 (by decide) (fun hc257 => ?_) (fun hc257 => ?_)
                      · replace h251 := h251.1 hc257
                        refine lv_iconst (v := 0) hx hb dL_isTold_556 (by decide) ?_
                        exact mr_wi hk256 (pr_zret C hM252 hN hr hlk rfl h251 dL_isTold_557)
                      · replace h251 := h251.2 hc257
                        refine mr_aload_n C dL_isTold_390 rfl (ml_at hl_177 0 rfl) ?_
                        refine mr_aload C dL_isTold_391 (ml_at hl_177 4 rfl) ?_
                        refine lv_iconst (v := 1) hx hb dL_isTold_393 (by decide) ?_
                        obtain ⟨j258, ej259, ej259b, h251⟩ := h251
                        refine pr_iald C hM252 (i := 0) rfl (by decide) ej259 ej259b (by decide) dL_isTold_394 ?_
                        obtain ⟨hr263, h251⟩ := h251
                        obtain ⟨k265, hk265, h251⟩ := h251
                        refine pr_wi (Is := [.int (mI τ_177 0 j258)]) C E hM252 hr263 hl_177.1.1 cl_L_107 (fun ad => c_L_place l hfl G ad (mI τ_177 0 j258) _ _ _ h251) (fun _ _ q => q.1) (n := 2) ⟨by decide, by decide, by decide +kernel⟩ rfl rfl ⟨Nat.le_of_ble_eq_true rfl, Nat.le_of_ble_eq_true rfl⟩ m_c0 (Nat.le_of_ble_eq_true rfl) dL_isTold_395 hk265 (fun x262 σ264 H locs h260 hM261 => ?_)
                        clear h251 hM252
                        replace h260 := h260.2
                        refine lv_bipush (v := -71) hx hb dL_isTold_398 (by decide) ?_
                        refine lv_icmp_ne (tgt := 556) hx hb dL_isTold_400 (by decide) (fun hc266 => ?_) (fun hc266 => ?_)
                        · replace h260 := h260.1 hc266
                          refine lv_iconst (v := 0) hx hb dL_isTold_556 (by decide) ?_
                          exact mr_wi hk265 (pr_zret C hM261 hN hr hlk rfl h260 dL_isTold_557)
                        · replace h260 := h260.2 hc266
                          refine mr_aload_n C dL_isTold_403 rfl (ml_at hl_177 0 rfl) ?_
                          refine lv_bipush (v := 6) hx hb dL_isTold_404 (by decide) ?_
                          refine lv_iconst (v := 0) hx hb dL_isTold_406 (by decide) ?_
                          obtain ⟨hr270, h260⟩ := h260
                          obtain ⟨k272, hk272, h260⟩ := h260
                          refine pr_wi (Is := [.int (6 : Int32), .int (0 : Int32)]) C E hM261 hr270 hl_177.1.1 cl_L_123 (fun ad => c_L_queuedAt l hfl G ad (6 : Int32) (0 : Int32) _ _ _ h260) (fun _ _ q => q.1) (n := 3) ⟨by decide, by decide, by decide +kernel⟩ rfl rfl ⟨Nat.le_of_ble_eq_true rfl, Nat.le_of_ble_eq_true rfl⟩ m_c0 (Nat.le_of_ble_eq_true rfl) dL_isTold_407 hk272 (fun x269 σ271 H locs h267 hM268 => ?_)
                          clear h260 hM261
                          replace h267 := h267.2
                          refine lv_bipush (v := -71) hx hb dL_isTold_410 (by decide) ?_
                          refine lv_icmp_ne (tgt := 556) hx hb dL_isTold_412 (by decide) (fun hc273 => ?_) (fun hc273 => ?_)
                          · replace h267 := h267.1 hc273
                            refine lv_iconst (v := 0) hx hb dL_isTold_556 (by decide) ?_
                            exact mr_wi hk272 (pr_zret C hM268 hN hr hlk rfl h267 dL_isTold_557)
                          · replace h267 := h267.2 hc273
                            refine mr_aload_n C dL_isTold_415 rfl (ml_at hl_177 0 rfl) ?_
                            refine lv_iconst (v := 0) hx hb dL_isTold_416 (by decide) ?_
                            refine lv_iconst (v := -1) hx hb dL_isTold_417 (by decide) ?_
                            obtain ⟨hr277, h267⟩ := h267
                            obtain ⟨k279, hk279, h267⟩ := h267
                            refine pr_wi (Is := [.int (0 : Int32), .int (-1 : Int32)]) C E hM268 hr277 hl_177.1.1 cl_L_123 (fun ad => c_L_queuedAt l hfl G ad (0 : Int32) (-1 : Int32) _ _ _ h267) (fun _ _ q => q.1) (n := 3) ⟨by decide, by decide, by decide +kernel⟩ rfl rfl ⟨Nat.le_of_ble_eq_true rfl, Nat.le_of_ble_eq_true rfl⟩ m_c0 (Nat.le_of_ble_eq_true rfl) dL_isTold_418 hk279 (fun x276 σ278 H locs h274 hM275 => ?_)
                            clear h267 hM268
                            replace h274 := h274.2
                            refine lv_bipush (v := -71) hx hb dL_isTold_421 (by decide) ?_
                            refine lv_icmp_ne (tgt := 556) hx hb dL_isTold_423 (by decide) (fun hc280 => ?_) (fun hc280 => ?_)
                            · replace h274 := h274.1 hc280
                              refine lv_iconst (v := 0) hx hb dL_isTold_556 (by decide) ?_
                              exact mr_wi hk279 (pr_zret C hM275 hN hr hlk rfl h274 dL_isTold_557)
                            · replace h274 := h274.2 hc280
                              refine mr_aload_n C dL_isTold_426 rfl (ml_at hl_177 0 rfl) ?_
                              refine lv_bipush (v := 6) hx hb dL_isTold_427 (by decide) ?_
                              refine lv_bipush (v := 8) hx hb dL_isTold_429 (by decide) ?_
                              obtain ⟨hr284, h274⟩ := h274
                              obtain ⟨k286, hk286, h274⟩ := h274
                              refine pr_wi (Is := [.int (6 : Int32), .int (8 : Int32)]) C E hM275 hr284 hl_177.1.1 cl_L_121 (fun ad => c_L_count l hfl G ad (6 : Int32) (8 : Int32) _ _ _ h274) (fun _ _ q => q.1) (n := 3) ⟨by decide, by decide, by decide +kernel⟩ rfl rfl ⟨Nat.le_of_ble_eq_true rfl, Nat.le_of_ble_eq_true rfl⟩ m_c0 (Nat.le_of_ble_eq_true rfl) dL_isTold_431 hk286 (fun x283 σ285 H locs h281 hM282 => ?_)
                              clear h274 hM275
                              replace h281 := h281.2
                              refine lv_bipush (v := -71) hx hb dL_isTold_434 (by decide) ?_
                              refine lv_icmp_ne (tgt := 556) hx hb dL_isTold_436 (by decide) (fun hc287 => ?_) (fun hc287 => ?_)
                              · replace h281 := h281.1 hc287
                                refine lv_iconst (v := 0) hx hb dL_isTold_556 (by decide) ?_
                                exact mr_wi hk286 (pr_zret C hM282 hN hr hlk rfl h281 dL_isTold_557)
                              · replace h281 := h281.2 hc287
                                refine mr_aload_n C dL_isTold_439 rfl (ml_at hl_177 0 rfl) ?_
                                refine lv_iconst (v := 0) hx hb dL_isTold_440 (by decide) ?_
                                refine lv_bipush (v := 8) hx hb dL_isTold_441 (by decide) ?_
                                obtain ⟨hr291, h281⟩ := h281
                                obtain ⟨k293, hk293, h281⟩ := h281
                                refine pr_wi (Is := [.int (0 : Int32), .int (8 : Int32)]) C E hM282 hr291 hl_177.1.1 cl_L_121 (fun ad => c_L_count l hfl G ad (0 : Int32) (8 : Int32) _ _ _ h281) (fun _ _ q => q.1) (n := 3) ⟨by decide, by decide, by decide +kernel⟩ rfl rfl ⟨Nat.le_of_ble_eq_true rfl, Nat.le_of_ble_eq_true rfl⟩ m_c0 (Nat.le_of_ble_eq_true rfl) dL_isTold_443 hk293 (fun x290 σ292 H locs h288 hM289 => ?_)
                                clear h281 hM282
                                replace h288 := h288.2
                                refine lv_bipush (v := -72) hx hb dL_isTold_446 (by decide) ?_
                                refine lv_icmp_ne (tgt := 556) hx hb dL_isTold_448 (by decide) (fun hc294 => ?_) (fun hc294 => ?_)
                                · replace h288 := h288.1 hc294
                                  refine lv_iconst (v := 0) hx hb dL_isTold_556 (by decide) ?_
                                  exact mr_wi hk293 (pr_zret C hM289 hN hr hlk rfl h288 dL_isTold_557)
                                · replace h288 := h288.2 hc294
                                  refine mr_aload_n C dL_isTold_451 rfl (ml_at hl_177 0 rfl) ?_
                                  refine lv_iconst (v := 0) hx hb dL_isTold_452 (by decide) ?_
                                  refine lv_iconst (v := -1) hx hb dL_isTold_453 (by decide) ?_
                                  obtain ⟨hr298, h288⟩ := h288
                                  obtain ⟨k300, hk300, h288⟩ := h288
                                  refine pr_wi (Is := [.int (0 : Int32), .int (-1 : Int32)]) C E hM289 hr298 hl_177.1.1 cl_L_121 (fun ad => c_L_count l hfl G ad (0 : Int32) (-1 : Int32) _ _ _ h288) (fun _ _ q => q.1) (n := 3) ⟨by decide, by decide, by decide +kernel⟩ rfl rfl ⟨Nat.le_of_ble_eq_true rfl, Nat.le_of_ble_eq_true rfl⟩ m_c0 (Nat.le_of_ble_eq_true rfl) dL_isTold_454 hk300 (fun x297 σ299 H locs h295 hM296 => ?_)
                                  clear h288 hM289
                                  replace h295 := h295.2
                                  refine lv_bipush (v := -72) hx hb dL_isTold_457 (by decide) ?_
                                  refine lv_icmp_ne (tgt := 556) hx hb dL_isTold_459 (by decide) (fun hc301 => ?_) (fun hc301 => ?_)
                                  · replace h295 := h295.1 hc301
                                    refine lv_iconst (v := 0) hx hb dL_isTold_556 (by decide) ?_
                                    exact mr_wi hk300 (pr_zret C hM296 hN hr hlk rfl h295 dL_isTold_557)
                                  · replace h295 := h295.2 hc301
                                    refine mr_aload_n C dL_isTold_462 rfl (ml_at hl_177 0 rfl) ?_
                                    refine lv_bipush (v := 6) hx hb dL_isTold_463 (by decide) ?_
                                    obtain ⟨hr305, h295⟩ := h295
                                    obtain ⟨k307, hk307, h295⟩ := h295
                                    refine pr_wi (Is := [.int (6 : Int32)]) C E hM296 hr305 hl_177.1.1 cl_L_115 (fun ad => c_L_tokens l hfl G ad (6 : Int32) _ _ _ h295) (fun _ _ q => q.1) (n := 2) ⟨by decide, by decide, by decide +kernel⟩ rfl rfl ⟨Nat.le_of_ble_eq_true rfl, Nat.le_of_ble_eq_true rfl⟩ m_c0 (Nat.le_of_ble_eq_true rfl) dL_isTold_465 hk307 (fun x304 σ306 H locs h302 hM303 => ?_)
                                    clear h295 hM296
                                    replace h302 := h302.2
                                    refine lv_bipush (v := -71) hx hb dL_isTold_468 (by decide) ?_
                                    refine lv_icmp_ne (tgt := 556) hx hb dL_isTold_470 (by decide) (fun hc308 => ?_) (fun hc308 => ?_)
                                    · replace h302 := h302.1 hc308
                                      refine lv_iconst (v := 0) hx hb dL_isTold_556 (by decide) ?_
                                      exact mr_wi hk307 (pr_zret C hM303 hN hr hlk rfl h302 dL_isTold_557)
                                    · replace h302 := h302.2 hc308
                                      refine mr_aload_n C dL_isTold_473 rfl (ml_at hl_177 0 rfl) ?_
                                      refine mr_aload C dL_isTold_474 (ml_at hl_177 4 rfl) ?_
                                      refine lv_iconst (v := 1) hx hb dL_isTold_476 (by decide) ?_
                                      obtain ⟨j309, ej310, ej310b, h302⟩ := h302
                                      refine pr_iald C hM303 (i := 0) rfl (by decide) ej310 ej310b (by decide) dL_isTold_477 ?_
                                      obtain ⟨hr314, h302⟩ := h302
                                      obtain ⟨k316, hk316, h302⟩ := h302
                                      refine pr_wi (Is := [.int (mI τ_177 0 j309)]) C E hM303 hr314 hl_177.1.1 cl_L_132 (fun ad => c_L_cancel l hfl G ad (mI τ_177 0 j309) _ _ _ h302) (fun _ _ q => q.1) (n := 2) ⟨by decide, by decide, by decide +kernel⟩ rfl rfl ⟨Nat.le_of_ble_eq_true rfl, Nat.le_of_ble_eq_true rfl⟩ m_c0 (Nat.le_of_ble_eq_true rfl) dL_isTold_478 hk316 (fun x313 σ315 H locs h311 hM312 => ?_)
                                      clear h302 hM303
                                      replace h311 := h311.2
                                      refine lv_bipush (v := -71) hx hb dL_isTold_481 (by decide) ?_
                                      refine lv_icmp_ne (tgt := 556) hx hb dL_isTold_483 (by decide) (fun hc317 => ?_) (fun hc317 => ?_)
                                      · replace h311 := h311.1 hc317
                                        refine lv_iconst (v := 0) hx hb dL_isTold_556 (by decide) ?_
                                        exact mr_wi hk316 (pr_zret C hM312 hN hr hlk rfl h311 dL_isTold_557)
                                      · replace h311 := h311.2 hc317
                                        refine mr_aload_n C dL_isTold_486 rfl (ml_at hl_177 0 rfl) ?_
                                        refine lv_iconst (v := -1) hx hb dL_isTold_487 (by decide) ?_
                                        obtain ⟨hr321, h311⟩ := h311
                                        obtain ⟨k323, hk323, h311⟩ := h311
                                        refine pr_wi (Is := [.int (-1 : Int32)]) C E hM312 hr321 hl_177.1.1 cl_L_132 (fun ad => c_L_cancel l hfl G ad (-1 : Int32) _ _ _ h311) (fun _ _ q => q.1) (n := 2) ⟨by decide, by decide, by decide +kernel⟩ rfl rfl ⟨Nat.le_of_ble_eq_true rfl, Nat.le_of_ble_eq_true rfl⟩ m_c0 (Nat.le_of_ble_eq_true rfl) dL_isTold_488 hk323 (fun x320 σ322 H locs h318 hM319 => ?_)
                                        clear h311 hM312
                                        replace h318 := h318.2
                                        refine lv_bipush (v := -71) hx hb dL_isTold_491 (by decide) ?_
                                        refine lv_icmp_ne (tgt := 556) hx hb dL_isTold_493 (by decide) (fun hc324 => ?_) (fun hc324 => ?_)
                                        · replace h318 := h318.1 hc324
                                          refine lv_iconst (v := 0) hx hb dL_isTold_556 (by decide) ?_
                                          exact mr_wi hk323 (pr_zret C hM319 hN hr hlk rfl h318 dL_isTold_557)
                                        · replace h318 := h318.2 hc324
                                          refine mr_aload_n C dL_isTold_496 rfl (ml_at hl_177 0 rfl) ?_
                                          refine lv_iconst (v := 0) hx hb dL_isTold_497 (by decide) ?_
                                          obtain ⟨hr328, h318⟩ := h318
                                          obtain ⟨k330, hk330, h318⟩ := h318
                                          refine pr_wi (Is := [.int (0 : Int32)]) C E hM319 hr328 hl_177.1.1 cl_L_134 (fun ad => c_L_pass l hfl G ad (0 : Int32) _ _ _ h318) (fun _ _ q => q.1) (n := 2) ⟨by decide, by decide, by decide +kernel⟩ rfl rfl ⟨Nat.le_of_ble_eq_true rfl, Nat.le_of_ble_eq_true rfl⟩ m_c0 (Nat.le_of_ble_eq_true rfl) dL_isTold_498 hk330 (fun x327 σ329 H locs h325 hM326 => ?_)
                                          clear h318 hM319
                                          replace h325 := h325.2
                                          refine lv_bipush (v := -72) hx hb dL_isTold_501 (by decide) ?_
                                          refine lv_icmp_ne (tgt := 556) hx hb dL_isTold_503 (by decide) (fun hc331 => ?_) (fun hc331 => ?_)
                                          · replace h325 := h325.1 hc331
                                            refine lv_iconst (v := 0) hx hb dL_isTold_556 (by decide) ?_
                                            exact mr_wi hk330 (pr_zret C hM326 hN hr hlk rfl h325 dL_isTold_557)
                                          · replace h325 := h325.2 hc331
                                            refine mr_aload_n C dL_isTold_506 rfl (ml_at hl_177 0 rfl) ?_
                                            refine lv_bipush (v := 101) hx hb dL_isTold_507 (by decide) ?_
                                            obtain ⟨hr335, h325⟩ := h325
                                            obtain ⟨k337, hk337, h325⟩ := h325
                                            refine pr_wi (Is := [.int (101 : Int32)]) C E hM326 hr335 hl_177.1.1 cl_L_134 (fun ad => c_L_pass l hfl G ad (101 : Int32) _ _ _ h325) (fun _ _ q => q.1) (n := 2) ⟨by decide, by decide, by decide +kernel⟩ rfl rfl ⟨Nat.le_of_ble_eq_true rfl, Nat.le_of_ble_eq_true rfl⟩ m_c0 (Nat.le_of_ble_eq_true rfl) dL_isTold_509 hk337 (fun x334 σ336 H locs h332 hM333 => ?_)
                                            clear h325 hM326
                                            replace h332 := h332.2
                                            refine lv_bipush (v := -72) hx hb dL_isTold_512 (by decide) ?_
                                            refine lv_icmp_ne (tgt := 556) hx hb dL_isTold_514 (by decide) (fun hc338 => ?_) (fun hc338 => ?_)
                                            · replace h332 := h332.1 hc338
                                              refine lv_iconst (v := 0) hx hb dL_isTold_556 (by decide) ?_
                                              exact mr_wi hk337 (pr_zret C hM333 hN hr hlk rfl h332 dL_isTold_557)
                                            · replace h332 := h332.2 hc338
                                              refine mr_aload_n C dL_isTold_517 rfl (ml_at hl_177 0 rfl) ?_
                                              refine lv_bipush (v := 6) hx hb dL_isTold_518 (by decide) ?_
                                              refine lv_iconst (v := 0) hx hb dL_isTold_520 (by decide) ?_
                                              obtain ⟨hr342, h332⟩ := h332
                                              obtain ⟨k344, hk344, h332⟩ := h332
                                              refine pr_wi (Is := [.int (6 : Int32), .int (0 : Int32)]) C E hM333 hr342 hl_177.1.1 cl_L_136 (fun ad => c_L_call l hfl G ad (6 : Int32) (0 : Int32) _ _ _ h332) (fun _ _ q => q.1) (n := 3) ⟨by decide, by decide, by decide +kernel⟩ rfl rfl ⟨Nat.le_of_ble_eq_true rfl, Nat.le_of_ble_eq_true rfl⟩ m_c0 (Nat.le_of_ble_eq_true rfl) dL_isTold_521 hk344 (fun x341 σ343 H locs h339 hM340 => ?_)
                                              clear h332 hM333
                                              replace h339 := h339.2
                                              refine lv_bipush (v := -71) hx hb dL_isTold_524 (by decide) ?_
                                              refine lv_icmp_ne (tgt := 556) hx hb dL_isTold_526 (by decide) (fun hc345 => ?_) (fun hc345 => ?_)
                                              · replace h339 := h339.1 hc345
                                                refine lv_iconst (v := 0) hx hb dL_isTold_556 (by decide) ?_
                                                exact mr_wi hk344 (pr_zret C hM340 hN hr hlk rfl h339 dL_isTold_557)
                                              · replace h339 := h339.2 hc345
                                                refine mr_aload_n C dL_isTold_529 rfl (ml_at hl_177 0 rfl) ?_
                                                refine lv_iconst (v := 0) hx hb dL_isTold_530 (by decide) ?_
                                                refine lv_iconst (v := 0) hx hb dL_isTold_531 (by decide) ?_
                                                obtain ⟨hr349, h339⟩ := h339
                                                obtain ⟨k351, hk351, h339⟩ := h339
                                                refine pr_wi (Is := [.int (0 : Int32), .int (0 : Int32)]) C E hM340 hr349 hl_177.1.1 cl_L_136 (fun ad => c_L_call l hfl G ad (0 : Int32) (0 : Int32) _ _ _ h339) (fun _ _ q => q.1) (n := 3) ⟨by decide, by decide, by decide +kernel⟩ rfl rfl ⟨Nat.le_of_ble_eq_true rfl, Nat.le_of_ble_eq_true rfl⟩ m_c0 (Nat.le_of_ble_eq_true rfl) dL_isTold_532 hk351 (fun x348 σ350 H locs h346 hM347 => ?_)
                                                clear h339 hM340
                                                replace h346 := h346.2
                                                refine lv_bipush (v := -72) hx hb dL_isTold_535 (by decide) ?_
                                                refine lv_icmp_ne (tgt := 556) hx hb dL_isTold_537 (by decide) (fun hc352 => ?_) (fun hc352 => ?_)
                                                · replace h346 := h346.1 hc352
                                                  refine lv_iconst (v := 0) hx hb dL_isTold_556 (by decide) ?_
                                                  exact mr_wi hk351 (pr_zret C hM347 hN hr hlk rfl h346 dL_isTold_557)
                                                · replace h346 := h346.2 hc352
                                                  refine mr_aload_n C dL_isTold_540 rfl (ml_at hl_177 0 rfl) ?_
                                                  refine lv_iconst (v := 0) hx hb dL_isTold_541 (by decide) ?_
                                                  refine lv_bipush (v := 101) hx hb dL_isTold_542 (by decide) ?_
                                                  obtain ⟨hr356, h346⟩ := h346
                                                  obtain ⟨k358, hk358, h346⟩ := h346
                                                  refine pr_wi (Is := [.int (0 : Int32), .int (101 : Int32)]) C E hM347 hr356 hl_177.1.1 cl_L_136 (fun ad => c_L_call l hfl G ad (0 : Int32) (101 : Int32) _ _ _ h346) (fun _ _ q => q.1) (n := 3) ⟨by decide, by decide, by decide +kernel⟩ rfl rfl ⟨Nat.le_of_ble_eq_true rfl, Nat.le_of_ble_eq_true rfl⟩ m_c0 (Nat.le_of_ble_eq_true rfl) dL_isTold_544 hk358 (fun x355 σ357 H locs h353 hM354 => ?_)
                                                  clear h346 hM347
                                                  replace h353 := h353.2
                                                  refine lv_bipush (v := -72) hx hb dL_isTold_547 (by decide) ?_
                                                  refine lv_icmp_ne (tgt := 556) hx hb dL_isTold_549 (by decide) (fun hc359 => ?_) (fun hc359 => ?_)
                                                  · replace h353 := h353.1 hc359
                                                    refine lv_iconst (v := 0) hx hb dL_isTold_556 (by decide) ?_
                                                    exact mr_wi hk358 (pr_zret C hM354 hN hr hlk rfl h353 dL_isTold_557)
                                                  · replace h353 := h353.2 hc359
                                                    refine lv_iconst (v := 1) hx hb dL_isTold_552 (by decide) ?_
                                                    refine lv_goto (tgt := 557) hx hb dL_isTold_553 (by decide) ?_
                                                    exact mr_wi hk358 (pr_zret C hM354 hN hr hlk rfl h353 dL_isTold_557)
              · replace h_177 := h_177.2 hc225
                refine mr_aload_n C dL_isTold_184 rfl (ml_at hl_177 0 rfl) ?_
                refine lv_iload hx hb dL_isTold_185 (ml_at hl_177 5 rfl) ?_
                obtain ⟨hr363, h_177⟩ := h_177
                obtain ⟨k365, hk365, h_177⟩ := h_177
                refine pr_wi (Is := [.int x9_177]) C E hM_177 hr363 hl_177.1.1 cl_L_115 (fun ad => c_L_tokens l hfl G ad x9_177 _ _ _ h_177) (fun _ _ q => q.1) (n := 2) ⟨by decide, by decide, by decide +kernel⟩ rfl rfl ⟨Nat.le_of_ble_eq_true rfl, Nat.le_of_ble_eq_true rfl⟩ m_c0 (Nat.le_of_ble_eq_true rfl) dL_isTold_187 hk365 (fun x362 σ364 H locs h360 hM361 => ?_)
                clear h_177 hM_177
                replace h360 := h360.2
                refine mr_aload_n C dL_isTold_190 rfl (ml_at hl_177 2 rfl) ?_
                refine lv_bipush (v := 10) hx hb dL_isTold_191 (by decide) ?_
                refine lv_iload hx hb dL_isTold_193 (ml_at hl_177 5 rfl) ?_
                refine lv_imul hx hb dL_isTold_195 ?_
                refine lv_bipush (v := 7) hx hb dL_isTold_196 (by decide) ?_
                refine lv_iadd hx hb dL_isTold_198 ?_
                obtain ⟨j366, ej367, ej367b, h360⟩ := h360
                refine pr_iald C hM361 (i := 1) rfl (by decide) ej367 ej367b (by decide) dL_isTold_199 ?_
                refine lv_icmp_ne (tgt := 234) hx hb dL_isTold_200 (by decide) (fun hc368 => ?_) (fun hc368 => ?_)
                · replace h360 := h360.1 hc368
                  refine lv_iconst (v := 0) hx hb dL_isTold_234 (by decide) ?_
                  exact mr_wi hk365 (pr_zret C hM361 hN hr hlk rfl h360 dL_isTold_235)
                · replace h360 := h360.2 hc368
                  refine mr_aload_n C dL_isTold_203 rfl (ml_at hl_177 0 rfl) ?_
                  refine lv_iload hx hb dL_isTold_204 (ml_at hl_177 5 rfl) ?_
                  obtain ⟨hr372, h360⟩ := h360
                  obtain ⟨k374, hk374, h360⟩ := h360
                  refine pr_xi (Is := [.int x9_177]) C E hM361 hr372 hl_177.1.1 cw_L_117 (fun ad => c_X2_isOpen l hfl G ad x9_177 _ _ _ _ h360) (fun _ _ q => q.1.1) (n := 1) ⟨rfl, by decide, by decide, by decide +kernel⟩ rfl rfl ⟨Nat.le_of_ble_eq_true rfl, Nat.le_of_ble_eq_true rfl⟩ m_c0 (Nat.le_of_ble_eq_true rfl) dL_isTold_206 hk374 (fun x371 σ373 H locs h369 hM370 => ?_)
                  clear h360 hM361
                  replace h369 := h369.1.2
                  refine mr_aload C dL_isTold_209 (ml_at hl_177 4 rfl) ?_
                  refine lv_iconst (v := 0) hx hb dL_isTold_211 (by decide) ?_
                  obtain ⟨j375, ej376, ej376b, h369⟩ := h369
                  refine pr_iald C hM370 (i := 0) rfl (by decide) ej376 ej376b (by decide) dL_isTold_212 ?_
                  refine mr_aload_n C dL_isTold_213 rfl (ml_at hl_177 2 rfl) ?_
                  refine lv_bipush (v := 10) hx hb dL_isTold_214 (by decide) ?_
                  refine lv_iload hx hb dL_isTold_216 (ml_at hl_177 5 rfl) ?_
                  refine lv_imul hx hb dL_isTold_218 ?_
                  refine lv_bipush (v := 9) hx hb dL_isTold_219 (by decide) ?_
                  refine lv_iadd hx hb dL_isTold_221 ?_
                  obtain ⟨j377, ej378, ej378b, h369⟩ := h369
                  refine pr_iald C hM370 (i := 1) rfl (by decide) ej378 ej378b (by decide) dL_isTold_222 ?_
                  obtain ⟨J231, hJ231, h369⟩ := h369
                  have hj231 : ∀ (xk0_231 : Int32) (u_231 : Nat) (σ_231 τ_231 : mS) (H : Heap) (locs : List Loc) (ls : Array Slot), u_231 ≤ b → J231 xk0_231 u_231 σ_231 τ_231 → pM G a1 a2 (mN σ0) s σ_231 τ_231 H locs → ml_has ls 13 [(0, mV a1 (some 0)), (1, .int y1), (2, mV a2 (some 1)), (3, mV a2 (some 2)), (7, mV a2 (some 0)), (9, .int x9_177)] → W p l e (mRb 9 181 b) s m ([mV a1 (some 0), .int y1, mV a2 (some 1), mV a2 (some 2), mV a2 (some 3), mV a2 (some 4), mV a2 (some 6), mV a2 (some 0)] : List Value).toArray below meth c H locs u_231 (18 * u_231) (MQ below (va_Qi (fun r (q : mS × mS) => Q r q.1 q.2 ∧ narrow .boolean (.int r) = .int r) (pPost G N1 a1 a2 (mN σ0)) (pA a1 a2 (mN σ0) N1)) ([mV a1 (some 0), .int y1, mV a2 (some 1), mV a2 (some 2), mV a2 (some 3), mV a2 (some 4), mV a2 (some 6), mV a2 (some 0)] : List Value).toArray s b (18 * b) (pA a1 a2 (mN σ0) N1)) (F0 m 231 ls [.int xk0_231, .int x371]) := by
                    intro xk0_231 u_231 σ_231 τ_231 H locs ls hu_231 h_231 hM_231 hl_231
                    replace h_231 := hJ231 xk0_231 u_231 σ_231 τ_231 h_231
                    refine lv_icmp_eq (tgt := 236) hx hb dL_isTold_231 (by decide) (fun hc379 => ?_) (fun hc379 => ?_)
                    · replace h_231 := h_231.1 hc379
                      refine lv_iload_n hx hb dL_isTold_236 rfl (ml_at hl_231 1 rfl) ?_
                      refine lv_iload hx hb dL_isTold_237 (ml_at hl_231 5 rfl) ?_
                      refine lv_ishr hx hb dL_isTold_239 ?_
                      refine lv_bipush (v := 8) hx hb dL_isTold_240 (by decide) ?_
                      refine pr_li (As := fun ad => [.int (y1 >>> (x9_177 &&& 31)), .int (8 : Int32)]) C hM_231 (fun _ _ => rfl) hl_231.1.1 cw_L_83 (fun ad => c_L_low l G ad (y1 >>> (x9_177 &&& 31)) (8 : Int32) _ _ h_231) (fun _ _ q => q.1) (n := 2) ⟨rfl, by decide, by decide, by decide +kernel⟩ rfl rfl ⟨Nat.le_of_ble_eq_true rfl, Nat.le_of_ble_eq_true rfl⟩ m_c0 (Nat.le_of_ble_eq_true rfl) dL_isTold_242 ⟨hu_231, Nat.mul_le_mul_left 18 hu_231⟩ (fun x382 τ383 H locs h380 hM381 => ?_)
                      clear h_231 hM_231
                      replace h380 := h380.2
                      refine mr_istore (lv' := [(10, .int x382), (0, mV a1 (some 0)), (1, .int y1), (2, mV a2 (some 1)), (3, mV a2 (some 2)), (7, mV a2 (some 0)), (9, .int x9_177)]) C hl_231 dL_isTold_245 (by decide) rfl (fun ls hl384 => ?_)
                      clear hl_231
                      refine mr_aload_n C dL_isTold_247 rfl (ml_at hl384 1 rfl) ?_
                      refine lv_iload hx hb dL_isTold_248 (ml_at hl384 6 rfl) ?_
                      refine lv_iload hx hb dL_isTold_250 (ml_at hl384 0 rfl) ?_
                      obtain ⟨hr388, h380⟩ := h380
                      obtain ⟨k390, hk390, h380⟩ := h380
                      refine pr_wi (Is := [.int x9_177, .int x382]) C E hM381 hr388 hl384.1.1 cl_L_121 (fun ad => c_L_count l hfl G ad x9_177 x382 _ _ _ h380) (fun _ _ q => q.1) (n := 3) ⟨by decide, by decide, by decide +kernel⟩ rfl rfl ⟨Nat.le_of_ble_eq_true rfl, Nat.le_of_ble_eq_true rfl⟩ m_c0 (Nat.le_of_ble_eq_true rfl) dL_isTold_252 hk390 (fun x387 σ389 H locs h385 hM386 => ?_)
                      clear h380 hM381
                      replace h385 := h385.2
                      refine mr_aload_n C dL_isTold_255 rfl (ml_at hl384 4 rfl) ?_
                      refine mr_aload C dL_isTold_256 (ml_at hl384 5 rfl) ?_
                      refine lv_iload hx hb dL_isTold_258 (ml_at hl384 6 rfl) ?_
                      refine lv_iload hx hb dL_isTold_260 (ml_at hl384 0 rfl) ?_
                      refine pr_li (As := fun ad => [mV ad (some 2), mV ad (some 0), .int x9_177, .int x382]) C hM386 (fun ad had => by simp only [mV_some, had 2 (by decide), had 0 (by decide)]) hl384.1.1 cw_L_63 (fun ad => c_L_many l G ad x9_177 x382 _ _ h385) (fun _ _ q => q.1) (n := 4) ⟨rfl, by decide, by decide, by decide +kernel⟩ rfl rfl ⟨Nat.le_of_ble_eq_true rfl, Nat.le_of_ble_eq_true rfl⟩ (m_cI m_c0) (Nat.le_of_ble_eq_true rfl) dL_isTold_262 ⟨hk390, Nat.mul_le_mul_left 18 hk390⟩ (fun x393 τ394 H locs h391 hM392 => ?_)
                      clear h385 hM386
                      replace h391 := h391.2
                      refine lv_icmp_eq (tgt := 270) hx hb dL_isTold_265 (by decide) (fun hc395 => ?_) (fun hc395 => ?_)
                      · replace h391 := h391.1 hc395
                        refine lv_iconst (v := 0) hx hb dL_isTold_270 (by decide) ?_
                        refine mr_istore (lv' := [(11, .int (0 : Int32)), (10, .int x382), (0, mV a1 (some 0)), (1, .int y1), (2, mV a2 (some 1)), (3, mV a2 (some 2)), (7, mV a2 (some 0)), (9, .int x9_177)]) C hl384 dL_isTold_271 (by decide) rfl (fun ls hl396 => ?_)
                        clear hl384
                        refine lv_iconst (v := 0) hx hb dL_isTold_273 (by decide) ?_
                        refine mr_istore (lv' := [(12, .int (0 : Int32)), (11, .int (0 : Int32)), (10, .int x382), (0, mV a1 (some 0)), (1, .int y1), (2, mV a2 (some 1)), (3, mV a2 (some 2)), (7, mV a2 (some 0)), (9, .int x9_177)]) C hl396 dL_isTold_274 (by decide) rfl (fun ls hl397 => ?_)
                        clear hl396
                        obtain ⟨I276, hI276, nn276, h391⟩ := h391
                        have hL276 : ∀ (n276 : Nat) (x11_276 : Int32) (x12_276 : Int32) (u_276 : Nat) (σ_276 τ_276 : mS) (H : Heap) (locs : List Loc) (ls : Array Slot), u_276 ≤ b → I276 n276 x11_276 x12_276 u_276 σ_276 τ_276 → pM G a1 a2 (mN σ0) s σ_276 τ_276 H locs → ml_has ls 13 [(0, mV a1 (some 0)), (1, .int y1), (2, mV a2 (some 1)), (3, mV a2 (some 2)), (7, mV a2 (some 0)), (9, .int x9_177), (11, .int x11_276), (12, .int x12_276)] → W p l e (mRb 9 181 b) s m ([mV a1 (some 0), .int y1, mV a2 (some 1), mV a2 (some 2), mV a2 (some 3), mV a2 (some 4), mV a2 (some 6), mV a2 (some 0)] : List Value).toArray below meth c H locs u_276 (18 * u_276) (MQ below (va_Qi (fun r (q : mS × mS) => Q r q.1 q.2 ∧ narrow .boolean (.int r) = .int r) (pPost G N1 a1 a2 (mN σ0)) (pA a1 a2 (mN σ0) N1)) ([mV a1 (some 0), .int y1, mV a2 (some 1), mV a2 (some 2), mV a2 (some 3), mV a2 (some 4), mV a2 (some 6), mV a2 (some 0)] : List Value).toArray s b (18 * b) (pA a1 a2 (mN σ0) N1)) (F0 m 276 ls []) := by
                          refine m_loop (fun n276 ih276 => ?_)
                          intro x11_276 x12_276 u_276 σ_276 τ_276 H locs ls hu_276 h_276 hM_276 hl_276
                          replace h_276 := hI276 n276 x11_276 x12_276 u_276 σ_276 τ_276 h_276
                          refine lv_iload hx hb dL_isTold_276 (ml_at hl_276 7 rfl) ?_
                          refine mr_aload C dL_isTold_278 (ml_at hl_276 4 rfl) ?_
                          refine lv_iconst (v := 1) hx hb dL_isTold_280 (by decide) ?_
                          obtain ⟨j398, ej399, ej399b, h_276⟩ := h_276
                          refine pr_iald C hM_276 (i := 0) rfl (by decide) ej399 ej399b (by decide) dL_isTold_281 ?_
                          refine lv_icmp_ge (tgt := 324) hx hb dL_isTold_282 (by decide) (fun hc400 => ?_) (fun hc400 => ?_)
                          · replace h_276 := h_276.1 hc400
                            refine mr_aload_n C dL_isTold_324 rfl (ml_at hl_276 0 rfl) ?_
                            refine lv_iload hx hb dL_isTold_325 (ml_at hl_276 5 rfl) ?_
                            refine lv_iload hx hb dL_isTold_327 (ml_at hl_276 6 rfl) ?_
                            obtain ⟨hr404, h_276⟩ := h_276
                            obtain ⟨k406, hk406, h_276⟩ := h_276
                            refine pr_wi (Is := [.int x9_177, .int x11_276]) C E hM_276 hr404 hl_276.1.1 cl_L_123 (fun ad => c_L_queuedAt l hfl G ad x9_177 x11_276 _ _ _ h_276) (fun _ _ q => q.1) (n := 3) ⟨by decide, by decide, by decide +kernel⟩ rfl rfl ⟨Nat.le_of_ble_eq_true rfl, Nat.le_of_ble_eq_true rfl⟩ m_c0 (Nat.le_of_ble_eq_true rfl) dL_isTold_329 hk406 (fun x403 σ405 H locs h401 hM402 => ?_)
                            clear h_276 hM_276
                            replace h401 := h401.2
                            refine lv_bipush (v := -71) hx hb dL_isTold_332 (by decide) ?_
                            refine lv_icmp_eq (tgt := 339) hx hb dL_isTold_334 (by decide) (fun hc407 => ?_) (fun hc407 => ?_)
                            · replace h401 := h401.1 hc407
                              refine mr_iinc (v := (x9_177 + 1)) (lv' := [(9, .int (x9_177 + 1)), (0, mV a1 (some 0)), (1, .int y1), (2, mV a2 (some 1)), (3, mV a2 (some 2)), (7, mV a2 (some 0)), (11, .int x11_276), (12, .int x12_276)]) C hl_276 dL_isTold_339 (k := 5) rfl rfl (by decide) rfl (fun ls hl408 => ?_)
                              clear hl_276
                              refine lv_goto (tgt := 177) hx hb dL_isTold_342 (by decide) ?_
                              obtain ⟨k409, hk409, h401⟩ := h401
                              exact ih177 k409 hk409 (x9_177 + 1) (u_276 + k406) σ405 τ_276 _ _ _ hk406 h401 hM402 (ml_sub hl408 [1, 2, 3, 4, 5, 0] rfl)
                            · replace h401 := h401.2 hc407
                              refine lv_iconst (v := 0) hx hb dL_isTold_337 (by decide) ?_
                              exact mr_wi hk406 (pr_zret C hM402 hN hr hlk rfl h401 dL_isTold_338)
                          · replace h_276 := h_276.2 hc400
                            refine mr_aload_n C dL_isTold_285 rfl (ml_at hl_276 3 rfl) ?_
                            refine lv_iload hx hb dL_isTold_286 (ml_at hl_276 7 rfl) ?_
                            obtain ⟨j410, ej411, ej411b, h_276⟩ := h_276
                            refine pr_iald C hM_276 (i := 2) rfl (by decide) ej411 ej411b (by decide) dL_isTold_288 ?_
                            refine lv_bipush (v := 63) hx hb dL_isTold_289 (by decide) ?_
                            refine lv_iand hx hb dL_isTold_291 ?_
                            refine lv_iload hx hb dL_isTold_292 (ml_at hl_276 5 rfl) ?_
                            refine lv_icmp_eq (tgt := 300) hx hb dL_isTold_294 (by decide) (fun hc412 => ?_) (fun hc412 => ?_)
                            · replace h_276 := h_276.1 hc412
                              refine mr_aload_n C dL_isTold_300 rfl (ml_at hl_276 0 rfl) ?_
                              refine lv_iload hx hb dL_isTold_301 (ml_at hl_276 5 rfl) ?_
                              refine lv_iload hx hb dL_isTold_303 (ml_at hl_276 6 rfl) ?_
                              obtain ⟨hr416, h_276⟩ := h_276
                              obtain ⟨k418, hk418, h_276⟩ := h_276
                              refine pr_wi (Is := [.int x9_177, .int x11_276]) C E hM_276 hr416 hl_276.1.1 cl_L_123 (fun ad => c_L_queuedAt l hfl G ad x9_177 x11_276 _ _ _ h_276) (fun _ _ q => q.1) (n := 3) ⟨by decide, by decide, by decide +kernel⟩ rfl rfl ⟨Nat.le_of_ble_eq_true rfl, Nat.le_of_ble_eq_true rfl⟩ m_c0 (Nat.le_of_ble_eq_true rfl) dL_isTold_305 hk418 (fun x415 σ417 H locs h413 hM414 => ?_)
                              clear h_276 hM_276
                              replace h413 := h413.2
                              refine lv_iload hx hb dL_isTold_308 (ml_at hl_276 7 rfl) ?_
                              refine lv_icmp_eq (tgt := 315) hx hb dL_isTold_310 (by decide) (fun hc419 => ?_) (fun hc419 => ?_)
                              · replace h413 := h413.1 hc419
                                refine mr_iinc (v := (x11_276 + 1)) (lv' := [(11, .int (x11_276 + 1)), (0, mV a1 (some 0)), (1, .int y1), (2, mV a2 (some 1)), (3, mV a2 (some 2)), (7, mV a2 (some 0)), (9, .int x9_177), (12, .int x12_276)]) C hl_276 dL_isTold_315 (k := 6) rfl rfl (by decide) rfl (fun ls hl420 => ?_)
                                clear hl_276
                                refine mr_iinc (v := (x12_276 + 1)) (lv' := [(12, .int (x12_276 + 1)), (11, .int (x11_276 + 1)), (0, mV a1 (some 0)), (1, .int y1), (2, mV a2 (some 1)), (3, mV a2 (some 2)), (7, mV a2 (some 0)), (9, .int x9_177)]) C hl420 dL_isTold_318 (k := 7) rfl rfl (by decide) rfl (fun ls hl421 => ?_)
                                clear hl420
                                refine lv_goto (tgt := 276) hx hb dL_isTold_321 (by decide) ?_
                                obtain ⟨k422, hk422, h413⟩ := h413
                                exact ih276 k422 hk422 (x11_276 + 1) (x12_276 + 1) (u_276 + k418) σ417 τ_276 _ _ _ hk418 h413 hM414 (ml_sub hl421 [2, 3, 4, 5, 6, 7, 1, 0] rfl)
                              · replace h413 := h413.2 hc419
                                refine lv_iconst (v := 0) hx hb dL_isTold_313 (by decide) ?_
                                exact mr_wi hk418 (pr_zret C hM414 hN hr hlk rfl h413 dL_isTold_314)
                            · replace h_276 := h_276.2 hc412
                              refine lv_goto (tgt := 318) hx hb dL_isTold_297 (by decide) ?_
                              refine mr_iinc (v := (x12_276 + 1)) (lv' := [(12, .int (x12_276 + 1)), (0, mV a1 (some 0)), (1, .int y1), (2, mV a2 (some 1)), (3, mV a2 (some 2)), (7, mV a2 (some 0)), (9, .int x9_177), (11, .int x11_276)]) C hl_276 dL_isTold_318 (k := 7) rfl rfl (by decide) rfl (fun ls hl423 => ?_)
                              clear hl_276
                              refine lv_goto (tgt := 276) hx hb dL_isTold_321 (by decide) ?_
                              obtain ⟨k424, hk424, h_276⟩ := h_276
                              exact ih276 k424 hk424 x11_276 (x12_276 + 1) u_276 σ_276 τ_276 _ _ _ hu_276 h_276 hM_276 (ml_sub hl423 [1, 2, 3, 4, 5, 6, 7, 0] rfl)
                        exact hL276 nn276 (0 : Int32) (0 : Int32) (u_231 + k390) σ389 τ394 _ _ _ hk390 h391 hM392 (ml_sub hl397 [3, 4, 5, 6, 7, 8, 1, 0] rfl)
                      · replace h391 := h391.2 hc395
                        refine lv_iconst (v := 0) hx hb dL_isTold_268 (by decide) ?_
                        exact mr_wi hk390 (pr_zret C hM392 hN hr hlk rfl h391 dL_isTold_269)
                    · replace h_231 := h_231.2 hc379
                      refine lv_iconst (v := 0) hx hb dL_isTold_234 (by decide) ?_
                      exact mr_wi hu_231 (pr_zret C hM_231 hN hr hlk rfl h_231 dL_isTold_235)
                  refine lv_icmp_ge (tgt := 230) hx hb dL_isTold_223 (by decide) (fun hc425 => ?_) (fun hc425 => ?_)
                  · replace h369 := h369.1 hc425
                    refine lv_iconst (v := 0) hx hb dL_isTold_230 (by decide) ?_
                    exact hj231 (0 : Int32) ((u_177 + k365) + k374) σ373 τ_177 _ _ _ hk374 h369 hM370 (ml_sub hl_177 [0, 1, 2, 3, 4, 5] rfl)
                  · replace h369 := h369.2 hc425
                    refine lv_iconst (v := 1) hx hb dL_isTold_226 (by decide) ?_
                    refine lv_goto (tgt := 231) hx hb dL_isTold_227 (by decide) ?_
                    exact hj231 (1 : Int32) ((u_177 + k365) + k374) σ373 τ_177 _ _ _ hk374 h369 hM370 (ml_sub hl_177 [0, 1, 2, 3, 4, 5] rfl)
            exact hL177 nn177 (0 : Int32) (u_144 + k218) σ217 τ222 _ _ _ hk218 h219 hM220 (ml_sub hl224 [2, 3, 4, 5, 7, 0] rfl)
          · replace h219 := h219.2 hc223
            refine lv_iconst (v := 0) hx hb dL_isTold_172 (by decide) ?_
            exact mr_wi hk218 (pr_zret C hM220 hN hr hlk rfl h219 dL_isTold_173)
      refine lv_if_ne (tgt := 136) hx hb dL_isTold_129 (by decide) (fun hc426 => ?_) (fun hc426 => ?_)
      · replace h_3 := h_3.1 hc426
        refine lv_iload_n hx hb dL_isTold_136 rfl (ml_at hl_3 1 rfl) ?_
        refine mr_aload C dL_isTold_137 (ml_at hl_3 7 rfl) ?_
        refine lv_iconst (v := 1) hx hb dL_isTold_139 (by decide) ?_
        obtain ⟨j427, ej428, ej428b, h_3⟩ := h_3
        refine pr_iald C hM_3 (i := 0) rfl (by decide) ej428 ej428b (by decide) dL_isTold_140 ?_
        refine pr_li (As := fun ad => [.int y1, .int (mI τ_3 0 j427)]) C hM_3 (fun _ _ => rfl) hl_3.1.1 cw_L_83 (fun ad => c_L_low l G ad y1 (mI τ_3 0 j427) _ _ h_3) (fun _ _ q => q.1) (n := 2) ⟨rfl, by decide, by decide, by decide +kernel⟩ rfl rfl ⟨Nat.le_of_ble_eq_true rfl, Nat.le_of_ble_eq_true rfl⟩ m_c0 (Nat.le_of_ble_eq_true rfl) dL_isTold_141 ⟨hu_3, Nat.mul_le_mul_left 18 hu_3⟩ (fun x431 τ432 H locs h429 hM430 => ?_)
        clear h_3 hM_3
        replace h429 := h429.2
        exact hj144 x431 u_3 σ_3 τ432 _ _ _ hu_3 h429 hM430 (ml_sub hl_3 [0, 1, 2, 3, 5, 7] rfl)
      · replace h_3 := h_3.2 hc426
        refine lv_iconst (v := 0) hx hb dL_isTold_132 (by decide) ?_
        refine lv_goto (tgt := 144) hx hb dL_isTold_133 (by decide) ?_
        exact hj144 (0 : Int32) u_3 σ_3 τ_3 _ _ _ hu_3 h_3 hM_3 (ml_sub hl_3 [0, 1, 2, 3, 5, 7] rfl)
    · replace h_3 := h_3.2 hc4
      refine mr_aload_n C dL_isTold_12 rfl (ml_at hl_3 3 rfl) ?_
      refine lv_iload hx hb dL_isTold_13 (ml_at hl_3 8 rfl) ?_
      refine lv_iconst (v := 3) hx hb dL_isTold_15 (by decide) ?_
      refine lv_iconst (v := 3) hx hb dL_isTold_16 (by decide) ?_
      refine pr_li (As := fun ad => [mV ad (some 2), .int x8_3, .int (3 : Int32), .int (3 : Int32)]) C hM_3 (fun ad had => by simp only [mV_some, had 2 (by decide)]) hl_3.1.1 cw_L_59 (fun ad => c_L_get l G ad x8_3 (3 : Int32) (3 : Int32) _ _ h_3) (fun _ _ q => q.1) (n := 4) ⟨rfl, by decide, by decide, by decide +kernel⟩ rfl rfl ⟨Nat.le_of_ble_eq_true rfl, Nat.le_of_ble_eq_true rfl⟩ m_c0 (Nat.le_of_ble_eq_true rfl) dL_isTold_17 ⟨hu_3, Nat.mul_le_mul_left 18 hu_3⟩ (fun x435 τ436 H locs h433 hM434 => ?_)
      clear h_3 hM_3
      replace h433 := h433.2
      refine mr_istore (lv' := [(9, .int x435), (0, mV a1 (some 0)), (1, .int y1), (2, mV a2 (some 1)), (3, mV a2 (some 2)), (4, mV a2 (some 3)), (5, mV a2 (some 4)), (6, mV a2 (some 6)), (7, mV a2 (some 0)), (8, .int x8_3)]) C hl_3 dL_isTold_20 (by decide) rfl (fun ls hl437 => ?_)
      clear hl_3
      refine mr_aload_n C dL_isTold_22 rfl (ml_at hl437 1 rfl) ?_
      refine lv_iload hx hb dL_isTold_23 (ml_at hl437 9 rfl) ?_
      obtain ⟨hr441, h433⟩ := h433
      obtain ⟨k443, hk443, h433⟩ := h433
      refine pr_wi (Is := [.int x8_3]) C E hM434 hr441 hl437.1.1 cl_L_95 (fun ad => c_L_state l hfl G ad x8_3 _ _ _ h433) (fun _ _ q => q.1) (n := 2) ⟨by decide, by decide, by decide +kernel⟩ rfl rfl ⟨Nat.le_of_ble_eq_true rfl, Nat.le_of_ble_eq_true rfl⟩ m_c0 (Nat.le_of_ble_eq_true rfl) dL_isTold_25 hk443 (fun x440 σ442 H locs h438 hM439 => ?_)
      clear h433 hM434
      replace h438 := h438.2
      refine lv_iload hx hb dL_isTold_28 (ml_at hl437 0 rfl) ?_
      refine lv_icmp_ne (tgt := 117) hx hb dL_isTold_30 (by decide) (fun hc444 => ?_) (fun hc444 => ?_)
      · replace h438 := h438.1 hc444
        refine lv_iconst (v := 0) hx hb dL_isTold_117 (by decide) ?_
        exact mr_wi hk443 (pr_zret C hM439 hN hr hlk rfl h438 dL_isTold_118)
      · replace h438 := h438.2 hc444
        refine mr_aload_n C dL_isTold_33 rfl (ml_at hl437 1 rfl) ?_
        refine lv_iload hx hb dL_isTold_34 (ml_at hl437 9 rfl) ?_
        obtain ⟨hr448, h438⟩ := h438
        obtain ⟨k450, hk450, h438⟩ := h438
        refine pr_xi (Is := [.int x8_3]) C E hM439 hr448 hl437.1.1 cw_L_98 (fun ad => c_X2_origin l hfl G ad x8_3 _ _ _ _ h438) (fun _ _ q => q.1) (n := 1) ⟨rfl, by decide, by decide, by decide +kernel⟩ rfl rfl ⟨Nat.le_of_ble_eq_true rfl, Nat.le_of_ble_eq_true rfl⟩ m_c0 (Nat.le_of_ble_eq_true rfl) dL_isTold_36 hk450 (fun x447 σ449 H locs h445 hM446 => ?_)
        clear h438 hM439
        replace h445 := h445.2
        refine lv_sipush (v := 1000) hx hb dL_isTold_39 (by decide) ?_
        refine mr_aload_n C dL_isTold_42 rfl (ml_at hl437 4 rfl) ?_
        refine lv_iload hx hb dL_isTold_43 (ml_at hl437 9 rfl) ?_
        obtain ⟨j451, ej452, ej452b, h445⟩ := h445
        refine pr_iald C hM446 (i := 2) rfl (by decide) ej452 ej452b (by decide) dL_isTold_45 ?_
        refine lv_bipush (v := 7) hx hb dL_isTold_46 (by decide) ?_
        refine lv_iand hx hb dL_isTold_48 ?_
        refine lv_imul hx hb dL_isTold_49 ?_
        refine mr_aload C dL_isTold_50 (ml_at hl437 6 rfl) ?_
        refine lv_iload hx hb dL_isTold_52 (ml_at hl437 9 rfl) ?_
        obtain ⟨j453, ej454, ej454b, h445⟩ := h445
        refine pr_iald C hM446 (i := 4) rfl (by decide) ej454 ej454b (by decide) dL_isTold_54 ?_
        refine lv_iadd hx hb dL_isTold_55 ?_
        refine lv_iconst (v := 1) hx hb dL_isTold_56 (by decide) ?_
        refine lv_iadd hx hb dL_isTold_57 ?_
        refine lv_icmp_ne (tgt := 117) hx hb dL_isTold_58 (by decide) (fun hc455 => ?_) (fun hc455 => ?_)
        · replace h445 := h445.1 hc455
          refine lv_iconst (v := 0) hx hb dL_isTold_117 (by decide) ?_
          exact mr_wi hk450 (pr_zret C hM446 hN hr hlk rfl h445 dL_isTold_118)
        · replace h445 := h445.2 hc455
          refine mr_aload_n C dL_isTold_61 rfl (ml_at hl437 1 rfl) ?_
          refine lv_iload hx hb dL_isTold_62 (ml_at hl437 9 rfl) ?_
          obtain ⟨hr459, h445⟩ := h445
          obtain ⟨k461, hk461, h445⟩ := h445
          refine pr_xi (Is := [.int x8_3]) C E hM446 hr459 hl437.1.1 cw_L_101 (fun ad => c_X2_deadline l hfl G ad x8_3 _ _ _ _ h445) (fun _ _ q => q.1) (n := 1) ⟨rfl, by decide, by decide, by decide +kernel⟩ rfl rfl ⟨Nat.le_of_ble_eq_true rfl, Nat.le_of_ble_eq_true rfl⟩ m_c0 (Nat.le_of_ble_eq_true rfl) dL_isTold_64 hk461 (fun x458 σ460 H locs h456 hM457 => ?_)
          clear h445 hM446
          replace h456 := h456.2
          refine mr_aload C dL_isTold_67 (ml_at hl437 5 rfl) ?_
          refine lv_iload hx hb dL_isTold_69 (ml_at hl437 9 rfl) ?_
          obtain ⟨j462, ej463, ej463b, h456⟩ := h456
          refine pr_iald C hM457 (i := 3) rfl (by decide) ej463 ej463b (by decide) dL_isTold_71 ?_
          refine lv_icmp_ne (tgt := 117) hx hb dL_isTold_72 (by decide) (fun hc464 => ?_) (fun hc464 => ?_)
          · replace h456 := h456.1 hc464
            refine lv_iconst (v := 0) hx hb dL_isTold_117 (by decide) ?_
            exact mr_wi hk461 (pr_zret C hM457 hN hr hlk rfl h456 dL_isTold_118)
          · replace h456 := h456.2 hc464
            refine mr_aload_n C dL_isTold_75 rfl (ml_at hl437 1 rfl) ?_
            refine lv_iload hx hb dL_isTold_76 (ml_at hl437 9 rfl) ?_
            obtain ⟨hr468, h456⟩ := h456
            obtain ⟨k470, hk470, h456⟩ := h456
            refine pr_xi (Is := [.int x8_3]) C E hM457 hr468 hl437.1.1 cw_L_104 (fun ad => c_X2_overAt l hfl G ad x8_3 _ _ _ _ h456) (fun _ _ q => q.1) (n := 1) ⟨rfl, by decide, by decide, by decide +kernel⟩ rfl rfl ⟨Nat.le_of_ble_eq_true rfl, Nat.le_of_ble_eq_true rfl⟩ m_c0 (Nat.le_of_ble_eq_true rfl) dL_isTold_78 hk470 (fun x467 σ469 H locs h465 hM466 => ?_)
            clear h456 hM457
            replace h465 := h465.2
            refine mr_aload C dL_isTold_81 (ml_at hl437 7 rfl) ?_
            refine lv_iload hx hb dL_isTold_83 (ml_at hl437 9 rfl) ?_
            obtain ⟨j471, ej472, ej472b, h465⟩ := h465
            refine pr_iald C hM466 (i := 6) rfl (by decide) ej472 ej472b (by decide) dL_isTold_85 ?_
            refine lv_icmp_ne (tgt := 117) hx hb dL_isTold_86 (by decide) (fun hc473 => ?_) (fun hc473 => ?_)
            · replace h465 := h465.1 hc473
              refine lv_iconst (v := 0) hx hb dL_isTold_117 (by decide) ?_
              exact mr_wi hk470 (pr_zret C hM466 hN hr hlk rfl h465 dL_isTold_118)
            · replace h465 := h465.2 hc473
              refine mr_aload_n C dL_isTold_89 rfl (ml_at hl437 1 rfl) ?_
              refine lv_iload hx hb dL_isTold_90 (ml_at hl437 9 rfl) ?_
              obtain ⟨hr477, h465⟩ := h465
              obtain ⟨k479, hk479, h465⟩ := h465
              refine pr_wi (Is := [.int x8_3]) C E hM466 hr477 hl437.1.1 cl_L_107 (fun ad => c_L_place l hfl G ad x8_3 _ _ _ h465) (fun _ _ q => q.1) (n := 2) ⟨by decide, by decide, by decide +kernel⟩ rfl rfl ⟨Nat.le_of_ble_eq_true rfl, Nat.le_of_ble_eq_true rfl⟩ m_c0 (Nat.le_of_ble_eq_true rfl) dL_isTold_92 hk479 (fun x476 σ478 H locs h474 hM475 => ?_)
              clear h465 hM466
              replace h474 := h474.2
              refine lv_iload hx hb dL_isTold_95 (ml_at hl437 0 rfl) ?_
              refine lv_iconst (v := 2) hx hb dL_isTold_97 (by decide) ?_
              refine lv_icmp_ne (tgt := 113) hx hb dL_isTold_98 (by decide) (fun hc480 => ?_) (fun hc480 => ?_)
              · replace h474 := h474.1 hc480
                refine lv_iconst (v := -1) hx hb dL_isTold_113 (by decide) ?_
                refine lv_icmp_eq (tgt := 119) hx hb dL_isTold_114 (by decide) (fun hc481 => ?_) (fun hc481 => ?_)
                · replace h474 := h474.1 hc481
                  refine mr_iinc (v := (x8_3 + 1)) (lv' := [(8, .int (x8_3 + 1)), (9, .int x435), (0, mV a1 (some 0)), (1, .int y1), (2, mV a2 (some 1)), (3, mV a2 (some 2)), (4, mV a2 (some 3)), (5, mV a2 (some 4)), (6, mV a2 (some 6)), (7, mV a2 (some 0))]) C hl437 dL_isTold_119 (k := 9) rfl rfl (by decide) rfl (fun ls hl482 => ?_)
                  clear hl437
                  refine lv_goto (tgt := 3) hx hb dL_isTold_122 (by decide) ?_
                  obtain ⟨k483, hk483, h474⟩ := h474
                  exact ih3 k483 hk483 (x8_3 + 1) (((((u_3 + k443) + k450) + k461) + k470) + k479) σ478 τ436 _ _ _ hk479 h474 hM475 (ml_sub hl482 [2, 3, 4, 5, 6, 7, 8, 9, 0] rfl)
                · replace h474 := h474.2 hc481
                  refine lv_iconst (v := 0) hx hb dL_isTold_117 (by decide) ?_
                  exact mr_wi hk479 (pr_zret C hM475 hN hr hlk rfl h474 dL_isTold_118)
              · replace h474 := h474.2 hc480
                refine mr_aload_n C dL_isTold_101 rfl (ml_at hl437 4 rfl) ?_
                refine lv_iload hx hb dL_isTold_102 (ml_at hl437 9 rfl) ?_
                refine lv_bipush (v := 6) hx hb dL_isTold_104 (by decide) ?_
                refine lv_iconst (v := 2) hx hb dL_isTold_106 (by decide) ?_
                refine pr_li (As := fun ad => [mV ad (some 2), .int x8_3, .int (6 : Int32), .int (2 : Int32)]) C hM475 (fun ad had => by simp only [mV_some, had 2 (by decide)]) hl437.1.1 cw_L_59 (fun ad => c_L_get l G ad x8_3 (6 : Int32) (2 : Int32) _ _ h474) (fun _ _ q => q.1) (n := 4) ⟨rfl, by decide, by decide, by decide +kernel⟩ rfl rfl ⟨Nat.le_of_ble_eq_true rfl, Nat.le_of_ble_eq_true rfl⟩ (m_cI m_c0) (Nat.le_of_ble_eq_true rfl) dL_isTold_107 ⟨hk479, Nat.mul_le_mul_left 18 hk479⟩ (fun x486 τ487 H locs h484 hM485 => ?_)
                clear h474 hM475
                replace h484 := h484.2
                refine lv_goto (tgt := 114) hx hb dL_isTold_110 (by decide) ?_
                refine lv_icmp_eq (tgt := 119) hx hb dL_isTold_114 (by decide) (fun hc488 => ?_) (fun hc488 => ?_)
                · replace h484 := h484.1 hc488
                  refine mr_iinc (v := (x8_3 + 1)) (lv' := [(8, .int (x8_3 + 1)), (9, .int x435), (0, mV a1 (some 0)), (1, .int y1), (2, mV a2 (some 1)), (3, mV a2 (some 2)), (4, mV a2 (some 3)), (5, mV a2 (some 4)), (6, mV a2 (some 6)), (7, mV a2 (some 0))]) C hl437 dL_isTold_119 (k := 9) rfl rfl (by decide) rfl (fun ls hl489 => ?_)
                  clear hl437
                  refine lv_goto (tgt := 3) hx hb dL_isTold_122 (by decide) ?_
                  obtain ⟨k490, hk490, h484⟩ := h484
                  exact ih3 k490 hk490 (x8_3 + 1) (((((u_3 + k443) + k450) + k461) + k470) + k479) σ478 τ487 _ _ _ hk479 h484 hM485 (ml_sub hl489 [2, 3, 4, 5, 6, 7, 8, 9, 0] rfl)
                · replace h484 := h484.2 hc488
                  refine lv_iconst (v := 0) hx hb dL_isTold_117 (by decide) ?_
                  exact mr_wi hk479 (pr_zret C hM485 hN hr hlk rfl h484 dL_isTold_118)
  exact hL3 nn3 (0 : Int32) 0 σ0 τ0 _ _ _ (Nat.zero_le _) h hM (ml_sub hl1 [1, 2, 3, 4, 5, 6, 7, 8, 0] rfl)
