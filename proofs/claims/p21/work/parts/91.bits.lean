/-! THE LAW'S ROWS AGAINST THE SAME PICTURE: packed numbers -/
theorem s_l : ∀ n, n < 32 → ((nI n &&& 31).toBitVec.smod 32).toNat = n := by decide +kernel
theorem l_p2 {b : Nat} (hb : b < 31) : 2 ^ b < 2 ^ 31 := Nat.pow_lt_pow_right (by decide) hb
theorem l_mask {b : Nat} (hb : b < 31) : (1 : Int32) <<< (nI b &&& 31) - 1 = nI (2 ^ b - 1) := by
  have h := l_p2 hb
  have h1 := pk_shlN (n := 1) (nI b &&& 31) b (s_l b (by omega)) (by omega)
  rw [Nat.one_mul] at h1
  have h2 : nI 1 <<< (nI b &&& 31) = nI (2 ^ b) := h1
  rw [show (1 : Int32) <<< (nI b &&& 31) = nI (2 ^ b) from h2]
  exact pk_sub (a := 2 ^ b) (b := 1) (Nat.two_pow_pos b)
theorem l_get {A f b : Nat} (hA : A < 2 ^ 31) (hf : f < 31) (hb : b < 31) : (nI A >>> (nI f &&& 31)) &&& ((1 : Int32) <<< (nI b &&& 31) - 1) = nI (A / 2 ^ f % 2 ^ b) := by
  have h := l_p2 hb
  rw [pk_shrN hA _ f (s_l f (by omega)), l_mask hb]
  exact pk_andN (Nat.lt_of_le_of_lt (Nat.div_le_self _ _) (by omega)) b (pk_tn (by omega))
theorem l_put {f b lo mid hi v : Nat} (hlo : lo < 2 ^ f) (hmid : mid < 2 ^ b) (hv : v < 2 ^ b) (hfb : f + b < 31) : (nI (2 ^ f * (2 ^ b * hi + mid) + lo) &&& ((((1 : Int32) <<< (nI b &&& 31) - 1) <<< (nI f &&& 31)) ^^^ (-1))) ||| (nI v <<< (nI f &&& 31)) = nI (2 ^ f * (2 ^ b * hi + v) + lo) := by
  have hp := l_p2 hfb
  rw [Nat.pow_add] at hp
  have e1 : (2 ^ b - 1) * 2 ^ f < 2 ^ 32 := Nat.lt_of_le_of_lt (Nat.mul_le_mul_right _ (Nat.sub_le _ _)) (by rw [Nat.mul_comm]; omega)
  have e2 : v * 2 ^ f < 2 ^ 32 := Nat.lt_of_le_of_lt (Nat.mul_le_mul_right _ (Nat.le_of_lt hv)) (by rw [Nat.mul_comm]; omega)
  rw [l_mask (by omega), pk_shlN _ f (s_l f (by omega)) e1, pk_shlN _ f (s_l f (by omega)) e2]
  refine Int32.toBitVec_inj.mp (BitVec.eq_of_getLsbD_eq (fun i hi32 => ?_))
  rw [Int32.toBitVec_or, Int32.toBitVec_and, Int32.toBitVec_xor]
  show ((BitVec.ofNat 32 _ &&& (BitVec.ofNat 32 _ ^^^ (-1 : Int32).toBitVec)) ||| BitVec.ofNat 32 _).getLsbD i = (BitVec.ofNat 32 _).getLsbD i
  have hm1 : ((-1 : Int32).toBitVec).getLsbD i = true := by
    have : ∀ i, i < 32 → ((-1 : Int32).toBitVec).getLsbD i = true := by decide +kernel
    exact this i hi32
  simp only [BitVec.getLsbD_or, BitVec.getLsbD_and, BitVec.getLsbD_xor, BitVec.getLsbD_ofNat, hm1, hi32, decide_true, Bool.true_and]
  rw [Nat.mul_comm (2 ^ b - 1) (2 ^ f), Nat.mul_comm v (2 ^ f), Nat.testBit_two_pow_mul_add _ hlo, Nat.testBit_two_pow_mul_add _ hlo, Nat.testBit_two_pow_mul, Nat.testBit_two_pow_mul]
  by_cases hif : i < f
  · rw [if_pos hif, if_pos hif]
    have : ¬ f ≤ i := by omega
    simp [this]
  · rw [if_neg hif, if_neg hif, Nat.testBit_two_pow_mul_add _ hmid, Nat.testBit_two_pow_mul_add _ hv, Nat.testBit_two_pow_sub_one]
    have hfi : f ≤ i := by omega
    by_cases hib : i - f < b
    · rw [if_pos hib, if_pos hib]
      simp [hfi, hib]
    · rw [if_neg hib, if_neg hib]
      have hz : v.testBit (i - f) = false := Nat.testBit_lt_two_pow (Nat.lt_of_lt_of_le hv (Nat.pow_le_pow_right (by decide) (by omega)))
      simp [hfi, hib, hz]
theorem g_get {τ : mS} {k f b A : Nat} {Q : Int32 → mS → Prop} (hk : k < 60) (ha : mI τ 2 k = nI A) (hA : A < 2 ^ 31) (hf : f < 31) (hb : b < 31) (hQ : Q (nI (A / 2 ^ f % 2 ^ b)) τ) : w_L_get (nI k) (nI f) (nI b) τ Q := by
  unfold w_L_get
  refine ⟨k, rfl, hk, ?_⟩
  rw [ha, l_get hA hf hb]; exact hQ
theorem g_put {τ : mS} {k f b lo mid hi v : Nat} {Q : mS → Prop} (hk : k < 60) (ha : mI τ 2 k = nI (2 ^ f * (2 ^ b * hi + mid) + lo)) (hlo : lo < 2 ^ f) (hmid : mid < 2 ^ b) (hv : v < 2 ^ b) (hfb : f + b < 31) (hQ : Q (sI τ 2 k (nI (2 ^ f * (2 ^ b * hi + v) + lo)))) : w_L_put (nI k) (nI f) (nI b) (nI v) τ Q := by
  unfold w_L_put
  refine ⟨k, rfl, hk, k, rfl, hk, ?_⟩
  rintro _ rfl
  rw [ha, l_put hlo hmid hv hfb]; exact hQ
/-- the fields of a packed number: service, state, place, tries again, wants, tries, open ones, answered, the parent's place -/
def aw (x : Nat → Nat) : Nat := x 0 + 8 * x 1 + 64 * x 2 + 256 * x 3 + 1024 * x 4 + 2048 * x 5 + 16384 * x 6 + 131072 * x 7 + 262144 * x 8
def aBd (x : Nat → Nat) : Prop := x 0 < 6 ∧ x 1 < 8 ∧ x 2 < 4 ∧ x 3 < 4 ∧ x 4 < 2 ∧ x 5 < 8 ∧ x 6 < 8 ∧ x 7 < 2 ∧ x 8 < 4
def upx (x : Nat → Nat) (i v : Nat) : Nat → Nat := fun j => if j = i then v else x j
def up0 (x : Nat → Nat) (a b : Nat) : Nat → Nat := fun j => if a ≤ j ∧ j ≤ b then 0 else x j
theorem aw_lt {x : Nat → Nat} (h : aBd x) : aw x < 2 ^ 20 := by unfold aw aBd at *; omega
theorem q_get1 {τ : mS} {k : Nat} {x : Nat → Nat} {Q : Int32 → mS → Prop} (hk : k < 60) (hx : aBd x) (ha : mI τ 2 k = nI (aw x)) (hQ : Q (nI (x 1)) τ) : w_L_get (nI k) (3 : Int32) (3 : Int32) τ Q := by
  have h := aw_lt hx
  refine g_get (f := 3) (b := 3) hk ha (by omega) (by decide) (by decide) ?_
  rw [show aw x / 2 ^ 3 % 2 ^ 3 = x 1 from by unfold aw aBd at *; omega]; exact hQ
theorem q_put1 {τ : mS} {k v : Nat} {x : Nat → Nat} {Q : mS → Prop} (hk : k < 60) (hx : aBd x) (ha : mI τ 2 k = nI (aw x)) (hv : v < 8) (hQ : Q (sI τ 2 k (nI (aw (upx x 1 v))))) : w_L_put (nI k) (3 : Int32) (3 : Int32) (nI v) τ Q := by
  refine g_put (f := 3) (b := 3) (lo := x 0) (mid := x 1) (hi := x 2 + 4 * x 3 + 16 * x 4 + 32 * x 5 + 256 * x 6 + 2048 * x 7 + 4096 * x 8) hk (by rw [ha]; congr 1; unfold aw; omega) (by unfold aBd at hx; omega) (by unfold aBd at hx; omega) hv (by decide) ?_
  rw [show 2 ^ 3 * (2 ^ 3 * (x 2 + 4 * x 3 + 16 * x 4 + 32 * x 5 + 256 * x 6 + 2048 * x 7 + 4096 * x 8) + v) + (x 0) = aw (upx x 1 v) from by simp [aw, upx]; omega]; exact hQ
theorem q_get2 {τ : mS} {k : Nat} {x : Nat → Nat} {Q : Int32 → mS → Prop} (hk : k < 60) (hx : aBd x) (ha : mI τ 2 k = nI (aw x)) (hQ : Q (nI (x 2)) τ) : w_L_get (nI k) (6 : Int32) (2 : Int32) τ Q := by
  have h := aw_lt hx
  refine g_get (f := 6) (b := 2) hk ha (by omega) (by decide) (by decide) ?_
  rw [show aw x / 2 ^ 6 % 2 ^ 2 = x 2 from by unfold aw aBd at *; omega]; exact hQ
theorem q_put2 {τ : mS} {k v : Nat} {x : Nat → Nat} {Q : mS → Prop} (hk : k < 60) (hx : aBd x) (ha : mI τ 2 k = nI (aw x)) (hv : v < 4) (hQ : Q (sI τ 2 k (nI (aw (upx x 2 v))))) : w_L_put (nI k) (6 : Int32) (2 : Int32) (nI v) τ Q := by
  refine g_put (f := 6) (b := 2) (lo := x 0 + 8 * x 1) (mid := x 2) (hi := x 3 + 4 * x 4 + 8 * x 5 + 64 * x 6 + 512 * x 7 + 1024 * x 8) hk (by rw [ha]; congr 1; unfold aw; omega) (by unfold aBd at hx; omega) (by unfold aBd at hx; omega) hv (by decide) ?_
  rw [show 2 ^ 6 * (2 ^ 2 * (x 3 + 4 * x 4 + 8 * x 5 + 64 * x 6 + 512 * x 7 + 1024 * x 8) + v) + (x 0 + 8 * x 1) = aw (upx x 2 v) from by simp [aw, upx]; omega]; exact hQ
theorem q_get3 {τ : mS} {k : Nat} {x : Nat → Nat} {Q : Int32 → mS → Prop} (hk : k < 60) (hx : aBd x) (ha : mI τ 2 k = nI (aw x)) (hQ : Q (nI (x 3)) τ) : w_L_get (nI k) (8 : Int32) (2 : Int32) τ Q := by
  have h := aw_lt hx
  refine g_get (f := 8) (b := 2) hk ha (by omega) (by decide) (by decide) ?_
  rw [show aw x / 2 ^ 8 % 2 ^ 2 = x 3 from by unfold aw aBd at *; omega]; exact hQ
theorem q_put3 {τ : mS} {k v : Nat} {x : Nat → Nat} {Q : mS → Prop} (hk : k < 60) (hx : aBd x) (ha : mI τ 2 k = nI (aw x)) (hv : v < 4) (hQ : Q (sI τ 2 k (nI (aw (upx x 3 v))))) : w_L_put (nI k) (8 : Int32) (2 : Int32) (nI v) τ Q := by
  refine g_put (f := 8) (b := 2) (lo := x 0 + 8 * x 1 + 64 * x 2) (mid := x 3) (hi := x 4 + 2 * x 5 + 16 * x 6 + 128 * x 7 + 256 * x 8) hk (by rw [ha]; congr 1; unfold aw; omega) (by unfold aBd at hx; omega) (by unfold aBd at hx; omega) hv (by decide) ?_
  rw [show 2 ^ 8 * (2 ^ 2 * (x 4 + 2 * x 5 + 16 * x 6 + 128 * x 7 + 256 * x 8) + v) + (x 0 + 8 * x 1 + 64 * x 2) = aw (upx x 3 v) from by simp [aw, upx]; omega]; exact hQ
theorem q_get4 {τ : mS} {k : Nat} {x : Nat → Nat} {Q : Int32 → mS → Prop} (hk : k < 60) (hx : aBd x) (ha : mI τ 2 k = nI (aw x)) (hQ : Q (nI (x 4)) τ) : w_L_get (nI k) (10 : Int32) (1 : Int32) τ Q := by
  have h := aw_lt hx
  refine g_get (f := 10) (b := 1) hk ha (by omega) (by decide) (by decide) ?_
  rw [show aw x / 2 ^ 10 % 2 ^ 1 = x 4 from by unfold aw aBd at *; omega]; exact hQ
theorem q_put4 {τ : mS} {k v : Nat} {x : Nat → Nat} {Q : mS → Prop} (hk : k < 60) (hx : aBd x) (ha : mI τ 2 k = nI (aw x)) (hv : v < 2) (hQ : Q (sI τ 2 k (nI (aw (upx x 4 v))))) : w_L_put (nI k) (10 : Int32) (1 : Int32) (nI v) τ Q := by
  refine g_put (f := 10) (b := 1) (lo := x 0 + 8 * x 1 + 64 * x 2 + 256 * x 3) (mid := x 4) (hi := x 5 + 8 * x 6 + 64 * x 7 + 128 * x 8) hk (by rw [ha]; congr 1; unfold aw; omega) (by unfold aBd at hx; omega) (by unfold aBd at hx; omega) hv (by decide) ?_
  rw [show 2 ^ 10 * (2 ^ 1 * (x 5 + 8 * x 6 + 64 * x 7 + 128 * x 8) + v) + (x 0 + 8 * x 1 + 64 * x 2 + 256 * x 3) = aw (upx x 4 v) from by simp [aw, upx]; omega]; exact hQ
theorem q_get5 {τ : mS} {k : Nat} {x : Nat → Nat} {Q : Int32 → mS → Prop} (hk : k < 60) (hx : aBd x) (ha : mI τ 2 k = nI (aw x)) (hQ : Q (nI (x 5)) τ) : w_L_get (nI k) (11 : Int32) (3 : Int32) τ Q := by
  have h := aw_lt hx
  refine g_get (f := 11) (b := 3) hk ha (by omega) (by decide) (by decide) ?_
  rw [show aw x / 2 ^ 11 % 2 ^ 3 = x 5 from by unfold aw aBd at *; omega]; exact hQ
theorem q_put5 {τ : mS} {k v : Nat} {x : Nat → Nat} {Q : mS → Prop} (hk : k < 60) (hx : aBd x) (ha : mI τ 2 k = nI (aw x)) (hv : v < 8) (hQ : Q (sI τ 2 k (nI (aw (upx x 5 v))))) : w_L_put (nI k) (11 : Int32) (3 : Int32) (nI v) τ Q := by
  refine g_put (f := 11) (b := 3) (lo := x 0 + 8 * x 1 + 64 * x 2 + 256 * x 3 + 1024 * x 4) (mid := x 5) (hi := x 6 + 8 * x 7 + 16 * x 8) hk (by rw [ha]; congr 1; unfold aw; omega) (by unfold aBd at hx; omega) (by unfold aBd at hx; omega) hv (by decide) ?_
  rw [show 2 ^ 11 * (2 ^ 3 * (x 6 + 8 * x 7 + 16 * x 8) + v) + (x 0 + 8 * x 1 + 64 * x 2 + 256 * x 3 + 1024 * x 4) = aw (upx x 5 v) from by simp [aw, upx]; omega]; exact hQ
theorem q_get6 {τ : mS} {k : Nat} {x : Nat → Nat} {Q : Int32 → mS → Prop} (hk : k < 60) (hx : aBd x) (ha : mI τ 2 k = nI (aw x)) (hQ : Q (nI (x 6)) τ) : w_L_get (nI k) (14 : Int32) (3 : Int32) τ Q := by
  have h := aw_lt hx
  refine g_get (f := 14) (b := 3) hk ha (by omega) (by decide) (by decide) ?_
  rw [show aw x / 2 ^ 14 % 2 ^ 3 = x 6 from by unfold aw aBd at *; omega]; exact hQ
theorem q_put6 {τ : mS} {k v : Nat} {x : Nat → Nat} {Q : mS → Prop} (hk : k < 60) (hx : aBd x) (ha : mI τ 2 k = nI (aw x)) (hv : v < 8) (hQ : Q (sI τ 2 k (nI (aw (upx x 6 v))))) : w_L_put (nI k) (14 : Int32) (3 : Int32) (nI v) τ Q := by
  refine g_put (f := 14) (b := 3) (lo := x 0 + 8 * x 1 + 64 * x 2 + 256 * x 3 + 1024 * x 4 + 2048 * x 5) (mid := x 6) (hi := x 7 + 2 * x 8) hk (by rw [ha]; congr 1; unfold aw; omega) (by unfold aBd at hx; omega) (by unfold aBd at hx; omega) hv (by decide) ?_
  rw [show 2 ^ 14 * (2 ^ 3 * (x 7 + 2 * x 8) + v) + (x 0 + 8 * x 1 + 64 * x 2 + 256 * x 3 + 1024 * x 4 + 2048 * x 5) = aw (upx x 6 v) from by simp [aw, upx]; omega]; exact hQ
theorem q_get7 {τ : mS} {k : Nat} {x : Nat → Nat} {Q : Int32 → mS → Prop} (hk : k < 60) (hx : aBd x) (ha : mI τ 2 k = nI (aw x)) (hQ : Q (nI (x 7)) τ) : w_L_get (nI k) (17 : Int32) (1 : Int32) τ Q := by
  have h := aw_lt hx
  refine g_get (f := 17) (b := 1) hk ha (by omega) (by decide) (by decide) ?_
  rw [show aw x / 2 ^ 17 % 2 ^ 1 = x 7 from by unfold aw aBd at *; omega]; exact hQ
theorem q_put7 {τ : mS} {k v : Nat} {x : Nat → Nat} {Q : mS → Prop} (hk : k < 60) (hx : aBd x) (ha : mI τ 2 k = nI (aw x)) (hv : v < 2) (hQ : Q (sI τ 2 k (nI (aw (upx x 7 v))))) : w_L_put (nI k) (17 : Int32) (1 : Int32) (nI v) τ Q := by
  refine g_put (f := 17) (b := 1) (lo := x 0 + 8 * x 1 + 64 * x 2 + 256 * x 3 + 1024 * x 4 + 2048 * x 5 + 16384 * x 6) (mid := x 7) (hi := x 8) hk (by rw [ha]; congr 1; unfold aw; omega) (by unfold aBd at hx; omega) (by unfold aBd at hx; omega) hv (by decide) ?_
  rw [show 2 ^ 17 * (2 ^ 1 * (x 8) + v) + (x 0 + 8 * x 1 + 64 * x 2 + 256 * x 3 + 1024 * x 4 + 2048 * x 5 + 16384 * x 6) = aw (upx x 7 v) from by simp [aw, upx]; omega]; exact hQ
theorem q_get8 {τ : mS} {k : Nat} {x : Nat → Nat} {Q : Int32 → mS → Prop} (hk : k < 60) (hx : aBd x) (ha : mI τ 2 k = nI (aw x)) (hQ : Q (nI (x 8)) τ) : w_L_get (nI k) (18 : Int32) (2 : Int32) τ Q := by
  have h := aw_lt hx
  refine g_get (f := 18) (b := 2) hk ha (by omega) (by decide) (by decide) ?_
  rw [show aw x / 2 ^ 18 % 2 ^ 2 = x 8 from by unfold aw aBd at *; omega]; exact hQ
theorem q_put8 {τ : mS} {k v : Nat} {x : Nat → Nat} {Q : mS → Prop} (hk : k < 60) (hx : aBd x) (ha : mI τ 2 k = nI (aw x)) (hv : v < 4) (hQ : Q (sI τ 2 k (nI (aw (upx x 8 v))))) : w_L_put (nI k) (18 : Int32) (2 : Int32) (nI v) τ Q := by
  refine g_put (f := 18) (b := 2) (lo := x 0 + 8 * x 1 + 64 * x 2 + 256 * x 3 + 1024 * x 4 + 2048 * x 5 + 16384 * x 6 + 131072 * x 7) (mid := x 8) (hi := 0) hk (by rw [ha]; congr 1; unfold aw; omega) (by unfold aBd at hx; omega) (by unfold aBd at hx; omega) hv (by decide) ?_
  rw [show 2 ^ 18 * (2 ^ 2 * (0) + v) + (x 0 + 8 * x 1 + 64 * x 2 + 256 * x 3 + 1024 * x 4 + 2048 * x 5 + 16384 * x 6 + 131072 * x 7) = aw (upx x 8 v) from by simp [aw, upx]; omega]; exact hQ
theorem q_put0_3 {τ : mS} {k : Nat} {x : Nat → Nat} {Q : mS → Prop} (hk : k < 60) (hx : aBd x) (ha : mI τ 2 k = nI (aw x)) (hQ : Q (sI τ 2 k (nI (aw (up0 x 3 7))))) : w_L_put (nI k) (8 : Int32) (10 : Int32) (0 : Int32) τ Q := by
  refine g_put (f := 8) (b := 10) (v := 0) (lo := x 0 + 8 * x 1 + 64 * x 2) (mid := x 3 + 4 * x 4 + 8 * x 5 + 64 * x 6 + 512 * x 7) (hi := x 8) hk (by rw [ha]; congr 1; unfold aw; omega) (by unfold aBd at hx; omega) (by unfold aBd at hx; omega) (by decide) (by decide) ?_
  rw [show 2 ^ 8 * (2 ^ 10 * (x 8) + 0) + (x 0 + 8 * x 1 + 64 * x 2) = aw (up0 x 3 7) from by simp [aw, up0]; omega]; exact hQ
theorem q_put0_2 {τ : mS} {k : Nat} {x : Nat → Nat} {Q : mS → Prop} (hk : k < 60) (hx : aBd x) (ha : mI τ 2 k = nI (aw x)) (hQ : Q (sI τ 2 k (nI (aw (up0 x 2 7))))) : w_L_put (nI k) (6 : Int32) (12 : Int32) (0 : Int32) τ Q := by
  refine g_put (f := 6) (b := 12) (v := 0) (lo := x 0 + 8 * x 1) (mid := x 2 + 4 * x 3 + 16 * x 4 + 32 * x 5 + 256 * x 6 + 2048 * x 7) (hi := x 8) hk (by rw [ha]; congr 1; unfold aw; omega) (by unfold aBd at hx; omega) (by unfold aBd at hx; omega) (by decide) (by decide) ?_
  rw [show 2 ^ 6 * (2 ^ 12 * (x 8) + 0) + (x 0 + 8 * x 1) = aw (up0 x 2 7) from by simp [aw, up0]; omega]; exact hQ
theorem l_low6 {x : Nat → Nat} (h : aBd x) : nI (aw x) &&& 63 = nI (x 0 + 8 * x 1) := by
  have h2 := aw_lt h
  rw [pk_andN (n := aw x) (m := 63) (by omega) 6 (by decide)]
  congr 1
  unfold aw aBd at *
  omega
theorem l_low3 {x : Nat → Nat} (h : aBd x) : nI (aw x) &&& 7 = nI (x 0) := by
  have h2 := aw_lt h
  rw [pk_andN (n := aw x) (m := 7) (by omega) 3 (by decide)]
  congr 1
  unfold aw aBd at *
  omega
/-- a row of asked services, packed from a place on -/
def rwv (f : Nat → Nat) : Nat → Nat → Nat
  | 0, _ => 0
  | k + 1, j => (f j + 1) + 8 * rwv f k (j + 1)
theorem rwv_lt {f : Nat → Nat} : ∀ (k j : Nat), (∀ i, j ≤ i → i < j + k → f i < 6) → rwv f k j < 8 ^ k := by
  intro k
  induction k with
  | zero => intro j _; exact Nat.one_pos
  | succ k ih =>
    intro j h
    have h1 := ih (j + 1) (fun i h2 h3 => h i (by omega) (by omega))
    have h2 := h j (Nat.le_refl _) (by omega)
    show (f j + 1) + 8 * rwv f k (j + 1) < 8 ^ (k + 1)
    rw [Nat.pow_succ]
    omega
def pW (τ μ : mS) (c pl : Nat) : Prop := ∃ (z : Nat) (f : Nat → Nat), z ≤ 3 ∧ pl < z ∧ mI μ 21 c = nI z ∧ (∀ j, j < z → f j < 6 ∧ mI μ 20 (3 * c + j) = nI (f j)) ∧ mI τ 7 c = nI (rwv f (z - pl) pl)
def pQ (τ μ : mS) (n : Nat) (x : Nat → Nat) (δ c : Nat) : Prop := mI μ 22 c = nI (x 2) ∧ mI μ 23 c = nI (x 3) ∧ mI μ 24 c = nI (x 4) ∧ x 5 = cnt n (fT μ c) + δ ∧ x 6 = cnt n (fO μ c) + δ ∧ (x 7 = 0 ↔ ∀ d, d < n → qTry μ c d → mI μ 15 d ≠ 3) ∧ (x 5 + x 4 ≤ x 3 + 2 ∧ x 3 ≤ 2) ∧ (x 5 = 1 → (∀ d, d < n → qTry μ c d → mI τ 5 c = mI μ 18 d) ∧ (δ = 1 → mI τ 5 c = mI μ 0 1)) ∧ pW τ μ c (x 2)
def pC (τ μ : mS) (n : Nat) (x : Nat → Nat) (δ c : Nat) : Prop := aBd x ∧ mI τ 2 c = nI (aw x) ∧ mI μ 12 c = nI (x 0) ∧ mI μ 15 c = nI (x 1) ∧ (∀ p, p < c → mI μ 14 c = nI p → mI μ 19 c = nI (x 8)) ∧ mI τ 3 c = mI μ 13 c ∧ mI τ 4 c = mI μ 14 c ∧ mI τ 6 c = mI μ 17 c ∧ (x 1 = 1 → mI τ 5 c = mI μ 16 c) ∧ (-(c : Int) ≤ (mI μ 13 c).toInt ∧ (mI μ 13 c).toInt ≤ 2000) ∧ (x 1 = 2 → δ ≠ 2 → pQ τ μ n x δ c)
def pS (τ μ : mS) (s : Nat) : Prop := (∃ w, w ≤ 1000 ∧ mI μ 1 s = nI w) ∧ (∃ (a : Nat) (f : Nat → Nat), a ≤ 3 ∧ mI μ 4 s = nI a ∧ (∀ j, j < a → f j < 6 ∧ mI μ 5 (3 * s + j) = nI (f j)) ∧ mI τ 1 (10 * s + 3) = nI (rwv f a 0)) ∧ mI τ 1 (10 * s) = mI μ 1 s ∧ mI τ 1 (10 * s + 1) = mI μ 2 s ∧ mI τ 1 (10 * s + 2) = mI μ 3 s ∧ mI τ 1 (10 * s + 4) = mI μ 6 s ∧ mI τ 1 (10 * s + 5) = mI μ 7 s ∧ mI τ 1 (10 * s + 6) = mI μ 8 s ∧ mI τ 1 (10 * s + 7) = mI μ 9 s ∧ mI τ 1 (10 * s + 8) = mI μ 10 s ∧ mI τ 1 (10 * s + 9) = mI μ 11 s
def pG (τ μ : mS) (n : Nat) : Prop := mN τ = 8 ∧ mI τ 0 0 = mI μ 0 1 ∧ mI τ 0 1 = nI n ∧ mI τ 0 2 = nI (cnt n (fR μ)) ∧ n < 60 ∧ ∃ t, t ≤ 1000 ∧ mI μ 0 1 = nI t
def PL (τ μ : mS) (n : Nat) (F : Nat → Nat → Nat) (δ : Nat → Nat) : Prop := pG τ μ n ∧ (∀ s, s < 6 → pS τ μ s) ∧ ∀ c, c < n → pC τ μ n (F c) (δ c) c
abbrev d0 : Nat → Nat := fun _ => 0
