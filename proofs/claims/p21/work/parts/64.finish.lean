theorem mS_ext {σ σ' : mS} (hN : mN σ' = mN σ) (hI : ∀ a b, mI σ' a b = mI σ a b) (hR : ∀ a b, mR σ' a b = mR σ a b) : σ' = σ := by
  obtain ⟨a, b, c⟩ := σ
  obtain ⟨a', b', c'⟩ := σ'
  have h1 : a' = a := hN
  have h2 : b' = b := funext fun x => funext fun y => hI x y
  have h3 : c' = c := funext fun x => funext fun y => hR x y
  rw [h1, h2, h3]
def qP (μ : mS) (c : Nat) : Nat := (mI μ 14 c).toNatClampNeg
theorem qP_e {μ : mS} {c p : Nat} (h : mI μ 14 c = nI p) (hp : p < 200) : qP μ c = p := by unfold qP; rw [h, nI_clamp (by omega)]
abbrev eCond (μ : mS) (c : Nat) : Prop := mI μ 15 c < 3 ∧ mI μ 14 c ≠ -1 ∧ ¬ mI μ 15 (qP μ c) < 3
def eStep (μ : mS) (c : Nat) : mS := if eCond μ c then eEnd μ c 7 else μ
def eLoop : Nat → Nat → mS → mS
  | 0, _, μ => μ
  | k + 1, c, μ => eLoop k (c + 1) (eStep μ c)
def eLcnt : Nat → Nat → Int32 → mS → Int32
  | 0, _, x, _ => x
  | k + 1, c, x, μ => eLcnt k (c + 1) (if eCond μ c then x + 1 else x) (eStep μ c)
theorem eLoop_s {n d : Nat} {μ : mS} (h : d < n) : eLoop (n - d) d μ = eLoop (n - (d + 1)) (d + 1) (eStep μ d) := by
  rw [show n - d = (n - (d + 1)) + 1 by omega]; rfl
theorem eLcnt_s {n d : Nat} {x : Int32} {μ : mS} (h : d < n) : eLcnt (n - d) d x μ = eLcnt (n - (d + 1)) (d + 1) (if eCond μ d then x + 1 else x) (eStep μ d) := by
  rw [show n - d = (n - (d + 1)) + 1 by omega]; rfl
def qN (μ : mS) : Nat := (mI μ 0 13).toNatClampNeg
theorem qN_e {μ : mS} {n : Nat} (h : wM μ n) : qN μ = n := by unfold qN; rw [h.2.2.1, nI_clamp (by have := h.2.2.2.1; omega)]
def eFin (μ : mS) (c w : Nat) : mS := eLoop (qN μ - (c + 1)) (c + 1) (eClose μ c w)
def eFcn (μ : mS) (c w : Nat) : Int32 := eLcnt (qN μ - (c + 1)) (c + 1) 0 (eClose μ c w)
theorem eC7 {μ : mS} {c : Nat} : eClose μ c 7 = eEnd μ c 7 := if_neg (by decide)
theorem wM_step {μ : mS} {n c : Nat} (h : wM μ n) (hc : c < n) : wM (eStep μ c) n := by
  unfold eStep
  split
  · exact wM_end h hc (by omega) (by omega)
  · exact h
theorem eStep_o {μ : mS} {c a b : Nat} (h : a ≠ 15) (h2 : a ≠ 17) : mI (eStep μ c) a b = mI μ a b := by
  unfold eStep
  split
  · unfold eEnd; rw [oI (by omega), oI (by omega)]
  · rfl
theorem eLoop_o {a b : Nat} (h : a ≠ 15) (h2 : a ≠ 17) : ∀ (k c : Nat) (μ : mS), mI (eLoop k c μ) a b = mI μ a b := by
  intro k
  induction k with
  | zero => intro c μ; rfl
  | succ k ih => intro c μ; exact (ih (c + 1) (eStep μ c)).trans (eStep_o h h2)
theorem eTok_o {μ : mS} {s a b : Nat} (h : a ≠ 9) (h2 : a ≠ 10) : mI (eTok μ s) a b = mI μ a b := by unfold eTok; rw [oI (by omega), oI (by omega)]
theorem eEnd_tok {μ : mS} {c s w : Nat} : eEnd (eTok μ s) c w = eTok (eEnd μ c w) s := by
  unfold eEnd eTok
  simp (disch := omega) only [oI]
  rw [sI_cm (i := 9) (i' := 10) (by omega), sI_cm (i := 9) (i' := 15) (by omega), sI_cm (i := 10) (i' := 15) (by omega), sI_cm (i := 9) (i' := 17) (by omega), sI_cm (i := 10) (i' := 17) (by omega), sI_cm (i := 10) (i' := 9) (by omega)]
theorem eCond_tok {μ : mS} {c s : Nat} : eCond (eTok μ s) c ↔ eCond μ c := by
  unfold eCond qP
  rw [eTok_o (by omega) (by omega), eTok_o (by omega) (by omega), eTok_o (by omega) (by omega)]
theorem eStep_tok {μ : mS} {c s : Nat} : eStep (eTok μ s) c = eTok (eStep μ c) s := by
  unfold eStep
  by_cases h : eCond μ c
  · rw [if_pos h, if_pos (eCond_tok.mpr h), eEnd_tok]
  · rw [if_neg h, if_neg (fun q => h (eCond_tok.mp q))]
theorem eLoop_tok {s : Nat} : ∀ (k c : Nat) (μ : mS), eLoop k c (eTok μ s) = eTok (eLoop k c μ) s := by
  intro k
  induction k with
  | zero => intro c μ; rfl
  | succ k ih => intro c μ; exact (congrArg (eLoop k (c + 1)) eStep_tok).trans (ih (c + 1) (eStep μ c))
theorem eLcnt_tok {s : Nat} : ∀ (k c : Nat) (x : Int32) (μ : mS), eLcnt k c x (eTok μ s) = eLcnt k c x μ := by
  intro k
  induction k with
  | zero => intro c x μ; rfl
  | succ k ih =>
    intro c x μ
    show eLcnt k (c + 1) (if eCond (eTok μ s) c then x + 1 else x) (eStep (eTok μ s) c) = eLcnt k (c + 1) (if eCond μ c then x + 1 else x) (eStep μ c)
    rw [eStep_tok, ih]
    by_cases h : eCond μ c
    · rw [if_pos h, if_pos (eCond_tok.mpr h)]
    · rw [if_neg h, if_neg (fun q => h (eCond_tok.mp q))]
theorem nx_t {d n : Nat} (h : d < n) : nx d n = some (21 + d) := if_pos h
theorem nx_f {d n : Nat} (h : ¬ d < n) : nx d n = none := if_neg h
theorem nx_none {d n : Nat} (h : nx d n = none) : n ≤ d := by
  by_cases hd : d < n
  · rw [nx_t hd] at h; cases h
  · omega
theorem nx_some {d n i : Nat} (h : nx d n = some i) : d < n ∧ i = 21 + d := by
  by_cases hd : d < n
  · rw [nx_t hd] at h; cases h; exact ⟨hd, rfl⟩
  · rw [nx_f hd] at h; cases h
theorem R0.h_le {σ μ : mS} {n h c : Nat} (R : R0 σ μ n h) (ho : mI μ 15 c < 3) : h ≤ c := Nat.not_lt.mp fun q => R.2.2.2.2.2.2.2.1 c q ho
theorem R0.nxt {σ μ : mS} {n h c : Nat} (R : R0 σ μ n h) (hh : h ≤ c) (hc : c < n) : mR σ (21 + c) 8 = nx (c + 1) n := R.2.2.2.2.2.2.2.2.2.2.2.1 c hh hc
theorem R0.st {σ μ : mS} {n h c : Nat} (R : R0 σ μ n h) (hc : c < n) : mI σ (21 + c) 4 = mI μ 15 c := (R.2.2.2.2.1 c hc).2.2.2.2.2.2.1
theorem R0.mo {σ μ : mS} {n h c : Nat} (R : R0 σ μ n h) (hc : c < n) : mO kdC 0 (21 + c) σ := kO hc R.2.1.1
theorem R0.n2 {σ μ : mS} {n h : Nat} (R : R0 σ μ n h) : n ≤ 200 := R.1.2.2.2.1
theorem R0.now {σ μ : mS} {n h : Nat} (R : R0 σ μ n h) : mI σ 0 3 = mI μ 0 1 := R.2.1.2.2.2.1
theorem R0.svc {σ μ : mS} {n h c : Nat} (R : R0 σ μ n h) (hc : c < n) : ∃ s, s < 6 ∧ mI μ 12 c = nI s ∧ mR σ (21 + c) 1 = some (3 + 3 * s) := by
  obtain ⟨s, hs, hsv⟩ := (R.1.2.2.2.2.2.1 c hc).1
  exact ⟨s, hs, hsv, (R.2.2.2.2.1 c hc).2.2.1 s hs hsv⟩
theorem s_isOver {σ μ : mS} {n h d : Nat} {Q : Int32 → mS → Prop} (R : R0 σ μ n h) (hd : d < n) (h1 : mI μ 15 d < 3 → Q 0 σ) (h2 : ¬ mI μ 15 d < 3 → Q 1 σ) : w_X0_isOver (21 + d) σ Q := by
  unfold w_X0_isOver
  rw [R.st hd]
  exact ⟨R.mo hd, h1, h2⟩
theorem s_finish {σ μ : mS} {n h c w : Nat} {Q : Int32 → mS → Prop} (R : R0 σ μ n h) (hc : c < n) (ho : mI μ 15 c < 3) (hw3 : 3 ≤ w) (hw : w < 8) (hQ : ∀ σ', R0 σ' (eFin μ c w) n h → Q (eFcn μ c w) σ') : w_X2_finish (some (21 + c)) (nI w) σ Q := by
  have hh := R.h_le ho
  have hqn := qN_e R.1
  unfold w_X2_finish
  refine s_close R hc ho hw3 hw (fun σ1 R1 => ⟨21 + c, rfl, R1.mo hc, ?_⟩)
  rintro _ rfl
  rw [R1.nxt hh hc]
  refine ⟨fun k x r σ' => ∃ d μ', c < d ∧ d ≤ n ∧ k = n - d ∧ r = nx d n ∧ R0 σ' μ' n h ∧ eLoop (n - d) d μ' = eFin μ c w ∧ eLcnt (n - d) d x μ' = eFcn μ c w, ?_, n - (c + 1), c + 1, _, by omega, by omega, rfl, rfl, R1, by unfold eFin; rw [hqn], by unfold eFcn; rw [hqn]⟩
  rintro k x r σ' ⟨d, μ', hcd, hdn, rfl, rfl, R', e1, e2⟩
  refine ⟨fun hr => ?_, fun i hi => ?_⟩
  · have h1 := nx_none hr
    rw [show n - d = 0 by omega] at e1 e2
    have e1 : μ' = eFin μ c w := e1
    have e2 : x = eFcn μ c w := e2
    rw [e2]
    exact hQ _ (by rw [← e1]; exact R')
  · obtain ⟨hd, rfl⟩ := nx_some hi
    rw [eLoop_s hd] at e1
    rw [eLcnt_s hd] at e2
    have keep : ¬ eCond μ' d → ∃ k, k < n - d ∧ ∃ d' μ'', c < d' ∧ d' ≤ n ∧ k = n - d' ∧ mR σ' (21 + d) 8 = nx d' n ∧ R0 σ' μ'' n h ∧ eLoop (n - d') d' μ'' = eFin μ c w ∧ eLcnt (n - d') d' x μ'' = eFcn μ c w := fun hne => by
      rw [if_neg hne] at e2
      rw [show eStep μ' d = μ' from if_neg hne] at e1 e2
      exact ⟨n - (d + 1), by omega, d + 1, μ', by omega, by omega, rfl, R'.nxt (by omega) hd, R', e1, e2⟩
    refine ⟨R'.mo hd, s_isOver R' hd (fun ho' => ⟨fun q => absurd rfl q, fun _ => ⟨R'.mo hd, ?_⟩⟩) (fun hov => ⟨fun _ => ⟨R'.mo hd, ?_⟩, fun q => absurd q (by decide)⟩)⟩
    · rintro _ rfl
      obtain ⟨-, -, -, v4, v5, -⟩ := R'.2.2.2.2.1 d hd
      rcases (R'.1.2.2.2.2.2.1 d hd).2.1 with hpar | ⟨p, hp, hpar⟩
      · rw [v4 hpar]
        refine ⟨fun _ => ?_, fun i q => (by cases q)⟩
        rintro _ rfl
        exact keep (fun q => q.2.1 hpar)
      · rw [v5 p hp hpar]
        refine ⟨fun q => (by cases q), ?_⟩
        rintro _ ⟨⟩ _ rfl
        have hqp := qP_e hpar (by have := R.n2; omega)
        refine ⟨21 + p, rfl, R'.mo (by omega), s_isOver R' (by omega) (fun hpo => ⟨fun _ => ⟨R'.mo hd, ?_⟩, fun q => absurd rfl q⟩) (fun hpo => ⟨fun q => absurd q (by decide), fun _ => ?_⟩)⟩
        · rintro _ rfl
          exact keep (fun q => q.2.2 (by rw [hqp]; exact hpo))
        · have hcond : eCond μ' d := ⟨ho', by rw [hpar]; exact i_ne1 (by have := R.n2; omega), by rw [hqp]; exact hpo⟩
          rw [if_pos hcond] at e2
          rw [show eStep μ' d = eEnd μ' d 7 from if_pos hcond, ← eC7] at e1 e2
          refine s_close (w := 7) R' hd ho' (by omega) (by omega) (fun σ2 R2 => ⟨R2.mo hd, ?_⟩)
          rintro _ rfl
          exact ⟨n - (d + 1), by omega, d + 1, _, by omega, by omega, rfl, R2.nxt (by omega) hd, R2, e1, e2⟩
    · rintro _ rfl
      exact keep (fun q => hov q.1)
