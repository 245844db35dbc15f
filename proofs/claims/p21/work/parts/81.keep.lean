/-- what is below stays over; what was thrown stays -/
def CZ (z : Int32) (n : Nat) (μ : mS) : Prop := wCl μ n ∧ mI μ 0 0 = z
theorem cz_c {μ μ' : mS} {n : Nat} {z : Int32} (h : CZ z n μ) (h15 : ∀ d, d < n → (mI μ' 15 d < 3 ↔ mI μ 15 d < 3)) (h14 : ∀ d, d < n → mI μ' 14 d = mI μ 14 d) (h0 : mI μ' 0 0 = mI μ 0 0) : CZ z n μ' := by
  refine ⟨fun c p hc hp hpar hov => ?_, h0.trans h.2⟩
  rw [h14 c hc] at hpar
  rw [h15 c hc]
  rw [h15 p hp] at hov
  exact h.1 c p hc hp hpar hov
theorem cl_step {μ : mS} {n d : Nat} (hM : wM μ n) (hd : d < n) (h : ∀ c p, c < d → mI μ 14 c = nI p → p < n → ¬ mI μ 15 p < 3 → ¬ mI μ 15 c < 3) : ∀ c p, c < d + 1 → mI (eStep μ d) 14 c = nI p → p < n → ¬ mI (eStep μ d) 15 p < 3 → ¬ mI (eStep μ d) 15 c < 3 := by
  have hn := hM.2.2.2.1
  intro c p hc hpar hp hov
  rw [eStep_o (by omega) (by omega)] at hpar
  have hpc := wM_par_gt hM (by omega) (by omega) hpar
  by_cases hcd : c = d
  · subst hcd
    rw [eStep_lt hpc] at hov
    unfold eStep
    by_cases hq : eCond μ c
    · rw [if_pos hq]
      unfold eEnd
      rw [oI (by omega), nIi]
      exact i_nlt3 (by omega) (by omega)
    · rw [if_neg hq]
      exact fun ho => hq ⟨ho, by rw [hpar]; exact i_ne1 (by omega), by rw [qP_e hpar (by omega)]; exact hov⟩
  · rw [eStep_lt (by omega)] at hov ⊢
    exact h c p (by omega) hpar hp hov
theorem cl_loop {n : Nat} : ∀ (k d : Nat) (μ : mS), d + k = n → wM μ n → (∀ c p, c < d → mI μ 14 c = nI p → p < n → ¬ mI μ 15 p < 3 → ¬ mI μ 15 c < 3) → wCl (eLoop k d μ) n := by
  intro k
  induction k with
  | zero =>
    intro d μ hk _ h c p hc hp hpar hov
    have hk : d = n := hk
    exact h c p (by omega) hpar hp hov
  | succ k ih => intro d μ hk hM h; exact ih (d + 1) _ (by omega) (wM_step hM (by omega)) (cl_step hM (by omega) h)
theorem cz_fin {μ : mS} {n c w : Nat} {z : Int32} (hM : wM μ n) (h : CZ z n μ) (hc : c < n) (hw3 : 3 ≤ w) (hw : w < 8) : CZ z n (eFin μ c w) := by
  have hn := hM.2.2.2.1
  refine ⟨?_, by rw [eFin_o (by omega) (by omega) (by omega) (by omega)]; exact h.2⟩
  unfold eFin
  rw [qN_e hM]
  refine cl_loop _ _ _ (by omega) (wM_close hM hc hw3 hw) (fun d p hd hpar hp hov => ?_)
  rw [eC_o (by omega) (by omega) (by omega)] at hpar
  have hpd := wM_par_gt hM (by omega) (by omega) hpar
  by_cases hdc : d = c
  · subst hdc; rw [eC_15]; exact i_nlt3 hw3 (by omega)
  · rw [eC_o (by omega) (by omega) (by omega)] at hov ⊢
    exact h.1 d p (by omega) hp hpar hov
theorem cz_trb {μ : mS} {n s : Nat} {z : Int32} (h : CZ z n μ) : CZ z n (eTrb μ s) := cz_c h (fun d _ => by rw [eTrb_o (by omega)]) (fun d _ => eTrb_o (by omega)) (eTrb_o (by omega))
theorem cz_late {μ : mS} {n c : Nat} {z : Int32} (hM : wM μ n) (h : CZ z n μ) (hc : c < n) : CZ z n (eLate μ c) := by
  unfold eLate
  split
  · exact cz_trb (cz_fin (w := 5) hM h hc (by omega) (by omega))
  · exact h
theorem cz_work {μ : mS} {n c : Nat} {z : Int32} (hM : wM μ n) (h : CZ z n μ) (hc : c < n) : CZ z n (eWork μ c) := by
  unfold eWork
  split
  · next q =>
    have hM1 : wM (eWk1 μ (qS μ c)) n := wM_wk1 hM
    have h1 : CZ z n (eWk1 μ (qS μ c)) := cz_c h (fun d _ => by rw [eWk1_o (by omega)]) (fun d _ => eWk1_o (by omega)) (eWk1_o (by omega))
    have hst : mI (eWk1 μ (qS μ c)) 15 c = 1 := by rw [eWk1_o (by omega)]; exact q.1
    unfold eWk2
    split
    · exact cz_trb (cz_fin (w := 4) hM1 h1 hc (by omega) (by omega))
    · split
      · exact cz_fin (w := 3) hM1 h1 hc (by omega) (by omega)
      · refine cz_c h1 (fun d _ => ?_) (fun d _ => eAsk_o (by omega) (by omega)) (eAsk_o (by omega) (by omega))
        by_cases hdc : d = c
        · subst hdc; rw [eAsk_x.1, hst]; decide
        · rw [eAsk_o (by omega) (by omega)]
  · exact h
theorem cz_can {μ : mS} {n p d : Nat} {z : Int32} (hM : wM μ n) (h : CZ z n μ) (hd : d < n) : CZ z n (eCan p μ d) := by
  unfold eCan
  split
  · exact cz_fin (w := 7) hM h hd (by omega) (by omega)
  · exact h
theorem cz_go {μ : mS} {n p : Nat} {z : Int32} (hM : wM μ n) (h : CZ z n μ) (hp : p < n) (hst : mI μ 15 p = 2) : CZ z n (eGo μ p) := by
  obtain ⟨g1, g2, g3⟩ := goL_all hM hp hst
  have hG : CZ z n (eGoL μ p) := by
    unfold eGoL
    rw [qN_e hM]
    exact (upL_keep (P := fun μ => wM μ n ∧ CZ z n μ) (fun μ c hc q => ⟨wM_can q.1 hc, cz_can q.1 q.2 hc⟩) _ _ _ (by omega) ⟨hM, h⟩).2
  unfold eGo eNxt
  split
  · exact cz_c (cz_fin (w := 3) g1 hG hp (by omega) (by omega)) (fun d _ => by rw [oI (by omega), oI (by omega)]) (fun d _ => by rw [oI (by omega), oI (by omega)]) (by rw [oI (by omega), oI (by omega)])
  · exact cz_c hG (fun d _ => by rw [oI (by omega), oI (by omega), oI (by omega)]) (fun d _ => by rw [oI (by omega), oI (by omega), oI (by omega)]) (by rw [oI (by omega), oI (by omega), oI (by omega)])
theorem cz_jdg {μ : mS} {n c : Nat} {z : Int32} (hM : wM μ n) (h : CZ z n μ) (hc : c < n) : CZ z n (eJdg μ c) := by
  unfold eJdg
  split
  · next q =>
    unfold eLook
    split
    · exact cz_go hM h hc q.1
    · split
      · split
        · unfold eAgn
          exact cz_c h (fun d _ => by rw [oI (by omega), oI (by omega), oI (by omega)]) (fun d _ => by rw [oI (by omega), oI (by omega), oI (by omega)]) (by rw [oI (by omega), oI (by omega), oI (by omega)])
        · exact cz_fin (w := 4) hM h hc (by omega) (by omega)
      · split
        · exact cz_c h (fun d _ => by rw [oI (by omega)]) (fun d _ => by rw [oI (by omega)]) (by rw [oI (by omega)])
        · exact h
  · exact h
theorem dnL_keep {f : mS → Nat → mS} {P : mS → Prop} {n : Nat} (hf : ∀ μ c, c < n → P μ → P (f μ c)) : ∀ (k : Nat) (μ : mS), k ≤ n → P μ → P (dnL f k μ) := by
  intro k
  induction k with
  | zero => intro μ _ h; exact h
  | succ k ih => intro μ hk h; exact ih _ (by omega) (hf μ k (by omega) h)
theorem cz_tq {μ : mS} {n s c : Nat} {z : Int32} (hM : wM μ n) (h : CZ z n μ) (hc : c < n) : CZ z n (eTq s μ c) := by
  unfold eTq
  split
  · next q =>
    split
    · exact cz_fin (w := 6) hM h hc (by omega) (by omega)
    · unfold eWrk
      refine cz_c h (fun d _ => ?_) (fun d _ => by rw [oI (by omega), oI (by omega)]) (by rw [oI (by omega), oI (by omega)])
      by_cases hdc : d = c
      · subst hdc; rw [oI (by omega), nIi, q.1.2]; decide
      · rw [oI (by omega), oI (by omega)]
  · exact h
theorem cz_TQ {μ : mS} {n s : Nat} {z : Int32} (hM : wM μ n) (h : CZ z n μ) : CZ z n (eTQ μ s) := by
  unfold eTQ
  rw [qN_e hM]
  exact (upL_keep (P := fun μ => wM μ n ∧ CZ z n μ) (fun μ c hc q => ⟨wM_tq q.1 hc, cz_tq q.1 q.2 hc⟩) _ _ _ (by omega) ⟨hM, h⟩).2
theorem cz_born {μ : mS} {n s : Nat} {z : Int32} {dl : Int32} {par : Option Nat} (hM : wM μ n) (hn : n < 200) (hs : s < 6) (h : CZ z n μ) (hp : ∀ p, par = some p → p < n ∧ mI μ 15 p = 2) : CZ z (n + 1) (eBorn μ n s dl par) := by
  obtain ⟨x12, x13, x14, x15, x17, x18, x19, x0⟩ := eBorn_x (μ := μ) (n := n) (s := s) (dl := dl) (par := par)
  have o := fun a b => eBorn_o (μ := μ) (n := n) (s := s) (dl := dl) (par := par) (a := a) (b := b)
  have hB := wM_born (dl := dl) hM hn hs hp
  refine ⟨fun c p hc hp' hpar hov => ?_, by rw [o _ _ (by omega) (by omega)]; exact h.2⟩
  have hpc := wM_par_gt hB hc (by omega) hpar
  rw [o 15 p (by omega) (by omega)] at hov
  by_cases hcn : c = n
  · subst hcn
    rw [x14] at hpar
    have hpp : par = some p := by
      cases hq : par with
      | none => rw [hq] at hpar; exact absurd hpar (i_m1 (by omega))
      | some p' => rw [hq] at hpar; rw [i_inj (by have := (hp p' hq).1; omega) (by omega) hpar]
    rw [(hp p hpp).2] at hov
    exact absurd (by decide) hov
  · rw [o _ _ (by omega) (by omega)] at hpar ⊢
    exact h.1 c p (by omega) (by omega) hpar hov
theorem cz_beg {μ : mS} {n c s : Nat} {z : Int32} (hM : wM μ n) (h : CZ z n μ) (hc : c < n) (ho : mI μ 15 c < 3) : CZ z n (eBeg μ n c s) := by
  unfold eBeg
  split
  · exact cz_fin (w := 4) hM h hc (by omega) (by omega)
  · split
    · exact cz_fin (w := 6) hM h hc (by omega) (by omega)
    · split
      · unfold eWrk
        refine cz_c h (fun d _ => ?_) (fun d _ => by rw [oI (by omega), oI (by omega)]) (by rw [oI (by omega), oI (by omega)])
        by_cases hdc : d = c
        · subst hdc; rw [oI (by omega), nIi]; exact ⟨fun _ => ho, fun _ => by decide⟩
        · rw [oI (by omega), oI (by omega)]
      · split
        · unfold eQue
          refine cz_c h (fun d _ => ?_) (fun d _ => by rw [oI (by omega)]) (by rw [oI (by omega)])
          by_cases hdc : d = c
          · subst hdc; rw [nIi]; exact ⟨fun _ => ho, fun _ => by decide⟩
          · rw [oI (by omega)]
        · exact cz_fin (w := 6) hM h hc (by omega) (by omega)
theorem cz_mk1 {μ : mS} {n c : Nat} {z : Int32} (hM : wM μ n) (h : CZ z n μ) (hc : c < n) (hst : mI μ 15 c = 2) : CZ z (if n = 200 then n else n + 1) (eMk1 μ c) := by
  have hn := hM.2.2.2.1
  unfold eMk1
  rw [qN_e hM]
  split
  · exact cz_fin (w := 4) hM h hc (by omega) (by omega)
  · obtain ⟨k, r, hk, hr, h22, h20, hqa⟩ := wM_asked hM hc hst
    rw [hqa]
    have hp : ∀ p, some c = some p → p < n ∧ mI μ 15 p = 2 := fun p hp => by cases hp; exact ⟨hc, hst⟩
    exact cz_beg (wM_born (dl := mI μ 13 c - 1) (par := some c) hM (by omega) hr hp) (cz_born hM (by omega) hr h hp) (by omega) (by rw [eBorn_x.2.2.2.1]; decide)
theorem cz_mkC {μ : mS} {n c : Nat} {z : Int32} (hM : wM μ n) (h : CZ z n μ) (hc : c < n) : ∃ n', n ≤ n' ∧ wM (eMkC μ c) n' ∧ CZ z n' (eMkC μ c) := by
  unfold eMkC
  split
  · next q =>
    have h1 : CZ z n (sI μ 24 c 0) := cz_c h (fun d _ => by rw [oI (by omega)]) (fun d _ => by rw [oI (by omega)]) (by rw [oI (by omega)])
    have hst : mI (sI μ 24 c 0) 15 c = 2 := by rw [oI (by omega)]; exact q.2
    refine ⟨_, ?_, wM_mk1 (wM_24 hM) hc hst, cz_mk1 (wM_24 hM) h1 hc hst⟩
    split <;> omega
  · exact ⟨n, Nat.le_refl _, hM, h⟩
theorem cz_mksL {z : Int32} : ∀ (k c n : Nat) (μ : mS), wM μ n → CZ z n μ → c + k ≤ n → ∃ n', n ≤ n' ∧ wM (upL eMkC k c μ) n' ∧ CZ z n' (upL eMkC k c μ) := by
  intro k
  induction k with
  | zero => intro c n μ h h' _; exact ⟨n, Nat.le_refl _, h, h'⟩
  | succ k ih =>
    intro c n μ h h' hk
    obtain ⟨n1, h1, h2, h3⟩ := cz_mkC h h' (c := c) (by omega)
    obtain ⟨n2, h4, h5, h6⟩ := ih (c + 1) n1 _ h2 h3 (by omega)
    exact ⟨n2, by omega, h5, h6⟩
theorem cz_mks {μ : mS} {n : Nat} {z : Int32} (hM : wM μ n) (h : CZ z n μ) : ∃ n', n ≤ n' ∧ wM (eMks μ) n' ∧ CZ z n' (eMks μ) := by
  unfold eMks
  rw [qN_e hM]
  refine cz_mksL n 0 n _ (wM_sn (μ := μ) _ _ _ hM) ?_ (by omega)
  exact cz_c h (fun d _ => by rw [sn_o (by omega)]) (fun d _ => sn_o (by omega) _ _ _) (sn_o (by omega) _ _ _)
/-! one tick -/
def eT0 (μ : mS) : mS := sI μ 0 1 (mI μ 0 1 + 1)
def eT4 (μ : mS) : mS := dnL eJdg (qN μ) (upL eWork (qN μ) 0 (upL eLate (qN μ) 0 (eT0 μ)))
def eTick (μ : mS) : mS := upL eTQ 6 0 (eMks (eT4 μ))
theorem t4_keep {μ : mS} {n : Nat} {z : Int32} (hM : wM μ n) (h : CZ z n μ) : wM (eT4 μ) n ∧ CZ z n (eT4 μ) := by
  have h0 : wM (eT0 μ) n ∧ CZ z n (eT0 μ) := ⟨wM_ir hM (by unfold irr; omega), cz_c h (fun d _ => by unfold eT0; rw [oI (by omega)]) (fun d _ => by unfold eT0; rw [oI (by omega)]) (by unfold eT0; rw [oI (by omega)])⟩
  unfold eT4
  rw [qN_e hM]
  exact dnL_keep (P := fun μ => wM μ n ∧ CZ z n μ) (fun μ c hc q => ⟨wM_jdg q.1 hc, cz_jdg q.1 q.2 hc⟩) n _ (Nat.le_refl _) (upL_keep (P := fun μ => wM μ n ∧ CZ z n μ) (fun μ c hc q => ⟨wM_work q.1 hc, cz_work q.1 q.2 hc⟩) n 0 _ (by omega) (upL_keep (P := fun μ => wM μ n ∧ CZ z n μ) (fun μ c hc q => ⟨wM_late q.1 hc, cz_late q.1 q.2 hc⟩) n 0 _ (by omega) h0))
theorem tick_keep {μ : mS} {n : Nat} {z : Int32} (hM : wM μ n) (h : CZ z n μ) : ∃ n', n ≤ n' ∧ qN (eMks (eT4 μ)) = n' ∧ wM (eTick μ) n' ∧ CZ z n' (eTick μ) := by
  obtain ⟨h1, h2⟩ := t4_keep hM h
  obtain ⟨n', h3, h4, h5⟩ := cz_mks h1 h2
  have h6 := upL_keep (f := eTQ) (n := 6) (P := fun μ => wM μ n' ∧ CZ z n' μ) (fun μ c hc q => ⟨wM_TQ q.1, cz_TQ q.1 q.2⟩) 6 0 _ (by omega) ⟨h4, h5⟩
  exact ⟨n', h3, qN_e h4, h6.1, h6.2⟩
def itT : Nat → mS → mS
  | 0, μ => μ
  | k + 1, μ => itT k (eTick μ)
theorem itT_keep {z : Int32} : ∀ (k n : Nat) (μ : mS), wM μ n → CZ z n μ → ∃ n', n ≤ n' ∧ wM (itT k μ) n' ∧ CZ z n' (itT k μ) := by
  intro k
  induction k with
  | zero => intro n μ h1 h2; exact ⟨n, Nat.le_refl _, h1, h2⟩
  | succ k ih =>
    intro n μ h1 h2
    obtain ⟨n1, h3, -, h5, h6⟩ := tick_keep h1 h2
    obtain ⟨n2, h7, h8, h9⟩ := ih n1 _ h5 h6
    exact ⟨n2, by omega, h8, h9⟩
