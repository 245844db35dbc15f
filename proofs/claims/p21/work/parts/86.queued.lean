theorem cnt_at {f : Nat → Bool} : ∀ (n j : Nat), j < cnt n f → ∃ e, e < n ∧ f e = true ∧ cnt e f = j := by
  intro n
  induction n with
  | zero => intro j h; exact absurd h (Nat.not_lt_zero _)
  | succ n ih =>
    intro j h
    rw [cnt_succ] at h
    by_cases hj : j < cnt n f
    · obtain ⟨e, h1, h2, h3⟩ := ih j hj
      exact ⟨e, by omega, h2, h3⟩
    · cases hf : f n with
      | false => rw [hf] at h; simp at h; omega
      | true => rw [hf] at h; simp at h; exact ⟨n, Nat.lt_succ_self n, hf, by omega⟩
theorem cnt_mono {f : Nat → Bool} {a b : Nat} (h : a ≤ b) : cnt a f ≤ cnt b f := by
  induction b with
  | zero => have : a = 0 := by omega
            rw [this]; exact Nat.le_refl _
  | succ b ih =>
    by_cases hab : a = b + 1
    · rw [hab]; exact Nat.le_refl _
    · have := ih (by omega)
      rw [cnt_succ]; omega
theorem cnt_lt {f : Nat → Bool} {d n : Nat} (h : d < n) (hf : f d = true) : cnt d f < cnt n f := by
  have := cnt_mono (f := f) (a := d + 1) (b := n) h
  rw [cnt_succ, hf] at this
  simp at this
  omega
theorem cnt_inj {f : Nat → Bool} {d e : Nat} (hd : f d = true) (he : f e = true) (h : cnt d f = cnt e f) : d = e := by
  rcases Nat.lt_trichotomy d e with q | q | q
  · have := cnt_lt q hd; omega
  · exact q
  · have := cnt_lt q he; omega
