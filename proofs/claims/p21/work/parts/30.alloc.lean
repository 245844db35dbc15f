/-! rows for methods that make cells or throw, over the store -/
section
variable {p : Program} {l : Launch} {e : Env} {R : Room} {s : State} {m : MethodId} {args : Array Value} {below : List Frame} {meth : Method} {c : Code} {H : Heap} {locs : List Loc} {cells slots : Nat} {Q : State → Prop}
variable {mc ms : Nat} {free : Addr → Prop} {A0 A1 : Nat → Prop} {H0 : Heap} {a : Array Value} {pc : Nat} {ls : Array Slot} {st0 rest : List Value}
theorem vx_callq {S SX : Type} {post : Option Nat → S → Prop} {px : SX → Prop} {B : S → State → Prop} {BX : String → SX → State → Prop} {AX : Nat → Prop} (hr : vx_Run p l e R s m args below meth c H locs cells slots mc ms (F0 m pc ls st0) rest (va_Qq post B A1 a) (vx_X px BX AX) free) (hS : va_S A0 H0 H locs) (hA : ∀ q, q < H.size → A1 q → A0 q) (hf : ∀ q, free q → A0 q) (hAX : ∀ q, q < H.size → AX q → A0 q)
    (kx : ∀ (E : String) (ce : Cell) (q9 : Addr) (u : SX) (t : State) (H1 : Heap) (locs1 : List Loc), t.heap = H1 → s.vm.Alike t.vm → px u → BX E u t → H.size ≤ H1.size → (∀ q : Nat, q < H.size → ¬ AX q → H1[q]? = H[q]?) → va_S A0 H0 H1 locs1 → H1[q9]? = some ce → ce.vm = .none → s.vm.findClass E = some ce.cls → vx_W p l e R s m args below meth c H1 locs1 (cells + mc) (slots + ms) Q (F0 m pc ls rest) q9)
    (kk : ∀ (r : Option Nat) (u : S) (t : State) (H1 : Heap) (locs1 : List Loc), t.heap = H1 → s.vm.Alike t.vm → post r u → B u t → H.size ≤ H1.size → (∀ q : Nat, q < H.size → ¬ A1 q → H1[q]? = H[q]?) → va_S A0 H0 H1 locs1 → W p l e R s m args below meth c H1 locs1 (cells + mc) (slots + ms) Q (F0 m (pc + 3) ls (va_rf r :: rest))) : W p l e R s m args below meth c H locs cells slots Q (F0 m pc ls st0) := by
  intro T hT X
  rcases hr T hT X with ⟨v, st₀, t, T', L, h0, X', hL, e1, e2, ⟨⟨r, u, hv, hp, hb⟩, hF⟩, st⟩ | ⟨q, st₀, t, T', L, E, ce, h0, X', hL, e1, e2, ⟨u, hp, hb, hF⟩, hce, hcv, hcl, st⟩
  · cases hv
    obtain ⟨k1, k2, k3⟩ := vx_keep h0 e1 hS hA hf hL hF
    obtain ⟨t2, a1, b1⟩ := kk r u t T'.heap (locs ++ L) e1.symm (by rw [← e2]; exact X'.warmed.alike) hp hb k1 k2 k3 T' rfl X'
    exact ⟨t2, st t2 a1, b1⟩
  · obtain ⟨k1, k2, k3⟩ := vx_keep h0 e1 hS hAX hf hL hF
    obtain ⟨t2, a1, b1⟩ := kx E ce q u t T'.heap (locs ++ L) e1.symm (by rw [← e2]; exact X'.warmed.alike) hp hb k1 k2 k3 (by rw [e1]; exact hce) hcv hcl T' rfl X'
    exact ⟨t2, st.trans a1, b1⟩
end

def mRb (fr lo b : Nat) : Room := { frames := fr, cells := b, slots := 18 * b, locals := lo }
def xIO : String := "java/lang/IndexOutOfBoundsException"
def xIA : String := "java/lang/IllegalArgumentException"
def xIS : String := "java/lang/IllegalStateException"
def xNm : List String := ["java/lang/RuntimeException", "java/lang/Exception"]
def mStr : List (Nat × String) := [(44, "a service asks services above it alone"), (55, "the service asks 3 already"), (74, "there are 200 calls"), (101, "the call is over, or no root"), (164, "so many are not queued"), (178, "no such service"), (180, "no such call"), (182, "an argument is out of range")]
def mNw : List Cond := [.castable xIO xIO, .castable xIA xIA, .castable xIS xIS, .declares (Bundle.initS "java/lang/RuntimeException"), .declares (Bundle.initS "java/lang/Exception"), .declares (Bundle.initS "java/lang/Throwable")]
theorem mNw_on : ∀ w ∈ mNw, w.onTables = true := by decide +kernel
theorem mNw_warm {s U : State} (hW : s.WarmedH U.vm) (h : ∀ w ∈ mNw, va_Nw w s) : ∀ w ∈ mNw, va_Nw w U := by
  intro w hw
  have h1 := h w hw
  simp only [mNw, List.mem_cons, List.not_mem_nil, or_false] at hw
  rcases hw with rfl | rfl | rfl | rfl | rfl | rfl
  · exact va_Nw.warmC hW h1
  · exact va_Nw.warmC hW h1
  · exact va_Nw.warmC hW h1
  · exact va_Nw.warmD hW h1
  · exact va_Nw.warmD hW h1
  · exact va_Nw.warmD hW h1
/-- what a throw needs of the start, in a world of its own -/
def mZ (ad : Nat → Nat) (U : State) (H : Heap) : Prop := vx_Zq Bundle.tN "UNASSIGNED_STACK" Bundle.steD (mA ad) U H ∧ vx_Zq Bundle.tN "SUPPRESSED_SENTINEL" Bundle.listD (mA ad) U H ∧ (∀ w ∈ mNw, va_Nw w U) ∧ ∀ q ∈ mStr, ∃ a, vk_R RX2 q.1 q.2 a U
def mPreZ (G : mG) (ad : Nat → Nat) (σ : mS) : State → Prop := fun U => mPre G kdC ad σ U ∧ mZ ad U U.heap
def mPw (G : mG) (ad : Nat → Nat) (σ : mS) (H : Heap) : Prop := (∀ i, i < mN σ → va_at G.1 vwCl (ad i, mE G kdC ad σ i) H) ∧ (∀ i j, ad i = ad j → i = j) ∧ ∀ i, kdC i ≠ (0, 0) → i < 26 → i < mN σ
def mXC (X : String → mS → Prop) (G : mG) (ad : Nat → Nat) : String → State → State → Prop := vx_X (fun _ : mS => True) (fun E u t => X E u ∧ mPw G ad u t.heap) (mA ad)
theorem mPw_of {G : mG} {ad : Nat → Nat} {σ : mS} {H H1 : Heap} (h : mP G kdC ad σ H) (hk : ∀ q : Nat, q < H.size → H1[q]? = H[q]?) : mPw G ad σ H1 := ⟨fun i hi => (h.1 i hi).kept (hk _ (h.1 i hi).lt), h.2.1, fun i h1 h2 => h.2.2.2 i h1 h2 (by decide)⟩
theorem mZ.at {ad : Nat → Nat} {s U : State} {H : Heap} {locs : List Loc} (Z : mZ ad s s.heap) (hS : va_S (mA ad) s.heap H locs) (hU : U.heap = H) (hW : s.WarmedH U.vm) : mZ ad U U.heap := by
  obtain ⟨h1, h2, h3, h4⟩ := Z
  rw [hU]
  exact ⟨(h1.kept hS.2.1).moved hW.alike, (h2.kept hS.2.1).moved hW.alike, mNw_warm hW h3, fun q hq => by
    obtain ⟨a, ha⟩ := h4 q hq
    exact ⟨a, ha.warm hW⟩⟩
theorem mPreZ.blind (G : mG) (ad : Nat → Nat) (σ : mS) (av : List Value) : FrameBlind (va_Pc av (mPreZ G ad σ)) := fun a U g mk q =>
  ⟨q.1, (mPre.blind G kdC ad σ av a U g mk ⟨q.1, q.2.1⟩).2, q.2.2.1.moved (u := U) (U := U.calling g mk a) (Vm.Alike.refl U.vm), q.2.2.2.1.moved (u := U) (U := U.calling g mk a) (Vm.Alike.refl U.vm), fun x hx => va_Nw.same (mNw_on x hx) (u := U) (U := U.calling g mk a) rfl (q.2.2.2.2.1 x hx), fun z hz => by
    obtain ⟨b, hb⟩ := q.2.2.2.2.2 z hz
    exact ⟨b, vk_R.same (u := U) (U := U.calling g mk a) rfl hb⟩⟩
section MT
variable {p : Program} {l : Launch} {e : Env} {R : Room} {s : State} {m : MethodId} {args : Array Value} {below : List Frame} {meth : Method} {c : Code} {H : Heap} {locs : List Loc} {cells slots : Nat} {Q : State → Prop}
variable {cc : ByteArray} {pc nL : Nat} {ls : Array Slot} {rest : List Value} {own : String} {G : mG} {kd : Nat → Nat × Nat} {ad : Nat → Nat} {σ : mS} {b u fr lo : Nat}
theorem mr_new (C : mX p s m c cc nL args own G) (hM : mM G kdC ad s σ H locs) {index : Nat} (hcl : Cond.classLink own index RX0 ∈ wsL_law) (hins : Cond.instantiable RX0 18 ∈ wsL_law) (hini : Cond.initialized RX0 ∈ wsL_law) (hu : u + 1 ≤ b) (hdg : decode cc pc = .ok (.new index, 3))
    (kk : ∀ H1 : Heap, mM G kdC ad s (sN σ) H1 locs → mO kdC 0 (mN σ) (sN σ) → W p l e (mRb fr lo b) s m args below meth c H1 locs (u + 1) (18 * (u + 1)) Q (F0 m (pc + 3) ls (mV ad (some (mN σ)) :: rest))) : W p l e (mRb fr lo b) s m args below meth c H locs u (18 * u) Q (F0 m pc ls rest) := by
  have hKn := C.2.1 0 _ rfl
  have hsz : ad (mN σ) = H.size := hM.1.2.2.1 0
  have h21 : 21 ≤ mN σ := hM.1.2.2.2 20 (by decide) (by decide) (by decide)
  have hkn : kdC (mN σ) = (0, 0) := by
    unfold kdC
    rw [if_neg (by omega), if_neg (by omega), if_neg (by omega), if_pos h21]
  have hts := C.1.2.2.2.2
  refine W.newcK C.1.1 C.1.2.1 C.1.2.2.2.1 (hts _ hcl) (hts _ hins) (hts _ hini) rfl hdg (show u + 1 ≤ b from hu) (show 18 * u + 18 ≤ 18 * b by omega) hKn.2.1 rfl fun H1 kC hkC e1 z1 o1 => ?_
  rw [← hsz] at e1 ⊢
  refine W.cs (cells' := u + 1) (slots' := 18 * (u + 1)) rfl (by omega) (kk H1 ⟨⟨fun i hi => ?_, hM.1.2.1, fun j => ?_, fun i hk hi h3 => Nat.lt_succ_of_lt (hM.1.2.2.2 i hk hi h3)⟩, ⟨Nat.le_trans hM.2.1 (by omega), fun q h1 h2 => (o1 q (Nat.lt_of_lt_of_le h1 hM.2.1)).trans (hM.2.2.1 q h1 h2), hM.2.2.2⟩⟩ ⟨hkn, Nat.lt_succ_self _⟩)
  · by_cases hin : i = mN σ
    · subst hin
      rw [mE_0 hkn]
      refine ⟨_, rfl, (u_born tyX0 hts inlX0 hKn hkC e1 tyX0_ok).to (fun j hj => ?_)⟩
      rw [mL_V (show j < mNf 0 from hj)]
      have h18 : j = 0 ∨ j = 1 ∨ j = 2 ∨ j = 3 ∨ j = 4 ∨ j = 5 ∨ j = 6 ∨ j = 7 ∨ j = 8 ∨ j = 9 ∨ j = 10 ∨ j = 11 ∨ j = 12 ∨ j = 13 ∨ j = 14 ∨ j = 15 ∨ j = 16 ∨ j = 17 := by
        have h9 : j < 18 := hj
        omega
      have hI : ∀ k, mI (sN σ) (mN σ) k = 0 := fun k => by rw [mI_sN, if_pos rfl]
      have hR : ∀ k, mR (sN σ) (mN σ) k = none := fun k => by rw [mR_sN, if_pos rfl]
      rcases h18 with rfl | rfl | rfl | rfl | rfl | rfl | rfl | rfl | rfl | rfl | rfl | rfl | rfl | rfl | rfl | rfl | rfl | rfl <;> first | (show Value.int 0 = Value.int (mI (sN σ) (mN σ) _); rw [hI]) | (show Value.null = mV ad (mR (sN σ) (mN σ) _); rw [hR]; rfl)
    · have hi' : i < mN σ := by have h9 : i < mN σ + 1 := hi; omega
      rw [mE_congr (σ := σ) (fun k => by rw [mI_sN, if_neg hin]) (fun k => by rw [mR_sN, if_neg hin])]
      exact (hM.1.1 i hi').kept (o1 _ (hM.1.1 i hi').lt)
  · have h9 := hM.1.2.2.1 (1 + j)
    show ad (mN σ + 1 + j) = H1.size + j
    rw [z1, Nat.add_assoc, h9]
    omega
theorem mr_putF (C : mX p s m c cc nL args own G) (hM : mM G kd ad s σ H locs) {ci i : Nat} (ho : mO kd ci i σ) {C0 : String} {T : u_T} {N : Nat} (hc : vwCl[ci]? = some (C0, T, N)) (hin : ∀ w ∈ u_ws C0 T N, w ∈ wsL_law) (ty0 : Nat → FieldType) (hty : ∀ k, k < N → parseFieldDescriptor (T k).2.2.1 = some (ty0 k)) (hnm : ∀ a, a < N → ∀ b, b < N → a ≠ b → (T a).2.1 ≠ (T b).2.1) (hNf : N = mNf ci)
    (k : Nat) (hk : k < N) {index : Nat} {ref : String} (hlink : Cond.fieldLink own index ref (T k).2.1 (T k).2.2.1 ∈ wsL_law) (href : (T k).1 = ref) (hfin : (T k).2.2.2 = true) (hin2 : meth.name = "<init>") (hdecl : (T k).1 = own) {v : Value} (hn : narrow (ty0 k) v = v) (hfit : fits (ty0 k) v = true) (σ' : mS) (hn' : mN σ' = mN σ)
    (h1 : ∀ a b, ¬ (a = i ∧ b = k) → mI σ' a b = mI σ a b) (h2 : ∀ a b, ¬ (a = i ∧ b = k) → mR σ' a b = mR σ a b) (hv : mF ad σ' i (mFk ci k) k = v) (hdg : decode cc pc = .ok (.putfield index, 3))
    (kk : ∀ (H1 : Heap) (locs1 : List Loc), mM G kd ad s σ' H1 locs1 → W p l e R s m args below meth c H1 locs1 cells slots Q (F0 m (pc + 3) ls rest)) : W p l e R s m args below meth c H locs cells slots Q (F0 m pc ls (v :: mV ad (some i) :: rest)) := by
  obtain ⟨⟨hx, hb, hml, hown, hts⟩, hK⟩ := C
  have h0 : va_at G.1 vwCl (ad i, .inr (ci, mL ad σ i ci)) H := by rw [← mE_0 (G := G) ho.1]; exact hM.1.1 i ho.2
  have hap := va_apart (own := own) hts hin ty0 hty hnm hK hc
  obtain ⟨r, hr1, cell, q1, q2, q3, q4⟩ := h0
  have hr : r = (C0, T, N) := Option.some.inj (hr1.symm.trans hc)
  subst hr
  obtain ⟨hS, hfc, kC, hkC, hkind⟩ := hK.1 ci _ hc
  obtain ⟨cf, kf, fi, f, hi, hsl⟩ := hS k hk
  have hlay := hts _ (hin _ (u_in_lay hk))
  unfold u_lay at hlay
  rw [if_pos hfin] at hlay
  have hst := (u_facts hfc hkC (u_lays hts hin hk) hi).1
  have hcf : m.cls = cf := by
    obtain ⟨_, _, c', _, _, _, -, -, hf', -, -, -, hown2, -⟩ := Cond.laysFinal_spec hlay
    have e1 : c' = cf := by have := hi.symm.trans hf'; simp at this; exact this.1.symm
    rw [hdecl] at hown2
    rw [← e1]; exact Option.some.inj (hown.symm.trans hown2)
  have h6 := u_fits hfc hkC hkind (Or.inr hlay) hi (hty k hk) hn hfit
  subst href
  refine W.putFinK hx hb hown (hts _ hlink) hi hst hcf hin2 (by rw [q2]; exact h6) q1 q3 (by rw [hsl]; exact k2_hasslot (q4 k hk)) rfl rfl hdg fun H' e1 e2 e3 => ?_
  rw [hsl] at e1 ⊢
  refine kk H' _ (mM_set hM hn' (fun a b hab => h1 a b (fun q => hab q.1)) (fun a b hab => h2 a b (fun q => hab q.1)) ?_ e2 e3)
  rw [mE_0 ho.1]
  refine ⟨_, hc, t_OB.to (V := updV (vp_V (mL ad σ i ci)) k v) ⟨_, e1, q2, q3, t_set q4 hap hk v⟩ (fun j hj => ?_)⟩
  have hj' : j < mNf ci := by rw [← hNf]; exact hj
  by_cases hjk : j = k
  · subst hjk
    rw [mL_V hj', hv]
    simp [updV]
  · rw [mL_V hj', mF_congr _ (h1 i j (fun q => hjk q.2)) (h2 i j (fun q => hjk q.2))]
    simp [updV, hjk, mL_V hj']
theorem mr_obj (C : mX p s m c cc nL args own G) (hl : ls.size = nL) {i idx : Nat} (hlink : Cond.methodLink own idx objectInit ∈ wsL_law) (hinst : Cond.instanceMethod objectInit ∈ wsL_law) (hcode : Cond.code objectInit ⟨#[0xb1]⟩ 1 none ∈ wsL_law) (hf : 1 ≤ R.frames) (hlo : 12 ≤ R.locals) (hdg : decode cc pc = .ok (.invokespecial idx, 3))
    (kk : W p l e R s m args below meth c H locs cells slots Q (F0 m (pc + 3) ls [])) : W p l e R s m args below meth c H locs cells slots Q (F0 m pc ls [mV ad (some i)]) :=
  W.objInit C.1.1 C.1.2.1 C.1.2.2.2.1 (C.1.2.2.2.2 _ hlink) (C.1.2.2.2.2 _ hinst) (C.1.2.2.2.2 _ hcode) rfl (by rw [C.1.2.2.1]; exact hl) rfl hdg hf (Nat.le_trans (Nat.le_of_ble_eq_true rfl) hlo) kk
end MT
