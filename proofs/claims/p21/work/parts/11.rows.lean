section MS
variable {p : Program} {l : Launch} {e : Env} {R : Room} {s : State} {m : MethodId} {args : Array Value} {below : List Frame} {meth : Method} {c : Code} {H : Heap} {locs : List Loc} {cells slots : Nat} {Q : State → Prop}
variable {cc : ByteArray} {pc nL : Nat} {ls : Array Slot} {rest : List Value} {own : String} {G : mG} {kd : Nat → Nat × Nat} {ad : Nat → Nat} {σ : mS}
theorem mr_ast (C : mX p s m c cc nL args own G) (hM : mM G kd ad s σ H locs) {i n j o t ci t0 : Nat} (ho : mB kd t n i σ) (hv : mO kd ci o σ) {cA : ClassId} {r : vw_C} (hE : ∀ σ : mS, mE G kd ad σ i = .inl (cA, n, .inr (.inr (.inr (.inr (fun j => (mR σ i j).map ad)))))) (ht : (mTys G)[t0]? = some (cA, .object r.1)) (hc : vwCl[ci]? = some r) {x : Int32} (hx1 : x = nI j) (hj : j < n) (hn : n < 2 ^ 31) (hdg : decode cc pc = .ok (.aastore, 1))
    (kk : ∀ (H1 : Heap) (locs1 : List Loc), mM G kd ad s (sR σ i j (some o)) H1 locs1 → W p l e R s m args below meth c H1 locs1 cells slots Q (F0 m (pc + 1) ls rest)) : W p l e R s m args below meth c H locs cells slots Q (F0 m pc ls (mV ad (some o) :: .int x :: mV ad (some i) :: rest)) := by
  subst hx1
  have h0 : va_at G.1 vwCl (ad i, .inl (cA, n, .inr (.inr (.inr (.inr (fun j => (mR σ i j).map ad)))))) H := by rw [← hE σ]; exact hM.1.1 i ho.2
  have hvv : va_at G.1 vwCl (ad o, .inr (ci, mL ad σ o ci)) H := by rw [← mE_0 (G := G) hv.1]; exact hM.1.1 o hv.2
  have hcl : (nI j).toNatClampNeg = j := nI_clamp (by omega)
  have hin : vp_in (nI j) n := vp_in_nI hj hn
  have hlt : (nI j).toNatClampNeg < n := by rw [hcl]; exact hj
  have h0' : ¬ nI j < 0 := fun q => hin (Or.inl q)
  obtain ⟨r', hr', cellV, g1, g2, g3, -⟩ := hvv
  have hcls := (C.2.1 ci r hc).2
  obtain ⟨kA, comp, k1, k2, k3, -⟩ := (C.2.2 t0 _ ht).2
  have hcomp : comp = G.1.1 ci := Option.some.inj (k3.symm.trans hcls.1)
  subst hcomp
  obtain ⟨kC, hkC, -⟩ := hcls.2
  refine W.aast C.1.1 C.1.2.1 h0 (fun q h => by cases h) (fun h => by cases h) k1 k2 rfl hkC ⟨h0', by show _ < (arrV _ _ _).slots.size; rw [arrV_size]; exact hlt⟩ g1 (fun q h => by rw [g3] at h; cases h) (by rw [g2]; exact hkC) (by rw [g2]; exact va_assign hcls) rfl rfl hdg fun H1 e z oq => ?_
  rw [hcl] at e ⊢
  refine kk H1 _ (mM_set hM rfl (fun a b hab => rfl) (fun a b hab => mR_off a b (fun q => hab q.1)) ?_ z oq)
  rw [hE]
  show H1[ad i]? = some (vp_cell _ _)
  rw [e, vp_cell_q, vp_cell_q, arrV_store]
  congr 2
  funext q
  by_cases hq : q = j
  · subst hq
    simp [updV, mR_sR, va_rf]
  · simp [updV, mR_sR, hq]
theorem mr_cst (C : mX p s m c cc nL args own G) (hM : mM G kd ad s σ H locs) {i n j o : Nat} (ho : mB kd 3 n i σ) (hv : mO kd 0 o σ) {x : Int32} (hx1 : x = nI j) (hj : j < n) (hn : n < 2 ^ 31) (hdg : decode cc pc = .ok (.aastore, 1))
    (kk : ∀ (H1 : Heap) (locs1 : List Loc), mM G kd ad s (sR σ i j (some o)) H1 locs1 → W p l e R s m args below meth c H1 locs1 cells slots Q (F0 m (pc + 1) ls rest)) : W p l e R s m args below meth c H locs cells slots Q (F0 m pc ls (mV ad (some o) :: .int x :: mV ad (some i) :: rest)) :=
  mr_ast (t0 := 2) (r := (RX0, TX0, 18)) C hM ho hv (fun σ => mE_3 ho.1) rfl rfl hx1 hj hn hdg kk
theorem mr_sst (C : mX p s m c cc nL args own G) (hM : mM G kd ad s σ H locs) {i n j o : Nat} (ho : mB kd 4 n i σ) (hv : mO kd 1 o σ) {x : Int32} (hx1 : x = nI j) (hj : j < n) (hn : n < 2 ^ 31) (hdg : decode cc pc = .ok (.aastore, 1))
    (kk : ∀ (H1 : Heap) (locs1 : List Loc), mM G kd ad s (sR σ i j (some o)) H1 locs1 → W p l e R s m args below meth c H1 locs1 cells slots Q (F0 m (pc + 1) ls rest)) : W p l e R s m args below meth c H locs cells slots Q (F0 m pc ls (mV ad (some o) :: .int x :: mV ad (some i) :: rest)) :=
  mr_ast (t0 := 3) (r := (RX1, TX1, 13)) C hM ho hv (fun σ => mE_4 ho.1) rfl rfl hx1 hj hn hdg kk
theorem ml_filter {lv : List (Nat × Value)} (h : ∀ q ∈ lv, q.2.category = 1) (i : Nat) : lv.filter (fun q => !(q.1 == i) && !(q.1 + 1 == i && q.2.category == 2)) = lv.filter (fun q => !(q.1 == i)) := by
  refine List.filter_congr (fun q hq => ?_)
  rw [h q hq]
  simp
theorem ml_new {lv : List (Nat × Value)} (h : ∀ q ∈ lv, q.2.category = 1) {i : Nat} {v : Value} (hv : v.category = 1) : ∀ q ∈ (i, v) :: lv.filter (fun q => !(q.1 == i)), q.2.category = 1 := by
  intro q hq
  rcases List.mem_cons.mp hq with rfl | hq
  · exact hv
  · exact h q (List.mem_filter.mp hq).1
theorem mr_istore_n (C : mX p s m c cc nL args own G) {k : Fin 4} {i : Nat} {x : Int32} {lv lv' : List (Nat × Value)} (h : ml_has ls nL lv) (hdg : decode cc pc = .ok (.istore_n k, 1)) (hi : (k : Nat) = i) (hn : i < nL) (hl : (i, Value.int x) :: lv.filter (fun q => !(q.1 == i)) = lv')
    (kk : ∀ ls' : Array Slot, ml_has ls' nL lv' → W p l e R s m args below meth c H locs cells slots Q (F0 m (pc + 1) ls' rest)) : W p l e R s m args below meth c H locs cells slots Q (F0 m pc ls (.int x :: rest)) := by
  subst hl
  refine lv_istore_n C.1.1 C.1.2.1 hdg hi h.1 hn (by rw [ml_filter h.2]) (fun ls' h' => kk ls' ⟨h', ml_new h.2 rfl⟩)
theorem mr_istore (C : mX p s m c cc nL args own G) {i : Nat} {x : Int32} {lv lv' : List (Nat × Value)} (h : ml_has ls nL lv) (hdg : decode cc pc = .ok (.istore i, 2)) (hn : i < nL) (hl : (i, Value.int x) :: lv.filter (fun q => !(q.1 == i)) = lv')
    (kk : ∀ ls' : Array Slot, ml_has ls' nL lv' → W p l e R s m args below meth c H locs cells slots Q (F0 m (pc + 2) ls' rest)) : W p l e R s m args below meth c H locs cells slots Q (F0 m pc ls (.int x :: rest)) := by
  subst hl
  refine lv_istore C.1.1 C.1.2.1 hdg h.1 hn (by rw [ml_filter h.2]) (fun ls' h' => kk ls' ⟨h', ml_new h.2 rfl⟩)
theorem mr_astore_n (C : mX p s m c cc nL args own G) {k : Fin 4} {i : Nat} {r : Option Nat} {lv lv' : List (Nat × Value)} (h : ml_has ls nL lv) (hdg : decode cc pc = .ok (.astore_n k, 1)) (hi : (k : Nat) = i) (hn : i < nL) (hl : (i, mV ad r) :: lv.filter (fun q => !(q.1 == i)) = lv')
    (kk : ∀ ls' : Array Slot, ml_has ls' nL lv' → W p l e R s m args below meth c H locs cells slots Q (F0 m (pc + 1) ls' rest)) : W p l e R s m args below meth c H locs cells slots Q (F0 m pc ls (mV ad r :: rest)) := by
  subst hl
  cases r with
  | none => exact lv_astore_nN C.1.1 C.1.2.1 hdg hi h.1 hn (by rw [ml_filter h.2]; rfl) (fun ls' h' => kk ls' ⟨h', ml_new h.2 rfl⟩)
  | some a => exact lv_astore_n C.1.1 C.1.2.1 hdg hi h.1 hn (by rw [ml_filter h.2]; rfl) (fun ls' h' => kk ls' ⟨h', ml_new h.2 rfl⟩)
theorem mr_astore (C : mX p s m c cc nL args own G) {i : Nat} {r : Option Nat} {lv lv' : List (Nat × Value)} (h : ml_has ls nL lv) (hdg : decode cc pc = .ok (.astore i, 2)) (hn : i < nL) (hl : (i, mV ad r) :: lv.filter (fun q => !(q.1 == i)) = lv')
    (kk : ∀ ls' : Array Slot, ml_has ls' nL lv' → W p l e R s m args below meth c H locs cells slots Q (F0 m (pc + 2) ls' rest)) : W p l e R s m args below meth c H locs cells slots Q (F0 m pc ls (mV ad r :: rest)) := by
  subst hl
  cases r with
  | none => exact lv_astoreN C.1.1 C.1.2.1 hdg h.1 hn (by rw [ml_filter h.2]; rfl) (fun ls' h' => kk ls' ⟨h', ml_new h.2 rfl⟩)
  | some a => exact lv_astore C.1.1 C.1.2.1 hdg h.1 hn (by rw [ml_filter h.2]; rfl) (fun ls' h' => kk ls' ⟨h', ml_new h.2 rfl⟩)
theorem mr_iinc (C : mX p s m c cc nL args own G) {i k : Nat} {n : Int} {x v : Int32} {lv lv' : List (Nat × Value)} (h : ml_has ls nL lv) (hdg : decode cc pc = .ok (.iinc i n, 3)) (hk : lv[k]? = some (i, .int x)) (hv : x + Int32.ofInt n = v) (hn : i < nL) (hl : (i, Value.int v) :: lv.filter (fun q => !(q.1 == i)) = lv')
    (kk : ∀ ls' : Array Slot, ml_has ls' nL lv' → W p l e R s m args below meth c H locs cells slots Q (F0 m (pc + 3) ls' rest)) : W p l e R s m args below meth c H locs cells slots Q (F0 m pc ls rest) := by
  subst hl
  exact lv_iinc C.1.1 C.1.2.1 hdg h.1 hk hv hn (by rw [ml_filter h.2]) (fun ls' h' => kk ls' ⟨h', ml_new h.2 rfl⟩)
theorem mr_aload_n (C : mX p s m c cc nL args own G) {k : Fin 4} {i : Nat} {r : Option Nat} (hdg : decode cc pc = .ok (.aload_n k, 1)) (hi : (k : Nat) = i) (hl : ls[i]? = some (.val (mV ad r)))
    (kk : W p l e R s m args below meth c H locs cells slots Q (F0 m (pc + 1) ls (mV ad r :: rest))) : W p l e R s m args below meth c H locs cells slots Q (F0 m pc ls rest) := by
  cases r with
  | none => exact lv_aload_nN C.1.1 C.1.2.1 hdg hi hl kk
  | some a => exact lv_aload_n C.1.1 C.1.2.1 hdg hi hl kk
theorem mr_aload (C : mX p s m c cc nL args own G) {i : Nat} {r : Option Nat} (hdg : decode cc pc = .ok (.aload i, 2)) (hl : ls[i]? = some (.val (mV ad r)))
    (kk : W p l e R s m args below meth c H locs cells slots Q (F0 m (pc + 2) ls (mV ad r :: rest))) : W p l e R s m args below meth c H locs cells slots Q (F0 m pc ls rest) := by
  cases r with
  | none => exact lv_aloadN C.1.1 C.1.2.1 hdg hl kk
  | some a => exact lv_aload C.1.1 C.1.2.1 hdg hl kk
theorem mr_null (C : mX p s m c cc nL args own G) (ad : Nat → Nat) (hdg : decode cc pc = .ok (.aconst_null, 1)) (kk : W p l e R s m args below meth c H locs cells slots Q (F0 m (pc + 1) ls (mV ad none :: rest))) : W p l e R s m args below meth c H locs cells slots Q (F0 m pc ls rest) := lv_null C.1.1 C.1.2.1 hdg kk
theorem mr_ifnull (C : mX p s m c cc nL args own G) {r : Option Nat} {off : Int} {tgt : Nat} (hdg : decode cc pc = .ok (.ifnull off, 3)) (ht : (pc : Int) + off = (tgt : Int)) (kt : r = none → W p l e R s m args below meth c H locs cells slots Q (F0 m tgt ls rest)) (kf : ∀ i, r = some i → W p l e R s m args below meth c H locs cells slots Q (F0 m (pc + 3) ls rest)) : W p l e R s m args below meth c H locs cells slots Q (F0 m pc ls (mV ad r :: rest)) := by
  cases r with
  | none => exact lv_ifnullN C.1.1 C.1.2.1 hdg ht (kt rfl)
  | some a => exact lv_ifnull C.1.1 C.1.2.1 hdg (kf a rfl)
theorem mr_ifnonnull (C : mX p s m c cc nL args own G) {r : Option Nat} {off : Int} {tgt : Nat} (hdg : decode cc pc = .ok (.ifnonnull off, 3)) (ht : (pc : Int) + off = (tgt : Int)) (kt : ∀ i, r = some i → W p l e R s m args below meth c H locs cells slots Q (F0 m tgt ls rest)) (kf : r = none → W p l e R s m args below meth c H locs cells slots Q (F0 m (pc + 3) ls rest)) : W p l e R s m args below meth c H locs cells slots Q (F0 m pc ls (mV ad r :: rest)) := by
  cases r with
  | none => exact lv_ifnonnullN C.1.1 C.1.2.1 hdg (kf rfl)
  | some a => exact lv_ifnonnull C.1.1 C.1.2.1 hdg ht (kt a rfl)
theorem m_map_inj {ad : Nat → Nat} (h : ∀ i j, ad i = ad j → i = j) {r q : Option Nat} : r.map ad = q.map ad ↔ r = q := by
  cases r <;> cases q <;> simp
  exact ⟨fun z => h _ _ z, fun z => by rw [z]⟩
theorem mr_acmp_ne (C : mX p s m c cc nL args own G) (hM : mM G kd ad s σ H locs) {rx ry : Option Nat} {off : Int} {tgt : Nat} (hdg : decode cc pc = .ok (.if_acmp .ne off, 3)) (ht : (pc : Int) + off = (tgt : Int)) (kt : ¬ rx = ry → W p l e R s m args below meth c H locs cells slots Q (F0 m tgt ls rest)) (kf : rx = ry → W p l e R s m args below meth c H locs cells slots Q (F0 m (pc + 3) ls rest)) : W p l e R s m args below meth c H locs cells slots Q (F0 m pc ls (mV ad ry :: mV ad rx :: rest)) :=
  lv_acmp_ne C.1.1 C.1.2.1 hdg ht (fun h => kt (fun q => h (by rw [q]))) (fun h => kf ((m_map_inj hM.1.2.1).mp h))
/-- a method's start and ends -/
def mPre (G : mG) (kd : Nat → Nat × Nat) (ad : Nat → Nat) (σ : mS) : State → Prop := fun U => mP G kd ad σ U.heap ∧ va_K G.1 vwCl (mTys G) U
def mPost (G : mG) (kd : Nat → Nat × Nat) (ad : Nat → Nat) : mS → State → Prop := fun u t => mP G kd ad u t.heap
def mWs (y : MethodName) (cc : ByteArray) (ml : Nat) (ret : Option FieldType) : List Cond := Cond.code y cc ml ret :: wsL_law
def mRm (fr lo : Nat) : Room := { frames := fr, cells := 0, slots := 0, locals := lo }
def mKi (l : Launch) (y : MethodName) (cc : ByteArray) (ml fr lo : Nat) (G : mG) (kd : Nat → Nat × Nat) (ad : Nat → Nat) (σ : mS) (av : List Value) (Q : Int32 → mS → Prop) : Prop :=
  Met l y (mWs y cc ml (some .int)) (mRm fr lo) (va_Pc av (mPre G kd ad σ)) (va_Qi Q (mPost G kd ad) (mA ad)) 0 0 (mA ad)
def mKz (l : Launch) (y : MethodName) (cc : ByteArray) (ml fr lo : Nat) (G : mG) (kd : Nat → Nat × Nat) (ad : Nat → Nat) (σ : mS) (av : List Value) (Q : Int32 → mS → Prop) : Prop :=
  Met l y (mWs y cc ml (some .boolean)) (mRm fr lo) (va_Pc av (mPre G kd ad σ)) (va_Qi (fun r u => Q r u ∧ narrow .boolean (.int r) = .int r) (mPost G kd ad) (mA ad)) 0 0 (mA ad)
def mKv (l : Launch) (y : MethodName) (cc : ByteArray) (ml fr lo : Nat) (G : mG) (kd : Nat → Nat × Nat) (ad : Nat → Nat) (σ : mS) (av : List Value) (Q : mS → Prop) : Prop :=
  Met l y (mWs y cc ml none) (mRm fr lo) (va_Pc av (mPre G kd ad σ)) (va_Qv Q (mPost G kd ad) (mA ad)) 0 0 (mA ad)
def mKq (l : Launch) (y : MethodName) (cc : ByteArray) (ml : Nat) (cls : String) (fr lo : Nat) (G : mG) (kd : Nat → Nat × Nat) (ad : Nat → Nat) (σ : mS) (av : List Value) (Q : Option Nat → mS → Prop) : Prop :=
  Met l y (mWs y cc ml (some (.object cls))) (mRm fr lo) (va_Pc av (mPre G kd ad σ)) (va_Qq (fun (r : Option Nat) (u : mS) => ∃ i : Option Nat, r = i.map ad ∧ Q i u) (mPost G kd ad) (mA ad)) 0 0 (mA ad)
def lv_ix : Nat → List Value → List (Nat × Value)
  | _, [] => []
  | i, v :: vs => (i, v) :: lv_ix (i + 1) vs
theorem lv_ix_eq : ∀ (vs : List Value) (n : Nat), (∀ v ∈ vs, v.category = 1) → lv_args n vs = lv_ix n vs
  | [], _, _ => rfl
  | v :: vs, n, h => by
    have h1 := h v List.mem_cons_self
    rw [lv_args, lv_ix, if_neg (by rw [h1]; decide), lv_ix_eq vs (n + 1) (fun w hw => h w (List.mem_cons_of_mem _ hw))]
theorem lg_sl_len : ∀ (vs : List Value), (∀ v ∈ vs, v.category = 1) → (lg_sl vs).length = vs.length
  | [], _ => rfl
  | v :: vs, h => by
    have h1 := h v List.mem_cons_self
    have h2 := lg_sl_len vs (fun w hw => h w (List.mem_cons_of_mem _ hw))
    unfold lg_sl at h2 ⊢
    rw [List.flatMap_cons, if_neg (by rw [h1]; decide), List.length_append, h2]
    simp [Nat.add_comm]
theorem lv_ix_cat : ∀ (vs : List Value) (n : Nat), (∀ v ∈ vs, v.category = 1) → ∀ q ∈ lv_ix n vs, q.2.category = 1
  | [], _, _, q, hq => absurd hq List.not_mem_nil
  | v :: vs, n, h, q, hq => by
    rcases List.mem_cons.mp hq with rfl | hq
    · exact h v List.mem_cons_self
    · exact lv_ix_cat vs (n + 1) (fun w hw => h w (List.mem_cons_of_mem _ hw)) q hq
theorem mr_start {y : MethodName} {cc : ByteArray} {ml fr lo : Nat} {ret : Option FieldType} {av : List Value} {lst : List (Nat × Value)} {Qc : Array Value → State → Outcome → State → Prop} (hy : plainName y.cls = true) (hcat : ∀ v ∈ av, v.category = 1) (hav : lv_ix 0 av = lst) (hlen : av.length ≤ ml)
    (body : ∀ (p : Program) (e : Env) (s : State) (m : MethodId) (below : List Frame) (meth : Method) (c : Code), mX p s m c cc ml av.toArray y.cls G → mM G kd ad s σ s.heap [] → meth.sig.returnType = ret → meth.locks = false → ∀ ls : Array Slot, ml_has ls ml lst → W p l e (mRm fr lo) s m av.toArray below meth c s.heap [] 0 0 (MQ below Qc av.toArray s 0 0 (mA ad)) (F0 m 0 ls [])) :
    Met l y (mWs y cc ml ret) (mRm fr lo) (va_Pc av (mPre G kd ad σ)) Qc 0 0 (mA ad) := by
  refine Met.ofW (cc := cc) (maxL := ml) (ret := ret) hy rfl ?_
  intro p e s m args below meth c s₁ B hml hv
  obtain ⟨rfl, hP, hK⟩ := hv
  have hts := atoms_spec (ws := mWs y cc ml ret) B.pre
  have hown : s.vm.findClass y.cls = some m.cls := findClass_of_methodNamed B.named
  have hl := lv_entry av (n := ml) (by rw [lg_sl_len av hcat]; exact hlen)
  rw [lv_ix_eq av 0 hcat, hav] at hl
  rw [lg_entry_eq]
  exact body p e s m below meth c ⟨⟨B.exec, B.bytes, hml, hown, fun w hw => hts w (List.mem_cons_of_mem _ hw)⟩, hK⟩ ⟨hP, va_S.rf⟩ B.returns B.notSynchronized _ ⟨hl, by rw [← hav]; exact lv_ix_cat av 0 hcat⟩
theorem mr_iret (C : mX p s m c cc nL args own G) (hM : mM G kd ad s σ H locs) {Q : Int32 → mS → Prop} {v : Int32} (hr : meth.sig.returnType = some .int) (hlk : meth.locks = false) (h : Q v σ) (hdg : decode cc pc = .ok (.ireturn, 1)) : W p l e R s m args below meth c H locs cells slots (MQ below (va_Qi Q (mPost G kd ad) (mA ad)) args s cells slots (mA ad)) (F0 m pc ls [.int v]) :=
  W.iret C.1.1 C.1.2.1 hr (fun t ht _ => ⟨⟨v, σ, rfl, h, by show mP G kd ad σ t.heap; rw [ht]; exact hM.1⟩, hM.2.F ht⟩) hM.2.2.2 hdg hlk
theorem mr_zret (C : mX p s m c cc nL args own G) (hM : mM G kd ad s σ H locs) {Q : Int32 → mS → Prop} {v : Int32} (hr : meth.sig.returnType = some .boolean) (hlk : meth.locks = false) (hn : narrow .boolean (.int v) = .int v) (h : Q v σ) (hdg : decode cc pc = .ok (.ireturn, 1)) : W p l e R s m args below meth c H locs cells slots (MQ below (va_Qi (fun r u => Q r u ∧ narrow .boolean (.int r) = .int r) (mPost G kd ad) (mA ad)) args s cells slots (mA ad)) (F0 m pc ls [.int v]) :=
  W.zret C.1.1 C.1.2.1 hr hn (fun t ht _ => ⟨⟨v, σ, rfl, ⟨h, hn⟩, by show mP G kd ad σ t.heap; rw [ht]; exact hM.1⟩, hM.2.F ht⟩) hM.2.2.2 hdg hlk
theorem mr_vret (C : mX p s m c cc nL args own G) (hM : mM G kd ad s σ H locs) {Q : mS → Prop} (hr : meth.sig.returnType = none) (hlk : meth.locks = false) (h : Q σ) (hdg : decode cc pc = .ok (.return_, 1)) : W p l e R s m args below meth c H locs cells slots (MQ below (va_Qv Q (mPost G kd ad) (mA ad)) args s cells slots (mA ad)) (F0 m pc ls []) :=
  W.vret C.1.1 C.1.2.1 hr (fun t ht _ => ⟨⟨σ, rfl, h, by show mP G kd ad σ t.heap; rw [ht]; exact hM.1⟩, hM.2.F ht⟩) hM.2.2.2 hdg hlk
theorem mr_aret (C : mX p s m c cc nL args own G) (hM : mM G kd ad s σ H locs) {cls : String} {Q : Option Nat → mS → Prop} {r : Option Nat} (hr : meth.sig.returnType = some (.object cls)) (hlk : meth.locks = false) (h : Q r σ) (hdg : decode cc pc = .ok (.areturn, 1)) : W p l e R s m args below meth c H locs cells slots (MQ below (va_Qq (fun (a : Option Nat) (u : mS) => ∃ i : Option Nat, a = i.map ad ∧ Q i u) (mPost G kd ad) (mA ad)) args s cells slots (mA ad)) (F0 m pc ls [mV ad r]) :=
  W.aret C.1.1 C.1.2.1 hr (Or.inl ⟨cls, rfl⟩) (by cases r with | none => exact Or.inl rfl | some a => exact Or.inr ⟨ad a, rfl⟩) (fun t ht _ => ⟨⟨r.map ad, σ, rfl, ⟨r, rfl, h⟩, by show mP G kd ad σ t.heap; rw [ht]; exact hM.1⟩, hM.2.F ht⟩) hM.2.2.2 hdg hlk
/-- the words of a call, by their places in the one list -/
def mCw (own : String) (idx : Nat) (cls : String) (y : MethodName) (cc : ByteArray) (ml : Nat) (ret : Option FieldType) : Prop := Cond.methodLink own idx y ∈ wsL_law ∧ Cond.instanceMethod y ∈ wsL_law ∧ Cond.selects cls y y ∈ wsL_law ∧ Cond.initialized cls ∈ wsL_law ∧ Cond.code y cc ml ret ∈ wsL_law
def mCs (own : String) (idx : Nat) (y : MethodName) (cc : ByteArray) (ml : Nat) (ret : Option FieldType) : Prop := Cond.methodLink own idx y ∈ wsL_law ∧ Cond.static y ∈ wsL_law ∧ Cond.initialized own ∈ wsL_law ∧ Cond.code y cc ml ret ∈ wsL_law
theorem mCw.good {own cls : String} {idx ml : Nat} {y : MethodName} {cc : ByteArray} {ret : Option FieldType} (h : mCw own idx cls y cc ml ret) : GoodIn wsL_law (wsV own idx cls y (mWs y cc ml ret)) := by
  obtain ⟨h1, h2, h3, h4, h5⟩ := h
  intro w hw
  have : w ∈ wsL_law := by
    unfold wsV mWs at hw
    simp only [List.cons_append, List.nil_append, List.mem_cons] at hw
    rcases hw with rfl | rfl | rfl | rfl | rfl | hw
    · exact h1
    · exact h2
    · exact h3
    · exact h4
    · exact h5
    · exact hw
  exact ⟨this, m_good w this⟩
theorem mCs.good {own : String} {idx ml : Nat} {y : MethodName} {cc : ByteArray} {ret : Option FieldType} (h : mCs own idx y cc ml ret) : GoodIn wsL_law (wsS own idx y (mWs y cc ml ret)) := by
  obtain ⟨h1, h2, h3, h4⟩ := h
  intro w hw
  have : w ∈ wsL_law := by
    unfold wsS mWs at hw
    simp only [List.cons_append, List.nil_append, List.mem_cons] at hw
    rcases hw with rfl | rfl | rfl | rfl | hw
    · exact h1
    · exact h2
    · exact h3
    · exact h4
    · exact hw
  exact ⟨this, m_good w this⟩
theorem mPre.blind (G : mG) (kd : Nat → Nat × Nat) (ad : Nat → Nat) (σ : mS) (av : List Value) : FrameBlind (va_Pc av (mPre G kd ad σ)) := fun a U g mk q => ⟨q.1, q.2.1, va_K.moved (u := U) (U := U.calling g mk a) (Vm.Alike.refl U.vm) q.2.2⟩
theorem mr_preV (C : mX p s m c cc nL args own G) (hM : mM G kd ad s σ H locs) {ci i : Nat} (ho : mO kd ci i σ) {q : vw_C} (hc : vwCl[ci]? = some q) (As : List Value) : PreV s H q.1 (ad i) (va_Pc (mV ad (some i) :: As) (mPre G kd ad σ)) As := by
  have h0 : va_at G.1 vwCl (ad i, .inr (ci, mL ad σ i ci)) H := by rw [← mE_0 (G := G) ho.1]; exact hM.1.1 i ho.2
  obtain ⟨q', h1, cell, g1, g2, g3, -⟩ := h0
  exact ⟨mPre.blind _ _ _ _ _, ⟨cell, g1, by rw [g3]; rfl, by rw [g2]; exact (C.2.1 ci q hc).2.1⟩, fun U hU hW => ⟨rfl, by rw [hU]; exact hM.1, va_K.moved hW.alike C.2⟩⟩
theorem mr_preS (C : mX p s m c cc nL args own G) (hM : mM G kd ad s σ H locs) (As : List Value) : PreS s H (va_Pc As (mPre G kd ad σ)) As :=
  ⟨mPre.blind _ _ _ _ _, fun U hU hW => ⟨rfl, by rw [hU]; exact hM.1, va_K.moved hW.alike C.2⟩⟩
theorem m_wt {st : List Value} (h : ∀ v ∈ st, v.category = 1) (hn : st.length ≤ 8) : (st.map fun v => v.category).sum ≤ 8 := by
  have key : ∀ st : List Value, (∀ v ∈ st, v.category = 1) → (st.map fun v => v.category).sum = st.length := by
    intro st
    induction st with
    | nil => intro _; rfl
    | cons v vs ih =>
      intro h
      simp only [List.map_cons, List.sum_cons, List.length_cons]
      rw [h v List.mem_cons_self, ih (fun w hw => h w (List.mem_cons_of_mem _ hw))]
      omega
  rw [key st h]; exact hn
variable {y : MethodName} {bytes : ByteArray} {maxL index n fr lo i ci : Nat} {As : List Value} {st : List Value} {cls : String} {q : vw_C}
theorem mr_runV {ret : Option FieldType} {Qc : Array Value → State → Outcome → State → Prop} (C : mX p s m c cc nL args own G) (hM : mM G kd ad s σ H locs) (hl : ls.size = nL) (hc : Met l y (mWs y bytes maxL ret) (mRm fr lo) (va_Pc (mV ad (some i) :: As) (mPre G kd ad σ)) Qc 0 0 (mA ad)) (hg : mCw own index cls y bytes maxL ret) (ho : mO kd ci i σ) (hq : vwCl[ci]? = some q) (hqc : q.1 = cls)
    (hd : y.cls = cls ∧ y.cls ≠ "java/lang/invoke/MethodHandle" ∧ y.cls ≠ "java/lang/invoke/VarHandle" ∧ (parseMethodDescriptor y.desc).map (fun d => d.parameters.length) = some n) (hn : As.length = n) (hst : st = As.reverse ++ mV ad (some i) :: rest) (hR : fr + 1 ≤ R.frames ∧ 8 + (maxL + 11) + lo ≤ R.locals) (hw : ∀ v ∈ rest, v.category = 1) (hw8 : rest.length ≤ 8) (hdg : decode cc pc = .ok (.invokevirtual index, 3)) (hf : cells ≤ R.cells ∧ slots ≤ R.slots) :
    va_Run p l e R s m args below meth c H locs cells slots 0 0 (F0 m pc ls st) rest (Qc (Value.ref (ad i) :: As).toArray) (mA ad) := by
  subst hqc
  subst hst
  subst hn
  exact va_runV (As := As) (rest := rest) C.1 hc (cwV As.length C.1.2.2.2.2 hg.good rfl rfl rfl hd hR) (mr_preV C hM ho hq As) rfl rfl hl rfl (lv_room (pc := pc) (ls := ls) (rest := As.reverse ++ mV ad (some i) :: rest) (m_wt hw hw8)) hdg hf
theorem mr_runS {ret : Option FieldType} {Qc : Array Value → State → Outcome → State → Prop} (C : mX p s m c cc nL args own G) (hM : mM G kd ad s σ H locs) (hl : ls.size = nL) (hc : Met l y (mWs y bytes maxL ret) (mRm fr lo) (va_Pc As (mPre G kd ad σ)) Qc 0 0 (mA ad)) (hg : mCs own index y bytes maxL ret)
    (hd : y.cls = own ∧ y.cls ≠ "java/lang/invoke/MethodHandle" ∧ y.cls ≠ "java/lang/invoke/VarHandle" ∧ (parseMethodDescriptor y.desc).map (fun d => d.parameters.length) = some n) (hn : As.length = n) (hst : st = As.reverse ++ rest) (hR : fr + 1 ≤ R.frames ∧ 8 + (maxL + 11) + lo ≤ R.locals) (hw : ∀ v ∈ rest, v.category = 1) (hw8 : rest.length ≤ 8) (hdg : decode cc pc = .ok (.invokestatic index, 3)) (hf : cells ≤ R.cells ∧ slots ≤ R.slots) :
    va_Run p l e R s m args below meth c H locs cells slots 0 0 (F0 m pc ls st) rest (Qc As.toArray) (mA ad) := by
  subst hst
  subst hn
  exact va_runS (As := As) (rest := rest) C.1 hc (cwS As.length C.1.2.2.2.2 hg.good rfl rfl rfl hd hR) (mr_preS C hM As) rfl rfl hl rfl (lv_room (pc := pc) (ls := ls) (rest := As.reverse ++ rest) (m_wt hw hw8)) hdg hf
theorem mr_ci {a : Array Value} {Qi : Int32 → mS → Prop} (hM : mM G kd ad s σ H locs) (hr : va_Run p l e R s m args below meth c H locs cells slots 0 0 (F0 m pc ls st) rest (va_Qi Qi (mPost G kd ad) (mA ad) a) (mA ad)) (kk : ∀ (r : Int32) (u : mS) (H1 : Heap) (locs1 : List Loc), Qi r u → mM G kd ad s u H1 locs1 → W p l e R s m args below meth c H1 locs1 cells slots Q (F0 m (pc + 3) ls (.int r :: rest))) : W p l e R s m args below meth c H locs cells slots Q (F0 m pc ls st) :=
  va_calli hr hM.2 (fun _ _ h => h) (fun _ h => h) (fun r u t H1 locs1 ht hvm hw hB hz1 hk1 hS => kk r u H1 locs1 hw ⟨by rw [← ht]; exact hB, hS⟩)
theorem mr_cv {a : Array Value} {Qv : mS → Prop} (hM : mM G kd ad s σ H locs) (hr : va_Run p l e R s m args below meth c H locs cells slots 0 0 (F0 m pc ls st) rest (va_Qv Qv (mPost G kd ad) (mA ad) a) (mA ad)) (kk : ∀ (u : mS) (H1 : Heap) (locs1 : List Loc), Qv u → mM G kd ad s u H1 locs1 → W p l e R s m args below meth c H1 locs1 cells slots Q (F0 m (pc + 3) ls rest)) : W p l e R s m args below meth c H locs cells slots Q (F0 m pc ls st) :=
  va_callv hr hM.2 (fun _ _ h => h) (fun _ h => h) (fun u t H1 locs1 ht hvm hw hB hz1 hk1 hS => kk u H1 locs1 hw ⟨by rw [← ht]; exact hB, hS⟩)
theorem mr_cq {a : Array Value} {Qq : Option Nat → mS → Prop} (hM : mM G kd ad s σ H locs) (hr : va_Run p l e R s m args below meth c H locs cells slots 0 0 (F0 m pc ls st) rest (va_Qq (fun (r : Option Nat) (u : mS) => ∃ i : Option Nat, r = i.map ad ∧ Qq i u) (mPost G kd ad) (mA ad) a) (mA ad)) (kk : ∀ (r : Option Nat) (u : mS) (H1 : Heap) (locs1 : List Loc), Qq r u → mM G kd ad s u H1 locs1 → W p l e R s m args below meth c H1 locs1 cells slots Q (F0 m (pc + 3) ls (mV ad r :: rest))) : W p l e R s m args below meth c H locs cells slots Q (F0 m pc ls st) :=
  va_callq hr hM.2 (fun _ _ h => h) (fun _ h => h) (fun r u t H1 locs1 ht hvm hw hB hz1 hk1 hS => by
    obtain ⟨i, rfl, hw⟩ := hw
    exact kk i u H1 locs1 hw ⟨by rw [← ht]; exact hB, hS⟩)
end MS
/-- loops: by a measure that falls -/
theorem m_loop {P : Nat → Prop} (h : ∀ n, (∀ k, k < n → P k) → P n) : ∀ n, P n := fun n => Nat.strongRecOn n h
theorem m_c0 : ∀ v ∈ ([] : List Value), v.category = 1 := fun _ h => absurd h List.not_mem_nil
theorem m_cI {x : Int32} {r : List Value} (h : ∀ v ∈ r, v.category = 1) : ∀ v ∈ Value.int x :: r, v.category = 1 := fun v hv => (List.mem_cons.mp hv).elim (fun e => by rw [e]; rfl) (h v)
theorem m_cR {ad : Nat → Nat} {x : Option Nat} {r : List Value} (h : ∀ v ∈ r, v.category = 1) : ∀ v ∈ mV ad x :: r, v.category = 1 := fun v hv => (List.mem_cons.mp hv).elim (fun e => by rw [e]; exact mV_cat _ _) (h v)
theorem mO_e {kd : Nat → Nat × Nat} {ci i : Nat} {σ σ' σ2 : mS} (e : σ' = σ2) (hn : mN σ2 = mN σ) (h : mO kd ci i σ) : mO kd ci i σ' := by rw [e]; exact ⟨h.1, by rw [hn]; exact h.2⟩
theorem m_z01 {v : Int32} (h : narrow .boolean (.int v) = .int v) : v = 0 ∨ v = 1 := by
  have h1 : v &&& 1 = v := Value.int.inj (show Value.int (v &&& 1) = Value.int v from h)
  obtain ⟨j, hj, e⟩ := pk_andE v (m := 1) 1 (by decide)
  rw [h1] at e
  have hj2 : j = 0 ∨ j = 1 := by omega
  rcases hj2 with rfl | rfl
  · left; rw [e]; rfl
  · right; rw [e]; rfl
theorem m_fitZ {v : Int32} (h : narrow .boolean (.int v) = .int v) : fits .boolean (.int v) = true := by
  rcases m_z01 h with rfl | rfl <;> rfl
theorem mO_I {kd : Nat → Nat × Nat} {ci i a b : Nat} {v : Int32} {σ σ' : mS} (e : σ' = sI σ a b v) (h : mO kd ci i σ) : mO kd ci i σ' := by rw [e]; exact h
theorem mO_R {kd : Nat → Nat × Nat} {ci i a b : Nat} {v : Option Nat} {σ σ' : mS} (e : σ' = sR σ a b v) (h : mO kd ci i σ) : mO kd ci i σ' := by rw [e]; exact h
