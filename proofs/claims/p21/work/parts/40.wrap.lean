/-! the law's own wrappers: a call of the class, its throws caught and told as numbers -/
def mNcs (U : State) : Prop := va_Nc xIA xIO U ∧ va_Nc xIS xIO U ∧ va_Nc xIS xIA U
def mPreN (G : mG) (ad : Nat → Nat) (σ : mS) : State → Prop := fun U => mPreZ G ad σ U ∧ mNcs U
def mPostN (G : mG) (ad : Nat → Nat) : mS → State → Prop := fun q t => mPw G ad q t.heap
def mWL (y : MethodName) (cc : ByteArray) (ml : Nat) (hh : List (Nat × Nat × Nat × Nat)) : List Cond := Cond.codeWith y cc ml (some .int) hh :: wsL_law
theorem mPreN.blind (G : mG) (ad : Nat → Nat) (σ : mS) (av : List Value) : FrameBlind (va_Pc av (mPreN G ad σ)) := fun a U g mk q =>
  ⟨q.1, (mPreZ.blind G ad σ av a U g mk ⟨q.1, q.2.1⟩).2, q.2.2.1.moved (u := U) (U := U.calling g mk a) (Vm.Alike.refl U.vm), q.2.2.2.1.moved (u := U) (U := U.calling g mk a) (Vm.Alike.refl U.vm), q.2.2.2.2.moved (u := U) (U := U.calling g mk a) (Vm.Alike.refl U.vm)⟩
theorem mr_ofWH {l : Launch} {y : MethodName} {ws ws' : List Cond} {rm : Room} {Pc : Array Value → State → Prop} {Qc : Array Value → State → Outcome → State → Prop} {mc ms : Nat} {free : Addr → Prop} {cc : ByteArray} {maxL : Nat} {ret : Option FieldType} {hh : List (Nat × Nat × Nat × Nat)}
    (hy : plainName y.cls = true) (hw : ws = Cond.codeWith y cc maxL ret hh :: ws')
    (body : ∀ p e s m args below meth c s₁, BodyLoose p l y (headSpec ws rm) cc maxL ret e s m args below meth c s₁ → c.maxLocals = maxL → c.exceptionTable.toList = tableOf hh → Pc args s →
      W p l e (headSpec ws rm).room s m args below meth c s.heap [] 0 0 (MQ below Qc args s mc ms free) (entryFrame m args maxL)) : Met l y ws rm Pc Qc mc ms free := by
  refine MetFree.of_bodyS (code := cc) (maxLocals := maxL) (ret := ret) hy ?_ ?_
  · intro args s m h hn
    obtain ⟨m9, meth, c, hn9, h1, h2, h3, h4, -, h5, h6, -⟩ := Cond.codeWith_spec (atoms_spec (ws := ws) h _ (by rw [hw]; exact List.mem_cons_self))
    cases hn.symm.trans hn9
    exact ⟨meth, c, h1, h2, h3, h4, h5, h6⟩
  · intro p e s m args below meth c s₁ B hml hP _
    have hh0 : s₁.heap = s.heap := by rw [B.state]; rfl
    have ht : c.exceptionTable.toList = tableOf hh := vx_table (x := y) B (atoms_spec (ws := ws) B.pre _ (by rw [hw]; exact List.mem_cons_self))
    obtain ⟨t, a1, o, b1, b2, b3⟩ := body p e s m args below meth c s₁ B hml ht hP s₁ hh0 (Stand.of_body B)
    exact ⟨t, o, a1, b1, b2, ⟨b3.1, b3.2⟩⟩
section ML
variable {p : Program} {l : Launch} {e : Env} {R : Room} {s : State} {m : MethodId} {args : Array Value} {below : List Frame} {meth : Method} {c : Code} {H : Heap} {locs : List Loc} {cells slots : Nat} {Q : State → Prop}
variable {cc : ByteArray} {pc nL : Nat} {ls : Array Slot} {rest st : List Value} {own : String} {G : mG} {ad : Nat → Nat} {σ : mS} {b u fr lo : Nat} {X : String → mS → Prop} {a : Array Value} {Qc : Array Value → State → Outcome → State → Prop}
theorem ml_start {y : MethodName} {ml : Nat} {hh : List (Nat × Nat × Nat × Nat)} {av : List Value} {lst : List (Nat × Value)} (hy : plainName y.cls = true) (hcat : ∀ v ∈ av, v.category = 1) (hav : lv_ix 0 av = lst) (hlen : av.length ≤ ml)
    (body : ∀ (p : Program) (e : Env) (s : State) (m : MethodId) (below : List Frame) (meth : Method) (c : Code), mX p s m c cc ml av.toArray y.cls G → mM G kdC ad s σ s.heap [] → mZ ad s s.heap → mNcs s → meth.sig.returnType = some .int → meth.locks = false → c.exceptionTable.toList = tableOf hh → ∀ ls : Array Slot, ml_has ls ml lst → W p l e (mRb fr lo b) s m av.toArray below meth c s.heap [] 0 (18 * 0) (MQ below Qc av.toArray s b (18 * b) (mA ad)) (F0 m 0 ls [])) :
    Met l y (mWL y cc ml hh) (mRb fr lo b) (va_Pc av (mPreN G ad σ)) Qc b (18 * b) (mA ad) := by
  refine mr_ofWH (cc := cc) (maxL := ml) (ret := some .int) hy rfl ?_
  intro p e s m args below meth c s₁ B hml hout hv
  obtain ⟨rfl, ⟨⟨hP, hK⟩, hZ⟩, hN⟩ := hv
  have hts := atoms_spec (ws := mWL y cc ml hh) B.pre
  have hown : s.vm.findClass y.cls = some m.cls := findClass_of_methodNamed B.named
  have hl := lv_entry av (n := ml) (by rw [lg_sl_len av hcat]; exact hlen)
  rw [lv_ix_eq av 0 hcat, hav] at hl
  rw [lg_entry_eq]
  exact body p e s m below meth c ⟨⟨B.exec, B.bytes, hml, hown, fun w hw => hts w (List.mem_cons_of_mem _ hw)⟩, hK⟩ ⟨hP, va_S.rf⟩ hZ hN B.returns B.notSynchronized hout _ ⟨hl, by rw [← hav]; exact lv_ix_cat av 0 hcat⟩
/-- the call: it answers, or throws and the handlers have it -/
theorem ml_call {Qi : Int32 → mS → Prop} (hr : vx_Run p l e (mRb fr lo b) s m args below meth c s.heap [] 0 (18 * 0) b (18 * b) (F0 m pc ls st) rest (va_Qi Qi (mPost G kdC ad) (mA ad) a) (mXC X G ad) (mA ad))
    (kx : ∀ (E : String) (ce : Cell) (q9 : Addr) (v : mS) (H1 : Heap) (locs1 : List Loc), X E v → mPw G ad v H1 → va_S (mA ad) s.heap H1 locs1 → H1[q9]? = some ce → ce.vm = .none → s.vm.findClass E = some ce.cls → vx_W p l e (mRb fr lo b) s m args below meth c H1 locs1 b (18 * b) Q (F0 m pc ls rest) q9)
    (kk : ∀ (r : Int32) (v : mS) (H1 : Heap) (locs1 : List Loc), Qi r v → mPw G ad v H1 → va_S (mA ad) s.heap H1 locs1 → W p l e (mRb fr lo b) s m args below meth c H1 locs1 b (18 * b) Q (F0 m (pc + 3) ls (.int r :: rest))) :
    W p l e (mRb fr lo b) s m args below meth c s.heap [] 0 (18 * 0) Q (F0 m pc ls st) := by
  refine vx_calli hr (A0 := mA ad) (H0 := s.heap) va_S.rf (fun _ _ h => h) (fun _ h => h) (fun _ _ h => h) (fun E ce q9 v t H1 locs1 ht hvm _ hB hz hk hS hcell hcv hcl => ?_) (fun r v t H1 locs1 ht hvm hw hB hz1 hk1 hS => ?_)
  · intro T hT XX
    exact kx E ce q9 v H1 locs1 hB.1 (by rw [← ht]; exact hB.2) hS hcell hcv hcl T hT (by rw [Nat.zero_add, Nat.mul_zero, Nat.zero_add] at XX; exact XX)
  · exact W.cs (Nat.zero_add b) (by rw [Nat.mul_zero, Nat.zero_add]) (kk r v H1 locs1 hw (by rw [← ht]; exact mPw_of hB (fun _ _ => rfl)) hS)
theorem ml_ret {Qi : Int32 → mS → Prop} {r : Int32} {v : mS} (C : mX p s m c cc nL args own G) (hr : meth.sig.returnType = some .int) (hlk : meth.locks = false) (h : Qi r v) (hP : mPw G ad v H) (hS : va_S (mA ad) s.heap H locs) (hdg : decode cc pc = .ok (.ireturn, 1)) :
    W p l e R s m args below meth c H locs cells slots (MQ below (va_Qi Qi (mPostN G ad) (mA ad)) args s cells slots (mA ad)) (F0 m pc ls [.int r]) :=
  W.iret C.1.1 C.1.2.1 hr (fun t ht _ => ⟨⟨r, v, rfl, h, by show mPw G ad v t.heap; rw [ht]; exact hP⟩, hS.F ht⟩) hS.2.2 hdg hlk
end ML
