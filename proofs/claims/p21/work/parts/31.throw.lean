theorem mF_IO : ∀ w ∈ (vx_atS RX2 166 xIO xNm).filter goodWord, w ∈ wsL_law := fun _ h => List.mem_append_left _ (List.mem_append_left _ (List.mem_append_right _ h))
theorem mF_IA : ∀ w ∈ (vx_atS RX2 46 xIA xNm).filter goodWord, w ∈ wsL_law := fun _ h => List.mem_append_left _ (List.mem_append_right _ h)
theorem mF_IS : ∀ w ∈ (vx_atS RX2 57 xIS xNm).filter goodWord, w ∈ wsL_law := fun _ h => List.mem_append_right _ h
theorem mBd_IO : ∀ w ∈ (vx_atS RX2 166 xIO xNm).filter (fun w => !goodWord w), w ∈ mNw := by decide +kernel
theorem mBd_IA : ∀ w ∈ (vx_atS RX2 46 xIA xNm).filter (fun w => !goodWord w), w ∈ mNw := by decide +kernel
theorem mBd_IS : ∀ w ∈ (vx_atS RX2 57 xIS xNm).filter (fun w => !goodWord w), w ∈ mNw := by decide +kernel
theorem mOt_IO : ∀ w ∈ Cond.classLink RX2 162 xIO :: Cond.initialized xIO :: vx_atS RX2 166 xIO xNm, vx_ot w = true := by decide +kernel
theorem mOt_IA : ∀ w ∈ Cond.classLink RX2 42 xIA :: Cond.initialized xIA :: vx_atS RX2 46 xIA xNm, vx_ot w = true := by decide +kernel
theorem mOt_IS : ∀ w ∈ Cond.classLink RX2 53 xIS :: Cond.initialized xIS :: vx_atS RX2 57 xIS xNm, vx_ot w = true := by decide +kernel
section MU
variable {p : Program} {l : Launch} {e : Env} {R : Room} {s : State} {m : MethodId} {args : Array Value} {below : List Frame} {meth : Method} {c : Code} {H : Heap} {locs : List Loc} {cells slots : Nat} {Q : State → Prop}
variable {cc : ByteArray} {pc nL : Nat} {ls : Array Slot} {rest : List Value} {own : String} {G : mG} {kd : Nat → Nat × Nat} {ad : Nat → Nat} {σ : mS} {b u fr lo : Nat}
variable {Qc : Array Value → State → Outcome → State → Prop} {X : String → mS → Prop}
theorem mr_throw (C : mX p s m c cc nL args RX2 G) (hM : mM G kdC ad s σ H locs) (Z : mZ ad s s.heap) (hfl : l.stackTraces = false) (hls : ls.size = nL) {ik is ic : Nat} {cls text : String} (hcls : Bundle.fit cls = true) (hk : Cond.classLink RX2 ik cls ∈ wsL_law) (hini : Cond.initialized cls ∈ wsL_law)
    (hF : ∀ w ∈ (vx_atS RX2 ic cls xNm).filter goodWord, w ∈ wsL_law) (hB : ∀ w ∈ (vx_atS RX2 ic cls xNm).filter (fun w => !goodWord w), w ∈ mNw) (hg : ∀ w ∈ Cond.classLink RX2 ik cls :: Cond.initialized cls :: vx_atS RX2 ic cls xNm, vx_ot w = true) (hst : (is, text) ∈ mStr)
    (hout : ∀ x ∈ c.exceptionTable.toList, False) (hlk : meth.locks = false) (hfr : 5 < fr) (hlo : 90 ≤ lo) (hu : u + 1 ≤ b) (d0 : decode cc pc = .ok (.new ik, 3)) (d3 : decode cc (pc + 3) = .ok (.dup, 1)) (d4 : decode cc (pc + 4) = .ok (.ldc is, 2)) (d6 : decode cc (pc + 6) = .ok (.invokespecial ic, 3)) (d9 : decode cc (pc + 9) = .ok (.athrow, 1)) (h : X cls σ) :
    W p l e (mRb fr lo b) s m args below meth c H locs u (18 * u) (vx_MQ below Qc (mXC X G ad) args s b (18 * b) (mA ad)) (F0 m pc ls []) := by
  obtain ⟨sa, hsa⟩ := Z.2.2.2 _ hst
  have hts := C.1.2.2.2.2
  have hat : ∀ w ∈ vx_atS RX2 ic cls xNm, w.before args s = true := vx_hat (fun w hw => hts w (hF w hw)) hB (fun w hw => (Z.2.2.1 w hw).use (mNw_on w hw))
  refine vx_throwS (names := xNm) C.1.1 C.1.2.1 hfl C.1.2.2.2.1 hcls (by decide +kernel) (hts _ hk) (hts _ hini) hsa hat hg Z.1 Z.2.1 hM.2 (by rw [C.1.2.2.1]; exact hls) d0 d3 d4 d6 d9 (fun x hx => (hout x hx).elim) (show 2 + 3 < fr from hfr) (show 0 + (13 * (2 + 1) + 43) ≤ lo by omega) (show u + 1 ≤ b from hu) (show 18 * u + 6 ≤ 18 * b by omega) hlk (fun t hvm hz hk => ⟨σ, trivial, ⟨h, mPw_of hM.1 hk⟩, Nat.le_trans hM.2.1 hz, fun q h1 h2 => (hk q (Nat.lt_of_lt_of_le h1 hM.2.1)).trans (hM.2.2.1 q h1 h2)⟩) hM.2.2.2 hu (by omega)
theorem mr_wi (hu : u ≤ b) {g : JFrame} (kk : W p l e (mRb fr lo b) s m args below meth c H locs b (18 * b) Q g) : W p l e (mRb fr lo b) s m args below meth c H locs u (18 * u) Q g := W.widen hu (Nat.mul_le_mul_left 18 hu) kk
theorem mr_xstart {y : MethodName} {ml : Nat} {ret : Option FieldType} {av : List Value} {lst : List (Nat × Value)} (hy : plainName y.cls = true) (hcat : ∀ v ∈ av, v.category = 1) (hav : lv_ix 0 av = lst) (hlen : av.length ≤ ml)
    (body : ∀ (p : Program) (e : Env) (s : State) (m : MethodId) (below : List Frame) (meth : Method) (c : Code), mX p s m c cc ml av.toArray y.cls G → mM G kdC ad s σ s.heap [] → mZ ad s s.heap → meth.sig.returnType = ret → meth.locks = false → (∀ x ∈ c.exceptionTable.toList, False) → ∀ ls : Array Slot, ml_has ls ml lst → W p l e (mRb fr lo b) s m av.toArray below meth c s.heap [] 0 (18 * 0) (vx_MQ below Qc (mXC X G ad) av.toArray s b (18 * b) (mA ad)) (F0 m 0 ls [])) :
    vx_Met l y (mWs y cc ml ret) (mRb fr lo b) (va_Pc av (mPreZ G ad σ)) Qc (mXC X G ad) b (18 * b) (mA ad) := by
  refine vx_ofW (cc := cc) (maxL := ml) (ret := ret) hy rfl ?_
  intro p e s m args below meth c s₁ B hml hout hv
  obtain ⟨rfl, ⟨hP, hK⟩, hZ⟩ := hv
  have hts := atoms_spec (ws := mWs y cc ml ret) B.pre
  have hown : s.vm.findClass y.cls = some m.cls := findClass_of_methodNamed B.named
  have hl := lv_entry av (n := ml) (by rw [lg_sl_len av hcat]; exact hlen)
  rw [lv_ix_eq av 0 hcat, hav] at hl
  rw [lg_entry_eq]
  exact body p e s m below meth c ⟨⟨B.exec, B.bytes, hml, hown, fun w hw => hts w (List.mem_cons_of_mem _ hw)⟩, hK⟩ ⟨hP, va_S.rf⟩ hZ B.returns B.notSynchronized hout _ ⟨hl, by rw [← hav]; exact lv_ix_cat av 0 hcat⟩
theorem mr_bstart {y : MethodName} {ml : Nat} {ret : Option FieldType} {av : List Value} {lst : List (Nat × Value)} (hy : plainName y.cls = true) (hcat : ∀ v ∈ av, v.category = 1) (hav : lv_ix 0 av = lst) (hlen : av.length ≤ ml)
    (body : ∀ (p : Program) (e : Env) (s : State) (m : MethodId) (below : List Frame) (meth : Method) (c : Code), mX p s m c cc ml av.toArray y.cls G → mM G kd ad s σ s.heap [] → meth.sig.returnType = ret → meth.locks = false → meth.name = y.name → ∀ ls : Array Slot, ml_has ls ml lst → W p l e (mRb fr lo b) s m av.toArray below meth c s.heap [] 0 (18 * 0) (MQ below Qc av.toArray s b (18 * b) (mA ad)) (F0 m 0 ls [])) :
    Met l y (mWs y cc ml ret) (mRb fr lo b) (va_Pc av (mPre G kd ad σ)) Qc b (18 * b) (mA ad) := by
  refine Met.ofW (cc := cc) (maxL := ml) (ret := ret) hy rfl ?_
  intro p e s m args below meth c s₁ B hml hv
  obtain ⟨rfl, hP, hK⟩ := hv
  have hts := atoms_spec (ws := mWs y cc ml ret) B.pre
  have hown : s.vm.findClass y.cls = some m.cls := findClass_of_methodNamed B.named
  have hl := lv_entry av (n := ml) (by rw [lg_sl_len av hcat]; exact hlen)
  rw [lv_ix_eq av 0 hcat, hav] at hl
  rw [lg_entry_eq]
  exact body p e s m below meth c ⟨⟨B.exec, B.bytes, hml, hown, fun w hw => hts w (List.mem_cons_of_mem _ hw)⟩, hK⟩ ⟨hP, va_S.rf⟩ B.returns B.notSynchronized (name_of_methodNamed B.named B.method).1 _ ⟨hl, by rw [← hav]; exact lv_ix_cat av 0 hcat⟩
variable {y : MethodName} {bytes : ByteArray} {maxL index n f2 l2 i ci k : Nat} {As : List Value} {st : List Value} {cls : String} {q : vw_C}
theorem mr_runVb {ret : Option FieldType} (C : mX p s m c cc nL args own G) (hM : mM G kd ad s σ H locs) (hl : ls.size = nL) (hc : Met l y (mWs y bytes maxL ret) (mRb f2 l2 k) (va_Pc (mV ad (some i) :: As) (mPre G kd ad σ)) Qc k (18 * k) (mA ad)) (hg : mCw own index cls y bytes maxL ret) (ho : mO kd ci i σ) (hq : vwCl[ci]? = some q) (hqc : q.1 = cls)
    (hd : y.cls = cls ∧ y.cls ≠ "java/lang/invoke/MethodHandle" ∧ y.cls ≠ "java/lang/invoke/VarHandle" ∧ (parseMethodDescriptor y.desc).map (fun d => d.parameters.length) = some n) (hn : As.length = n) (hst : st = As.reverse ++ mV ad (some i) :: rest) (hR : f2 + 1 ≤ fr ∧ 8 + (maxL + 11) + l2 ≤ lo) (hw : ∀ v ∈ rest, v.category = 1) (hw8 : rest.length ≤ 8) (hdg : decode cc pc = .ok (.invokevirtual index, 3)) (hf : u + k ≤ b) :
    va_Run p l e (mRb fr lo b) s m args below meth c H locs u (18 * u) k (18 * k) (F0 m pc ls st) rest (Qc (Value.ref (ad i) :: As).toArray) (mA ad) := by
  subst hqc
  subst hst
  subst hn
  exact va_runV (As := As) (rest := rest) C.1 hc (cwV As.length C.1.2.2.2.2 hg.good rfl rfl rfl hd hR) (mr_preV C hM ho hq As) rfl rfl hl rfl (lv_room (pc := pc) (ls := ls) (rest := As.reverse ++ mV ad (some i) :: rest) (m_wt hw hw8)) hdg ⟨hf, show 18 * u + 18 * k ≤ 18 * b by omega⟩
theorem mr_runI (C : mX p s m c cc nL args own G) (hM : mM G kd ad s σ H locs) (hl : ls.size = nL) (hc : Met l y (mWs y bytes maxL none) (mRb f2 l2 0) (va_Pc (mV ad (some i) :: As) (mPre G kd ad σ)) Qc 0 (18 * 0) (mA ad)) (h1 : Cond.methodLink own index y ∈ wsL_law) (h2 : Cond.instanceMethod y ∈ wsL_law) (h3 : Cond.initialized y.cls ∈ wsL_law) (h4 : Cond.code y bytes maxL none ∈ wsL_law) (hy1 : y.name = "<init>")
    (hd : y.cls ≠ "java/lang/invoke/MethodHandle" ∧ y.cls ≠ "java/lang/invoke/VarHandle" ∧ (parseMethodDescriptor y.desc).map (fun d => d.parameters.length) = some n) (hn : As.length = n) (hst : st = As.reverse ++ mV ad (some i) :: rest) (hR : f2 + 1 ≤ fr ∧ 8 + (maxL + 11) + l2 ≤ lo) (hw : ∀ v ∈ rest, v.category = 1) (hw8 : rest.length ≤ 8) (hdg : decode cc pc = .ok (.invokespecial index, 3)) (hu : u ≤ b) :
    va_Run p l e (mRb fr lo b) s m args below meth c H locs u (18 * u) 0 0 (F0 m pc ls st) rest (Qc (Value.ref (ad i) :: As).toArray) (mA ad) := by
  subst hst
  subst hn
  have hts := C.1.2.2.2.2
  have hG : GoodIn wsL_law (mWs y bytes maxL none) := fun w hw => by
    have : w ∈ wsL_law := by
      rcases List.mem_cons.mp hw with rfl | hw
      · exact h4
      · exact hw
    exact ⟨this, m_good w this⟩
  exact va_runI (As := As) (rest := rest) (b := ad i) C.1 hc (cwI As.length hts hG rfl rfl rfl (hts _ h3) (hts _ h1) (hts _ h2) hy1 hd hR) (mr_preS C hM (mV ad (some i) :: As)) rfl rfl hl rfl (lv_room (pc := pc) (ls := ls) (rest := As.reverse ++ mV ad (some i) :: rest) (m_wt hw hw8)) hdg ⟨hu, Nat.mul_le_mul_left 18 hu⟩
theorem mr_cvb {a : Array Value} {Qv : mS → Prop} (hM : mM G kd ad s σ H locs) (hr : va_Run p l e R s m args below meth c H locs u (18 * u) k (18 * k) (F0 m pc ls st) rest (va_Qv Qv (mPost G kd ad) (mA ad) a) (mA ad)) (kk : ∀ (v : mS) (H1 : Heap) (locs1 : List Loc), Qv v → mM G kd ad s v H1 locs1 → W p l e R s m args below meth c H1 locs1 (u + k) (18 * (u + k)) Q (F0 m (pc + 3) ls rest)) : W p l e R s m args below meth c H locs u (18 * u) Q (F0 m pc ls st) :=
  va_callv hr hM.2 (fun _ _ h => h) (fun _ h => h) (fun v t H1 locs1 ht hvm hw hB hz1 hk1 hS => W.cs rfl (by omega) (kk v H1 locs1 hw ⟨by rw [← ht]; exact hB, hS⟩))
theorem mr_cqb {a : Array Value} {Qq : Option Nat → mS → Prop} (hM : mM G kd ad s σ H locs) (hr : va_Run p l e R s m args below meth c H locs u (18 * u) k (18 * k) (F0 m pc ls st) rest (va_Qq (fun (r : Option Nat) (v : mS) => ∃ i : Option Nat, r = i.map ad ∧ Qq i v) (mPost G kd ad) (mA ad) a) (mA ad)) (kk : ∀ (r : Option Nat) (v : mS) (H1 : Heap) (locs1 : List Loc), Qq r v → mM G kd ad s v H1 locs1 → W p l e R s m args below meth c H1 locs1 (u + k) (18 * (u + k)) Q (F0 m (pc + 3) ls (mV ad r :: rest))) : W p l e R s m args below meth c H locs u (18 * u) Q (F0 m pc ls st) :=
  va_callq hr hM.2 (fun _ _ h => h) (fun _ h => h) (fun r v t H1 locs1 ht hvm hw hB hz1 hk1 hS => by
    obtain ⟨i, rfl, hw⟩ := hw
    exact W.cs rfl (by omega) (kk i v H1 locs1 hw ⟨by rw [← ht]; exact hB, hS⟩))
theorem mr_xpreV (C : mX p s m c cc nL args own G) (hM : mM G kdC ad s σ H locs) (Z : mZ ad s s.heap) (ho : mO kdC ci i σ) (hc : vwCl[ci]? = some q) (As : List Value) : PreV s H q.1 (ad i) (va_Pc (mV ad (some i) :: As) (mPreZ G ad σ)) As := by
  obtain ⟨h1, h2, h3⟩ := mr_preV C hM ho hc As
  exact ⟨mPreZ.blind _ _ _ _, h2, fun U hU hW => ⟨rfl, (h3 U hU hW).2, Z.at hM.2 hU hW⟩⟩
theorem mr_xrunV {ret : Option FieldType} (C : mX p s m c cc nL args own G) (hM : mM G kdC ad s σ H locs) (Z : mZ ad s s.heap) (hl : ls.size = nL) (hc : vx_Met l y (mWs y bytes maxL ret) (mRb f2 l2 k) (va_Pc (mV ad (some i) :: As) (mPreZ G ad σ)) Qc (mXC X G ad) k (18 * k) (mA ad)) (hg : mCw own index cls y bytes maxL ret) (ho : mO kdC ci i σ) (hq : vwCl[ci]? = some q) (hqc : q.1 = cls)
    (hd : y.cls = cls ∧ y.cls ≠ "java/lang/invoke/MethodHandle" ∧ y.cls ≠ "java/lang/invoke/VarHandle" ∧ (parseMethodDescriptor y.desc).map (fun d => d.parameters.length) = some n) (hn : As.length = n) (hst : st = As.reverse ++ mV ad (some i) :: rest) (hR : f2 + 1 ≤ fr ∧ 8 + (maxL + 11) + l2 ≤ lo) (hw : ∀ v ∈ rest, v.category = 1) (hw8 : rest.length ≤ 8) (hdg : decode cc pc = .ok (.invokevirtual index, 3)) (hf : u + k ≤ b) :
    vx_Run p l e (mRb fr lo b) s m args below meth c H locs u (18 * u) k (18 * k) (F0 m pc ls st) rest (Qc (Value.ref (ad i) :: As).toArray) (mXC X G ad) (mA ad) := by
  subst hqc
  subst hst
  subst hn
  exact vx_runV (As := As) (rest := rest) C.1 hc (cwV As.length C.1.2.2.2.2 hg.good rfl rfl rfl hd hR) (mr_xpreV C hM Z ho hq As) rfl rfl hl rfl (lv_room (pc := pc) (ls := ls) (rest := As.reverse ++ mV ad (some i) :: rest) (m_wt hw hw8)) hdg ⟨hf, show 18 * u + 18 * k ≤ 18 * b by omega⟩
theorem mr_xrunS {ret : Option FieldType} (C : mX p s m c cc nL args own G) (hM : mM G kdC ad s σ H locs) (Z : mZ ad s s.heap) (hl : ls.size = nL) (hc : vx_Met l y (mWs y bytes maxL ret) (mRb f2 l2 k) (va_Pc As (mPreZ G ad σ)) Qc (mXC X G ad) k (18 * k) (mA ad)) (hg : mCs own index y bytes maxL ret)
    (hd : y.cls = own ∧ y.cls ≠ "java/lang/invoke/MethodHandle" ∧ y.cls ≠ "java/lang/invoke/VarHandle" ∧ (parseMethodDescriptor y.desc).map (fun d => d.parameters.length) = some n) (hn : As.length = n) (hst : st = As.reverse ++ rest) (hR : f2 + 1 ≤ fr ∧ 8 + (maxL + 11) + l2 ≤ lo) (hw : ∀ v ∈ rest, v.category = 1) (hw8 : rest.length ≤ 8) (hdg : decode cc pc = .ok (.invokestatic index, 3)) (hf : u + k ≤ b) :
    vx_Run p l e (mRb fr lo b) s m args below meth c H locs u (18 * u) k (18 * k) (F0 m pc ls st) rest (Qc As.toArray) (mXC X G ad) (mA ad) := by
  subst hst
  subst hn
  exact vx_runS (As := As) (rest := rest) C.1 hc (cwS As.length C.1.2.2.2.2 hg.good rfl rfl rfl hd hR) ⟨mPreZ.blind _ _ _ _, fun U hU hW => ⟨rfl, ((mr_preS C hM As).2 U hU hW).2, Z.at hM.2 hU hW⟩⟩ rfl rfl hl rfl (lv_room (pc := pc) (ls := ls) (rest := As.reverse ++ rest) (m_wt hw hw8)) hdg ⟨hf, show 18 * u + 18 * k ≤ 18 * b by omega⟩
variable {Q9 : Array Value → State → Outcome → State → Prop} {a : Array Value}
theorem mr_xout (hout : ∀ x ∈ c.exceptionTable.toList, False) (hlk : meth.locks = false) (hf : u + k ≤ b) {E : String} {ce : Cell} {q9 : Addr} {v : mS} {t : State} {H1 : Heap} {locs1 : List Loc} (ht : t.heap = H1) (hB : X E v ∧ mPw G ad v t.heap) (hS : va_S (mA ad) s.heap H1 locs1) (hcell : H1[q9]? = some ce) (hcv : ce.vm = .none) (hcl : s.vm.findClass E = some ce.cls) :
    vx_W p l e (mRb fr lo b) s m args below meth c H1 locs1 (u + k) (18 * u + 18 * k) (vx_MQ below Q9 (mXC X G ad) args s b (18 * b) (mA ad)) (F0 m pc ls rest) q9 :=
  vx_out (fun x hx => (hout x hx).elim) hlk hcell hcv hcl (fun t' ht' _ => ⟨v, trivial, ⟨hB.1, by rw [ht', ← ht]; exact hB.2⟩, hS.F ht'⟩) hS.2.2 hf (by omega)
theorem mr_xci {Qi : Int32 → mS → Prop} (hM : mM G kdC ad s σ H locs) (hout : ∀ x ∈ c.exceptionTable.toList, False) (hlk : meth.locks = false) (hf : u + k ≤ b) (hr : vx_Run p l e (mRb fr lo b) s m args below meth c H locs u (18 * u) k (18 * k) (F0 m pc ls st) rest (va_Qi Qi (mPost G kdC ad) (mA ad) a) (mXC X G ad) (mA ad)) (kk : ∀ (r : Int32) (v : mS) (H1 : Heap) (locs1 : List Loc), Qi r v → mM G kdC ad s v H1 locs1 → W p l e (mRb fr lo b) s m args below meth c H1 locs1 (u + k) (18 * (u + k)) (vx_MQ below Q9 (mXC X G ad) args s b (18 * b) (mA ad)) (F0 m (pc + 3) ls (.int r :: rest))) :
    W p l e (mRb fr lo b) s m args below meth c H locs u (18 * u) (vx_MQ below Q9 (mXC X G ad) args s b (18 * b) (mA ad)) (F0 m pc ls st) :=
  vx_calli hr hM.2 (fun _ _ h => h) (fun _ h => h) (fun _ _ h => h) (fun E ce q9 v t H1 locs1 ht hvm _ hB hz hk hS hcell hcv hcl => mr_xout hout hlk hf ht hB hS hcell hcv hcl) (fun r v t H1 locs1 ht hvm hw hB hz1 hk1 hS => W.cs rfl (by omega) (kk r v H1 locs1 hw ⟨by rw [← ht]; exact hB, hS⟩))
theorem mr_xcv {Qv : mS → Prop} (hM : mM G kdC ad s σ H locs) (hout : ∀ x ∈ c.exceptionTable.toList, False) (hlk : meth.locks = false) (hf : u + k ≤ b) (hr : vx_Run p l e (mRb fr lo b) s m args below meth c H locs u (18 * u) k (18 * k) (F0 m pc ls st) rest (va_Qv Qv (mPost G kdC ad) (mA ad) a) (mXC X G ad) (mA ad)) (kk : ∀ (v : mS) (H1 : Heap) (locs1 : List Loc), Qv v → mM G kdC ad s v H1 locs1 → W p l e (mRb fr lo b) s m args below meth c H1 locs1 (u + k) (18 * (u + k)) (vx_MQ below Q9 (mXC X G ad) args s b (18 * b) (mA ad)) (F0 m (pc + 3) ls rest)) :
    W p l e (mRb fr lo b) s m args below meth c H locs u (18 * u) (vx_MQ below Q9 (mXC X G ad) args s b (18 * b) (mA ad)) (F0 m pc ls st) :=
  vx_callv hr hM.2 (fun _ _ h => h) (fun _ h => h) (fun _ _ h => h) (fun E ce q9 v t H1 locs1 ht hvm _ hB hz hk hS hcell hcv hcl => mr_xout hout hlk hf ht hB hS hcell hcv hcl) (fun v t H1 locs1 ht hvm hw hB hz1 hk1 hS => W.cs rfl (by omega) (kk v H1 locs1 hw ⟨by rw [← ht]; exact hB, hS⟩))
theorem mr_xcq {Qq : Option Nat → mS → Prop} (hM : mM G kdC ad s σ H locs) (hout : ∀ x ∈ c.exceptionTable.toList, False) (hlk : meth.locks = false) (hf : u + k ≤ b) (hr : vx_Run p l e (mRb fr lo b) s m args below meth c H locs u (18 * u) k (18 * k) (F0 m pc ls st) rest (va_Qq (fun (r : Option Nat) (v : mS) => ∃ i : Option Nat, r = i.map ad ∧ Qq i v) (mPost G kdC ad) (mA ad) a) (mXC X G ad) (mA ad)) (kk : ∀ (r : Option Nat) (v : mS) (H1 : Heap) (locs1 : List Loc), Qq r v → mM G kdC ad s v H1 locs1 → W p l e (mRb fr lo b) s m args below meth c H1 locs1 (u + k) (18 * (u + k)) (vx_MQ below Q9 (mXC X G ad) args s b (18 * b) (mA ad)) (F0 m (pc + 3) ls (mV ad r :: rest))) :
    W p l e (mRb fr lo b) s m args below meth c H locs u (18 * u) (vx_MQ below Q9 (mXC X G ad) args s b (18 * b) (mA ad)) (F0 m pc ls st) :=
  vx_callq hr hM.2 (fun _ _ h => h) (fun _ h => h) (fun _ _ h => h) (fun E ce q9 v t H1 locs1 ht hvm _ hB hz hk hS hcell hcv hcl => mr_xout hout hlk hf ht hB hS hcell hcv hcl) (fun r v t H1 locs1 ht hvm hw hB hz1 hk1 hS => by
    obtain ⟨i, rfl, hw⟩ := hw
    exact W.cs rfl (by omega) (kk i v H1 locs1 hw ⟨by rw [← ht]; exact hB, hS⟩))
end MU
