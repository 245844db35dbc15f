theorem mi_ap {a b : List Cond} (ha : ∀ w ∈ a, w ∈ lw_tbl) (hb : ∀ w ∈ b, w ∈ lw_tbl) : ∀ w ∈ a ++ b, w ∈ lw_tbl := fun w h => (List.mem_append.mp h).elim (ha w) (hb w)
theorem wsL_law_in0 : ∀ w ∈ wsL_law0, w ∈ lw_tbl := (mi_ap (mi_ap (mi_ap (mi_ap (mi_ap (mi_ap mi_1 (mi_ap mi_2 (mi_ap mi_3 (mi_ap mi_4 (mi_ap mi_5 (mi_ap mi_6 (mi_ap mi_7 (mi_ap mi_8 (mi_ap mi_9 (mi_ap mi_10 (mi_ap mi_11 (mi_ap mi_12 (mi_ap mi_13 (mi_ap mi_14 (mi_ap mi_15 (mi_ap mi_16 (mi_ap mi_17 (mi_ap mi_18 (mi_ap mi_19 (mi_ap mi_20 (mi_ap mi_21 (mi_ap mi_22 (mi_ap mi_23 (mi_ap mi_24 mi_25)))))))))))))))))))))))) mi_x0) mi_x1) mi_x2) mi_x3) (fun _ h => absurd h List.not_mem_nil))
theorem wsL_law_in : ∀ w ∈ wsL_law, w ∈ lw_tbl := mi_ap (mi_ap (mi_ap wsL_law_in0 wsL_law_x0) wsL_law_x1) wsL_law_x2
theorem mNw_in : ∀ w ∈ mNw, w ∈ lw_tbl := by decide +kernel
theorem mSt_in : ∀ q ∈ mStr, Cond.stringRef RX2 q.1 q.2 ∈ lw_tbl := by decide +kernel
/-! THE CLAIM OUT OF ONE WALK OF THE LAW'S BODY. Your part is whole_start (and what it stands on); all else here is the same for every law, but numbers. -/
def R_law : String := "DeadlineCallsLaw"
def lw_P (b : Addr) (xs : List Int32) (args : Array Value) (s : State) : Prop := args = #[.ref b] ∧ s.IntsAt b xs ∧ xs.length ≤ 2560 ∧ (Jvm.Cond.and given_1 narrow_1).before args s = true
def lw_Q (_ : Array Value) (s : State) (o : Outcome) (t : State) : Prop := o = .returned (some (.int 1)) ∧ Framed s o t [] room_1.cells room_1.slots
def lw_Z (below : List Frame) (a : Array Value) (s : State) : State → Prop := fun t => ∃ o, t.status = .running ∧ Ended t below o ∧ lw_Q a s o t
/-- the law's own end, with 1 on the stack, nothing written that was there before, its room as the claim has it -/
theorem lw_ret {p : Program} {l : Launch} {e : Env} {s : State} {m : MethodId} {below : List Frame} {meth : Method} {c : Code} {b : Nat} (hx : p.tables.exec = Jvm.exec) (hb : c.code = code) (hr : meth.sig.returnType = ret) (hlocks : meth.locks = false) {pc : Nat} {H : Heap} {ls : Array Slot} (hdg : decode code pc = .ok (.ireturn, 1)) : W p l e room_1 s m #[Value.ref b] below meth c H [] room_1.cells room_1.slots (lw_Z below #[Value.ref b] s) (F0 m pc ls [.int 1]) := by
  intro T hT X
  obtain ⟨fs, hret, hrun, hended, hW, hframe⟩ := X.leave (v := some (.int 1)) (hlocks := hlocks) (fun h => by rw [hr] at h; cases h)
  have hmeth' : T.vm.method? m = some meth := X.method'
  refine ⟨T.setFrames fs, ?_, .returned (some (.int 1)), hrun, hended, rfl, ⟨_, rfl⟩, hW, hframe⟩
  jvm_step X.here [X.here.top, hx, hb, hdg, hmeth', hr, ret, narrow_b1]
  (try refine ⟨rfl, ?_⟩); (try refine ⟨rfl, ?_⟩)
  first | (intro acts; rw [hret _ acts rfl rfl rfl]) | rw [hret _ _ rfl rfl rfl]
  exact Steps.refl _
/-- what holds at the law's entry: the machine, the code, the tables' words (any of lw_tbl by 'hts w (by decide +kernel)'), the script of L ints xs at the cell b, what the Statement gives of the start (any of its parts by flat_of_before) -/
def lw_At (p : Program) (s : State) (m : MethodId) (meth : Method) (c : Code) (b L : Nat) (xs : Nat → Int32) : Prop :=
  p.tables.exec = Jvm.exec ∧ c.code = code ∧ meth.sig.returnType = ret ∧ c.maxLocals = 7 ∧ s.vm.findClass R_law = some m.cls ∧ (∀ w ∈ lw_tbl, w.before #[Value.ref b] s = true) ∧ va_X b L xs s s.heap ∧ b < s.heap.size ∧ meth.locks = false ∧ (Jvm.Cond.and given_1 narrow_1).before #[Value.ref b] s = true
theorem mEx_in : ∀ q ∈ mStr, Cond.exactly (.string RX2 q.1) "java/lang/String" ∈ flatC (Jvm.Cond.and given_1 narrow_1) := by decide +kernel
theorem mAr {args : Array Value} {s : State} {ty : FieldType} (h : (Cond.arrayClass ty).before args s = true) : ∃ cA, ArrOfT s cA ty ∧ s.vm.findClass ("[" ++ ty.toString) = some cA := by
  obtain ⟨cA, kA, comp, h1, h2, h3⟩ := Cond.arrayClass_spec h
  exact ⟨cA, fun n z => ⟨(fun k h => by cases h), kA, h2, comp, h3⟩, h1⟩
theorem mAo {args : Array Value} {s : State} {C : String} (h : (Cond.arrayOver (.object C)).before args s = true) : ∃ cA, ArrOfT s cA (.object C) ∧ va_RA s cA (.object C) := by
  obtain ⟨comp, cA, kA, h1, h2, h3, h4, h5⟩ := Cond.arrayOver_spec h
  exact ⟨cA, fun n z => ⟨(fun k h => by cases h), kA, h3, comp, h4⟩, kA, comp, h3, h4, h1, h5⟩
def mGd (c0 c1 c2 c3 : ClassId) : Nat → ClassId := fun k => match k with | 0 => c0 | 1 => c1 | 2 => c2 | 3 => c3 | 4 => c1 | 5 => c2 | _ => c3
def mGi (c0 c1 c2 c3 : Nat → Nat) : Nat → Nat → Nat := fun k => match k with | 0 => c0 | 1 => c1 | 2 => c2 | 3 => c3 | 4 => c1 | 5 => c2 | _ => c3
set_option maxRecDepth 100000 in
set_option maxHeartbeats 4000000 in
theorem whole_of (Rel : mS → mS → Prop) (hRel : lRel Rel) (hO : lOall Rel) (hI : Rel k2_21 k3_73) {p : Program} {e : Env} {s : State} {m : MethodId} {below : List Frame} {meth : Method} {c : Code} (l : Launch) (hflags : l.flags = flags0) {b L : Nat} {xs : Nat → Int32} (hL : L ≤ 2560) (C0 : lw_At p s m meth c b L xs) : W p l e room_1 s m #[Value.ref b] below meth c s.heap [] 0 0 (lw_Z below #[Value.ref b] s) (entryFrame m ([Value.ref b] : List Value).toArray 7) := by
  obtain ⟨hx, hb, hr, hml, hown, hts, hX, hbl, hlocks, hgv⟩ := id C0
  have htl : ∀ w ∈ wsL_law, w.before #[Value.ref b] s = true := fun w hw => hts w (wsL_law_in w hw)
  obtain ⟨c0, i0, K0⟩ := u_known (C := RX0) (T := TX0) (N := 18) (n := 18) htl inlX0 (htl _ (mw_7 _ (List.mem_of_getElem? (i := 9) rfl)))
  obtain ⟨c1, i1, K1⟩ := u_known (C := RX1) (T := TX1) (N := 13) (n := 13) htl inlX1 (htl _ (mw_1 _ (List.mem_of_getElem? (i := 17) rfl)))
  obtain ⟨c2, i2, K2⟩ := u_known (C := RX2) (T := TX2) (N := 7) (n := 7) htl inlX2 (htl _ (mw_1 _ (List.mem_of_getElem? (i := 1) rfl)))
  obtain ⟨c3, i3, K3⟩ := u_known (C := RX3) (T := TX3) (N := 28) (n := 28) htl inlX3 (htl _ (mw_1 _ (List.mem_of_getElem? (i := 4) rfl)))
  obtain ⟨cI, aI, rI⟩ := mAr (htl (.arrayClass .int) (mw_2 _ (List.mem_of_getElem? (i := 5) rfl)))
  obtain ⟨cZ, aZ, rZ⟩ := mAr (htl (.arrayClass .boolean) (mw_3 _ (List.mem_of_getElem? (i := 11) rfl)))
  have hO0 : va_AO RX0 s := va_AO.of (hts (.arrayOver (.object RX0)) (by decide +kernel))
  have hO1 : va_AO RX1 s := va_AO.of (hts (.arrayOver (.object RX1)) (by decide +kernel))
  obtain ⟨cC, aC, rC⟩ := mAo (va_AO.use (A := #[]) hO0)
  obtain ⟨cS, aS, rS⟩ := mAo (va_AO.use (A := #[]) hO1)
  have C : mX p s m c cL_law 7 #[Value.ref b] RL ((mGd c0 c1 c2 c3, mGi i0 i1 i2 i3), cI, cZ, cC, cS) := by
    refine ⟨⟨hx, hb, hml, hown, htl⟩, fun k q hq => ?_, fun k q hq => ?_⟩
    · match k, hq with
      | 0, hq => cases hq; exact K0
      | 1, hq => cases hq; exact K1
      | 2, hq => cases hq; exact K2
      | 3, hq => cases hq; exact K3
      | 4, hq => cases hq; exact K1
      | 5, hq => cases hq; exact K2
      | 6, hq => cases hq; exact K3
      | k + 7, hq => simp [vwCl] at hq
    · match k, hq with
      | 0, hq => cases hq; exact ⟨aI, rI⟩
      | 1, hq => cases hq; exact ⟨aZ, rZ⟩
      | 2, hq => cases hq; exact ⟨aC, rC⟩
      | 3, hq => cases hq; exact ⟨aS, rS⟩
      | k + 4, hq => simp [mTys] at hq
  have hs := flat_of_before _ hgv
  have hA0 : ∀ a : Nat, a < s.heap.size → ¬ (fun q : Nat => s.heap.size ≤ q) a := fun a h => Nat.not_le.mpr h
  have hZ : ∀ cL, ArrOfT s cL .long → lZ cL s := fun cL hA => by
    refine ⟨vx_Zqof (hts _ (by decide +kernel)) (hts _ (by decide +kernel)) (hs _ (by decide +kernel)) hA0, vx_Zqof (hts _ (by decide +kernel)) (hts _ (by decide +kernel)) (hs _ (by decide +kernel)) hA0, fun w hw => va_Nw.of (mNw_on w hw) (hts _ (mNw_in w hw)), fun q hq => ?_, hA, va_Nc.of (hs _ (by decide +kernel)), va_Nc.of (hs _ (by decide +kernel)), va_Nc.of (hs _ (by decide +kernel))⟩
    obtain ⟨a, c9, cA, kA, q1, q2⟩ := Cond.exactly_spec (args := #[Value.ref b]) (first := s) (o := none) (s := s) (idx := []) (t := .string RX2 q.1) (cls := "java/lang/String") (hs _ (mEx_in q hq))
    exact ⟨a, vk_R.of (hts _ (mSt_in q hq)) q1⟩
  have hl := lv_entry ([.ref b]) (n := 7) (Nat.le_of_ble_eq_true rfl)
  rw [lg_entry_eq]
  generalize (lg_sl ([.ref b]) ++ List.replicate (7 - (lg_sl ([.ref b])).length) Slot.unset).toArray = ls at hl ⊢
  have hl : lv_has ls 7 [(0, .ref b)] := hl
  refine law_start Rel hRel hO hI C ⟨⟨rfl, rfl⟩, ⟨rfl, rfl⟩, ⟨rfl, rfl⟩⟩ hO0 hO1 (by unfold Launch.stackTraces; rw [hflags]; rfl) hZ hX hbl hL ⟨hl, by simp [Value.category]⟩ (fun H ls2 cells slots h1 h2 => ?_)
  exact W.widen (k := room_1.cells) (n := room_1.slots) (rmC (by omega)) (rmS (by omega)) (lw_ret hx hb hr hlocks dL_law_1168)
