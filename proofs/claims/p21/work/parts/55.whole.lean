/-! THE CLAIM OUT OF ONE WALK OF THE LAW'S BODY. Your part is whole_start (and what it stands on); all else here is the same for every law, but numbers. -/
def R_law : String := "DeadlineCallsLaw"
def lw_P (b : Addr) (xs : List Int32) (args : Array Value) (s : State) : Prop := args = #[.ref b] ∧ s.IntsAt b xs ∧ xs.length ≤ 260 ∧ (Jvm.Cond.and given_1 narrow_1).before args s = true
def lw_Q (_ : Array Value) (s : State) (o : Outcome) (t : State) : Prop := o = .returned (some (.int 1)) ∧ Framed s o t [] room_1.cells room_1.slots
def lw_Z (below : List Frame) (a : Array Value) (s : State) : State → Prop := fun t => ∃ o, t.status = .running ∧ Ended t below o ∧ lw_Q a s o t
/-- the law's own end, with 1 on the stack, nothing written that was there before, its room as the claim has it -/
theorem lw_ret {p : Program} {l : Launch} {e : Env} {s : State} {m : MethodId} {below : List Frame} {meth : Method} {c : Code} {b : Nat} (hx : p.tables.exec = Jvm.exec) (hb : c.code = code) (hr : meth.sig.returnType = ret) (hlocks : meth.locks = false) {pc : Nat} {H : Heap} {ls : Array Slot} (hdg : decode code pc = .ok (.ireturn, 1)) : W p l e room_1 s m #[Value.ref b] below meth c H [] room_1.cells room_1.slots (lw_Z below #[Value.ref b] s) (F0 m pc ls [.int 1]) := by
  intro T hT X
  obtain ⟨fs, hret, hrun, hended, hW, hframe⟩ := X.leave (v := some (.int 1)) (hlocks := hlocks) (fun h => by rw [hr] at h; cases h)
  have hmeth' : T.vm.method? m = some meth := X.method'
  refine ⟨T.setFrames fs, ?_, .returned (some (.int 1)), hrun, hended, rfl, ⟨_, rfl⟩, hW, hframe⟩
  jvm_step X.here [X.here.top, hx, hb, hdg, hmeth', hr, ret, narrow_b1]
  (try refine ⟨rfl, ?_⟩); (try refine ⟨rfl, ?_⟩)
  first | (intro acts; rw [hret _ acts rfl rfl rfl]) | rw [hret _ _ rfl rfl rfl]
  exact Steps.refl _
/-- what holds at the law's entry: the machine, the code, the tables' words (any of lw_tbl by 'hts w (by decide +kernel)'), the script of L ints xs at the cell b, what the Statement gives of the start (any of its parts by flat_of_before) -/
def lw_At (p : Program) (s : State) (m : MethodId) (meth : Method) (c : Code) (b L : Nat) (xs : Nat → Int32) : Prop :=
  p.tables.exec = Jvm.exec ∧ c.code = code ∧ meth.sig.returnType = ret ∧ c.maxLocals = 9 ∧ s.vm.findClass R_law = some m.cls ∧ (∀ w ∈ lw_tbl, w.before #[Value.ref b] s = true) ∧ va_X b L xs s s.heap ∧ b < s.heap.size ∧ meth.locks = false ∧ (Jvm.Cond.and given_1 narrow_1).before #[Value.ref b] s = true
theorem mEx_in : ∀ q ∈ mStr, Cond.exactly (.string RX2 q.1) "java/lang/String" ∈ flatC (Jvm.Cond.and given_1 narrow_1) := by decide +kernel
theorem mAr {args : Array Value} {s : State} {ty : FieldType} (h : (Cond.arrayClass ty).before args s = true) : ∃ cA, ArrOfT s cA ty ∧ s.vm.findClass ("[" ++ ty.toString) = some cA := by
  obtain ⟨cA, kA, comp, h1, h2, h3⟩ := Cond.arrayClass_spec h
  exact ⟨cA, fun n z => ⟨(fun k h => by cases h), kA, h2, comp, h3⟩, h1⟩
theorem mAo {args : Array Value} {s : State} {C : String} (h : (Cond.arrayOver (.object C)).before args s = true) : ∃ cA, ArrOfT s cA (.object C) ∧ va_RA s cA (.object C) := by
  obtain ⟨comp, cA, kA, h1, h2, h3, h4, h5⟩ := Cond.arrayOver_spec h
  exact ⟨cA, fun n z => ⟨(fun k h => by cases h), kA, h3, comp, h4⟩, kA, comp, h3, h4, h1, h5⟩
def mGd (c0 c1 c2 c3 : ClassId) : Nat → ClassId := fun k => match k with | 0 => c0 | 1 => c1 | 2 => c2 | 3 => c3 | 4 => c1 | 5 => c2 | _ => c3
def mGi (c0 c1 c2 c3 : Nat → Nat) : Nat → Nat → Nat := fun k => match k with | 0 => c0 | 1 => c1 | 2 => c2 | 3 => c3 | 4 => c1 | 5 => c2 | _ => c3
set_option maxRecDepth 100000 in
set_option maxHeartbeats 4000000 in
theorem whole_of {B : Nat} (hB : 1 ≤ B ∧ B ≤ 95000) {p : Program} {e : Env} {s : State} {m : MethodId} {below : List Frame} {meth : Method} {c : Code} (l : Launch) (hflags : l.flags = flags0) {b0 L : Nat} {xs : Nat → Int32} (hQ : ∀ (k : Nat) (τ : mS), k < 3 → w_L_runs L xs (nI (50 * k)) k2_21 (tG τ) B (fun r _ _ => r = 1)) (hL : L ≤ 260) (C0 : lw_At p s m meth c b0 L xs) : W p l e room_1 s m #[Value.ref b0] below meth c s.heap [] 0 0 (lw_Z below #[Value.ref b0] s) (entryFrame m ([Value.ref b0] : List Value).toArray 9) := by
  obtain ⟨hx, hb, hr, hml, hown, hts, hX, hbl, hlocks, hgv⟩ := id C0
  have htl : ∀ w ∈ wsL_law, w.before #[Value.ref b0] s = true := fun w hw => hts w (wsL_law_in w hw)
  obtain ⟨c0, i0, K0⟩ := u_known (C := RX0) (T := TX0) (N := 18) (n := 18) htl inlX0 (htl _ (mw_13 _ (List.mem_of_getElem? (i := 19) rfl)))
  obtain ⟨c1, i1, K1⟩ := u_known (C := RX1) (T := TX1) (N := 13) (n := 13) htl inlX1 (htl _ (mw_1 _ (List.mem_of_getElem? (i := 14) rfl)))
  obtain ⟨c2, i2, K2⟩ := u_known (C := RX2) (T := TX2) (N := 7) (n := 7) htl inlX2 (htl _ (mw_1 _ (List.mem_of_getElem? (i := 2) rfl)))
  obtain ⟨cI, aI, rI⟩ := mAr (htl (.arrayClass .int) (mw_1 _ (List.mem_of_getElem? (i := 0) rfl)))
  obtain ⟨cZ, aZ, rZ⟩ : ∃ cA, ArrOfT s cA .int ∧ s.vm.findClass ("[" ++ FieldType.int.toString) = some cA := ⟨cI, aI, rI⟩
  have hO0 : va_AO RX0 s := va_AO.of (hts (.arrayOver (.object RX0)) (by decide +kernel))
  have hO1 : va_AO RX1 s := va_AO.of (hts (.arrayOver (.object RX1)) (by decide +kernel))
  obtain ⟨cC, aC, rC⟩ := mAo (va_AO.use (A := #[]) hO0)
  obtain ⟨cS, aS, rS⟩ := mAo (va_AO.use (A := #[]) hO1)
  have C : mX p s m c cL_law 9 #[Value.ref b0] RL ((mGd c0 c1 c2 c1, mGi i0 i1 i2 i1), cI, cZ, cC, cS) := by
    refine ⟨⟨hx, hb, hml, hown, htl⟩, fun k q hq => ?_, fun k q hq => ?_⟩
    · match k, hq with
      | 0, hq => cases hq; exact K0
      | 1, hq => cases hq; exact K1
      | 2, hq => cases hq; exact K2
      | 3, hq => cases hq; exact K1
      | 4, hq => cases hq; exact K1
      | 5, hq => cases hq; exact K2
      | k + 6, hq => simp [vwCl] at hq
    · match k, hq with
      | 0, hq => cases hq; exact ⟨aI, rI⟩
      | 1, hq => cases hq; exact ⟨aZ, rZ⟩
      | 2, hq => cases hq; exact ⟨aC, rC⟩
      | 3, hq => cases hq; exact ⟨aS, rS⟩
      | k + 4, hq => simp [mTys] at hq
  generalize hGe : ((mGd c0 c1 c2 c1, mGi i0 i1 i2 i1), cI, cZ, cC, cS) = G at C
  have hG : mGok G := by rw [← hGe]; exact ⟨⟨rfl, rfl⟩, ⟨rfl, rfl⟩, ⟨rfl, rfl⟩⟩
  have hs := flat_of_before _ hgv
  have hA0 : ∀ a : Nat, a < s.heap.size → ¬ (fun q : Nat => s.heap.size ≤ q) a := fun a h => Nat.not_le.mpr h
  have Z : pZ s.heap.size s := by
    refine ⟨vx_Zqof (hts _ (by decide +kernel)) (hts _ (by decide +kernel)) (hs _ (by decide +kernel)) hA0, vx_Zqof (hts _ (by decide +kernel)) (hts _ (by decide +kernel)) (hs _ (by decide +kernel)) hA0, fun w hw => va_Nw.of (mNw_on w hw) (hts _ (mNw_in w hw)), fun q hq => ?_, va_Nc.of (hs _ (by decide +kernel)), va_Nc.of (hs _ (by decide +kernel)), va_Nc.of (hs _ (by decide +kernel))⟩
    obtain ⟨a, c9, cA, kA, q1, q2⟩ := Cond.exactly_spec (args := #[Value.ref b0]) (first := s) (o := none) (s := s) (idx := []) (t := .string RX2 q.1) (cls := "java/lang/String") (hs _ (mEx_in q hq))
    exact ⟨a, vk_R.of (hts _ (mSt_in q hq)) q1⟩
  have hl := lv_entry ([.ref b0]) (n := 9) (Nat.le_of_ble_eq_true rfl)
  rw [lg_entry_eq]
  generalize (lg_sl ([.ref b0]) ++ List.replicate (9 - (lg_sl ([.ref b0])).length) Slot.unset).toArray = ls at hl ⊢
  have hl : lv_has ls 9 [(0, .ref b0)] := hl
  refine lv_bipush (v := nI 60) hx hb dL_law_0 (by decide) ?_
  refine lw_arr (n := 60) C (by decide) dL_law_2 (rmC (by decide)) (rmS (by decide)) (fun H1 e1 z1 o1 => ?_)
  refine lv_astore_n (lv' := [(1, .ref s.heap.size), (0, .ref b0)]) hx hb dL_law_4 rfl hl (by decide) rfl (fun ls hl => ?_)
  refine lv_bipush (v := nI 60) hx hb dL_law_5 (by decide) ?_
  refine lw_arr (n := 60) C (by decide) dL_law_7 (rmC (by decide)) (rmS (by decide)) (fun H2 e2 z2 o2 => ?_)
  refine lv_astore_n (lv' := [(2, .ref H1.size), (1, .ref s.heap.size), (0, .ref b0)]) hx hb dL_law_9 rfl hl (by decide) rfl (fun ls hl => ?_)
  refine lv_bipush (v := nI 60) hx hb dL_law_10 (by decide) ?_
  refine lw_arr (n := 60) C (by decide) dL_law_12 (rmC (by decide)) (rmS (by decide)) (fun H3 e3 z3 o3 => ?_)
  refine lv_astore_n (lv' := [(3, .ref H2.size), (2, .ref H1.size), (1, .ref s.heap.size), (0, .ref b0)]) hx hb dL_law_14 rfl hl (by decide) rfl (fun ls hl => ?_)
  refine lv_bipush (v := nI 60) hx hb dL_law_15 (by decide) ?_
  refine lw_arr (n := 60) C (by decide) dL_law_17 (rmC (by decide)) (rmS (by decide)) (fun H4 e4 z4 o4 => ?_)
  refine lv_astore (lv' := [(4, .ref H3.size), (3, .ref H2.size), (2, .ref H1.size), (1, .ref s.heap.size), (0, .ref b0)]) hx hb dL_law_19 hl (by decide) rfl (fun ls hl => ?_)
  refine lv_bipush (v := nI 60) hx hb dL_law_21 (by decide) ?_
  refine lw_arr (n := 60) C (by decide) dL_law_23 (rmC (by decide)) (rmS (by decide)) (fun H5 e5 z5 o5 => ?_)
  refine lv_astore (lv' := [(5, .ref H4.size), (4, .ref H3.size), (3, .ref H2.size), (2, .ref H1.size), (1, .ref s.heap.size), (0, .ref b0)]) hx hb dL_law_25 hl (by decide) rfl (fun ls hl => ?_)
  refine lv_bipush (v := nI 60) hx hb dL_law_27 (by decide) ?_
  refine lw_arr (n := 60) C (by decide) dL_law_29 (rmC (by decide)) (rmS (by decide)) (fun H6 e6 z6 o6 => ?_)
  refine lv_astore (lv' := [(6, .ref H5.size), (5, .ref H4.size), (4, .ref H3.size), (3, .ref H2.size), (2, .ref H1.size), (1, .ref s.heap.size), (0, .ref b0)]) hx hb dL_law_31 hl (by decide) rfl (fun ls hl => ?_)
  refine lv_bipush (v := nI 60) hx hb dL_law_33 (by decide) ?_
  refine lw_arr (n := 60) C (by decide) dL_law_35 (rmC (by decide)) (rmS (by decide)) (fun H7 e7 z7 o7 => ?_)
  refine lv_astore (lv' := [(7, .ref H6.size), (6, .ref H5.size), (5, .ref H4.size), (4, .ref H3.size), (3, .ref H2.size), (2, .ref H1.size), (1, .ref s.heap.size), (0, .ref b0)]) hx hb dL_law_37 hl (by decide) rfl (fun ls hl => ?_)
  refine lv_iconst (v := 0) hx hb dL_law_39 (by decide) ?_
  refine lv_istore (lv' := (8, .int 0) :: [(7, .ref H6.size), (6, .ref H5.size), (5, .ref H4.size), (4, .ref H3.size), (3, .ref H2.size), (2, .ref H1.size), (1, .ref s.heap.size), (0, .ref b0)]) hx hb dL_law_40 hl (by decide) rfl (fun ls hl => ?_)
  have hsz : H7.size = s.heap.size + 7 := by omega
  have ev : ∀ j, 1 ≤ j → aV s.heap.size j = s.heap.size + (j - 1) := fun _ _ => rfl
  refine law_loop hB hQ C hG hO0 hO1 (by unfold Launch.stackTraces; rw [hflags]; rfl) Z hX hbl hL (aV s.heap.size) (fun j hj => by rw [ev j hj]; omega) (fun H ls cells slots h1 h2 => W.widen (k := room_1.cells) (n := room_1.slots) (rmC (by omega)) (rmS (by omega)) (lw_ret hx hb hr hlocks dL_law_87)) 3 0 _ _ H7 (0, fun _ _ => 0, fun _ _ => none) ls rfl ⟨by omega, fun q hq => ?_⟩ ⟨fun j h1 h2 => ?_, fun i j h1 h2 h3 h4 h5 => ?_⟩ (by omega) (by omega) ⟨?_, by simp [Value.category]⟩
  · rw [o7 q (by omega), o6 q (by omega), o5 q (by omega), o4 q (by omega), o3 q (by omega), o2 q (by omega), o1 q (by omega)]
  · rw [ev j h1]
    match j, h1, h2 with
    | 1, _, _ => rw [show s.heap.size + (1 - 1) = s.heap.size by omega]; exact ((((((((((((e1).kept (o2 _ (by omega)))).kept (o3 _ (by omega)))).kept (o4 _ (by omega)))).kept (o5 _ (by omega)))).kept (o6 _ (by omega)))).kept (o7 _ (by omega)))
    | 2, _, _ => rw [show s.heap.size + (2 - 1) = H1.size by omega]; exact ((((((((((e2).kept (o3 _ (by omega)))).kept (o4 _ (by omega)))).kept (o5 _ (by omega)))).kept (o6 _ (by omega)))).kept (o7 _ (by omega)))
    | 3, _, _ => rw [show s.heap.size + (3 - 1) = H2.size by omega]; exact ((((((((e3).kept (o4 _ (by omega)))).kept (o5 _ (by omega)))).kept (o6 _ (by omega)))).kept (o7 _ (by omega)))
    | 4, _, _ => rw [show s.heap.size + (4 - 1) = H3.size by omega]; exact ((((((e4).kept (o5 _ (by omega)))).kept (o6 _ (by omega)))).kept (o7 _ (by omega)))
    | 5, _, _ => rw [show s.heap.size + (5 - 1) = H4.size by omega]; exact ((((e5).kept (o6 _ (by omega)))).kept (o7 _ (by omega)))
    | 6, _, _ => rw [show s.heap.size + (6 - 1) = H5.size by omega]; exact ((e6).kept (o7 _ (by omega)))
    | 7, _, _ => rw [show s.heap.size + (7 - 1) = H6.size by omega]; exact e7
    | j + 8, _, h => omega
  · rw [ev i h1, ev j h3] at h5; omega
  · have h9 := lv_sub hl [0, 8, 7, 6, 5, 4, 3, 2, 1] rfl
    rw [show aV s.heap.size 1 = s.heap.size from rfl, show aV s.heap.size 2 = H1.size by rw [ev 2 (by decide)]; omega, show aV s.heap.size 3 = H2.size by rw [ev 3 (by decide)]; omega, show aV s.heap.size 4 = H3.size by rw [ev 4 (by decide)]; omega, show aV s.heap.size 5 = H4.size by rw [ev 5 (by decide)]; omega, show aV s.heap.size 6 = H5.size by rw [ev 6 (by decide)]; omega, show aV s.heap.size 7 = H6.size by rw [ev 7 (by decide)]; omega]
    exact h9
