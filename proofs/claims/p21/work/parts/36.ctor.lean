
def mPreC (G : mG) (kd : Nat → Nat × Nat) (ad : Nat → Nat) (σ : mS) : State → Prop := fun U => mPre G kd ad σ U ∧ va_AO RX0 U ∧ va_AO RX1 U
theorem mPreC.blind (G : mG) (kd : Nat → Nat × Nat) (ad : Nat → Nat) (σ : mS) (av : List Value) : FrameBlind (va_Pc av (mPreC G kd ad σ)) := fun a U g mk q =>
  ⟨q.1, (mPre.blind G kd ad σ av a U g mk ⟨q.1, q.2.1⟩).2, q.2.2.1.moved (u := U) (U := U.calling g mk a) (Vm.Alike.refl U.vm), q.2.2.2.moved (u := U) (U := U.calling g mk a) (Vm.Alike.refl U.vm)⟩
/-- an empty store, and one with one blank cell -/
def mS0 : mS := (0, fun _ _ => 0, fun _ _ => none)
def mS1 : mS := sN mS0
def kdN (i : Nat) : Nat × Nat := if i = 0 then (0, 6) else kdM i
def kdB (k i : Nat) : Nat × Nat := if i = 0 then (0, 5) else if k ≤ i ∧ kdC i = (0, 1) then (0, 4) else kdC i
def mGok (G : mG) : Prop := (G.1.1 1 = G.1.1 4 ∧ G.1.2 1 = G.1.2 4) ∧ (G.1.1 2 = G.1.1 5 ∧ G.1.2 2 = G.1.2 5) ∧ (G.1.1 3 = G.1.1 6 ∧ G.1.2 3 = G.1.2 6)
theorem mL_41 {ad : Nat → Nat} {σ : mS} {i : Nat} (h1 : mR σ i 10 = some (i + 1)) (h2 : mR σ i 12 = some (i + 2)) : mL ad σ i 1 = mL ad σ i 4 := by
  refine List.map_congr_left (fun k hk => ?_)
  have hk9 : k < 13 := List.mem_range.mp hk
  have h18 : k = 0 ∨ k = 1 ∨ k = 2 ∨ k = 3 ∨ k = 4 ∨ k = 5 ∨ k = 6 ∨ k = 7 ∨ k = 8 ∨ k = 9 ∨ k = 10 ∨ k = 11 ∨ k = 12 := by omega
  rcases h18 with rfl | rfl | rfl | rfl | rfl | rfl | rfl | rfl | rfl | rfl | rfl | rfl | rfl <;> first | rfl | (show Value.ref (ad (i + 1)) = mV ad (mR σ i 10); rw [h1]; rfl) | (show Value.ref (ad (i + 2)) = mV ad (mR σ i 12); rw [h2]; rfl)
theorem mL_52 {ad : Nat → Nat} {σ : mS} {i : Nat} (h1 : mR σ i 0 = some (i + 1)) (h2 : mR σ i 1 = some (i + 2)) : mL ad σ i 2 = mL ad σ i 5 := by
  refine List.map_congr_left (fun k hk => ?_)
  have hk9 : k < 7 := List.mem_range.mp hk
  have h18 : k = 0 ∨ k = 1 ∨ k = 2 ∨ k = 3 ∨ k = 4 ∨ k = 5 ∨ k = 6 := by omega
  rcases h18 with rfl | rfl | rfl | rfl | rfl | rfl | rfl <;> first | rfl | (show Value.ref (ad (i + 1)) = mV ad (mR σ i 0); rw [h1]; rfl) | (show Value.ref (ad (i + 2)) = mV ad (mR σ i 1); rw [h2]; rfl)
section MC
variable {p : Program} {l : Launch} {e : Env} {R : Room} {s : State} {m : MethodId} {args : Array Value} {below : List Frame} {meth : Method} {c : Code} {H : Heap} {locs : List Loc} {cells slots mc ms : Nat} {Q : State → Prop}
variable {cc : ByteArray} {pc nL : Nat} {ls : Array Slot} {rest : List Value} {own : String} {G : mG} {kd : Nat → Nat × Nat} {ad : Nat → Nat} {σ : mS} {Qc : Array Value → State → Outcome → State → Prop} {rm : Room}
theorem mr_cstart {y : MethodName} {ml : Nat} {ret : Option FieldType} {av : List Value} {lst : List (Nat × Value)} (hy : plainName y.cls = true) (hcat : ∀ v ∈ av, v.category = 1) (hav : lv_ix 0 av = lst) (hlen : av.length ≤ ml)
    (body : ∀ (p : Program) (e : Env) (s : State) (m : MethodId) (below : List Frame) (meth : Method) (c : Code), mX p s m c cc ml av.toArray y.cls G → mM G kd ad s σ s.heap [] → va_AO RX0 s → va_AO RX1 s → meth.sig.returnType = ret → meth.locks = false → meth.name = y.name → ∀ ls : Array Slot, ml_has ls ml lst → W p l e rm s m av.toArray below meth c s.heap [] 0 0 (MQ below Qc av.toArray s mc ms (mA ad)) (F0 m 0 ls [])) :
    Met l y (mWs y cc ml ret) rm (va_Pc av (mPreC G kd ad σ)) Qc mc ms (mA ad) := by
  refine Met.ofW (cc := cc) (maxL := ml) (ret := ret) hy rfl ?_
  intro p e s m args below meth c s₁ B hml hv
  obtain ⟨rfl, ⟨hP, hK⟩, hO0, hO1⟩ := hv
  have hts := atoms_spec (ws := mWs y cc ml ret) B.pre
  have hown : s.vm.findClass y.cls = some m.cls := findClass_of_methodNamed B.named
  have hl := lv_entry av (n := ml) (by rw [lg_sl_len av hcat]; exact hlen)
  rw [lv_ix_eq av 0 hcat, hav] at hl
  rw [lg_entry_eq]
  exact body p e s m below meth c ⟨⟨B.exec, B.bytes, hml, hown, fun w hw => hts w (List.mem_cons_of_mem _ hw)⟩, hK⟩ ⟨hP, va_S.rf⟩ hO0 hO1 B.returns B.notSynchronized (name_of_methodNamed B.named B.method).1 _ ⟨hl, by rw [← hav]; exact lv_ix_cat av 0 hcat⟩
variable {y : MethodName} {bytes : ByteArray} {maxL index n i : Nat} {As : List Value} {st : List Value}
theorem mr_runIc (C : mX p s m c cc nL args own G) (hM : mM G kd ad s σ H locs) (hO0 : va_AO RX0 s) (hO1 : va_AO RX1 s) (hl : ls.size = nL) (hrc : rm.cells = mc) (hrs : rm.slots = ms) (hc : Met l y (mWs y bytes maxL none) rm (va_Pc (mV ad (some i) :: As) (mPreC G kd ad σ)) Qc mc ms (mA ad)) (h1 : Cond.methodLink own index y ∈ wsL_law) (h2 : Cond.instanceMethod y ∈ wsL_law) (h3 : Cond.initialized y.cls ∈ wsL_law) (h4 : Cond.code y bytes maxL none ∈ wsL_law) (hy1 : y.name = "<init>")
    (hd : y.cls ≠ "java/lang/invoke/MethodHandle" ∧ y.cls ≠ "java/lang/invoke/VarHandle" ∧ (parseMethodDescriptor y.desc).map (fun d => d.parameters.length) = some n) (hn : As.length = n) (hst : st = As.reverse ++ mV ad (some i) :: rest) (hR : rm.frames + 1 ≤ R.frames ∧ 8 + (maxL + 11) + rm.locals ≤ R.locals) (hw : ∀ v ∈ rest, v.category = 1) (hw8 : rest.length ≤ 8) (hdg : decode cc pc = .ok (.invokespecial index, 3)) (hf : cells + mc ≤ R.cells ∧ slots + ms ≤ R.slots) :
    va_Run p l e R s m args below meth c H locs cells slots mc ms (F0 m pc ls st) rest (Qc (Value.ref (ad i) :: As).toArray) (mA ad) := by
  subst hst
  subst hn
  have hts := C.1.2.2.2.2
  have hG : GoodIn wsL_law (mWs y bytes maxL none) := fun w hw => by
    have : w ∈ wsL_law := by
      rcases List.mem_cons.mp hw with rfl | hw
      · exact h4
      · exact hw
    exact ⟨this, m_good w this⟩
  exact va_runI (As := As) (rest := rest) (b := ad i) C.1 hc (cwI As.length hts hG rfl hrc hrs (hts _ h3) (hts _ h1) (hts _ h2) hy1 hd hR) ⟨mPreC.blind _ _ _ _ _, fun U hU hW => ⟨rfl, ((mr_preS C hM (mV ad (some i) :: As)).2 U hU hW).2, hO0.moved hW.alike, hO1.moved hW.alike⟩⟩ rfl rfl hl rfl (lv_room (pc := pc) (ls := ls) (rest := As.reverse ++ mV ad (some i) :: rest) (m_wt hw hw8)) hdg hf
theorem mr_cvc {a : Array Value} {Qv : mS → Prop} (hM : mM G kd ad s σ H locs) (hr : va_Run p l e R s m args below meth c H locs cells slots mc ms (F0 m pc ls st) rest (va_Qv Qv (mPost G kd ad) (mA ad) a) (mA ad)) (kk : ∀ (v : mS) (H1 : Heap) (locs1 : List Loc), Qv v → mM G kd ad s v H1 locs1 → W p l e R s m args below meth c H1 locs1 (cells + mc) (slots + ms) Q (F0 m (pc + 3) ls rest)) : W p l e R s m args below meth c H locs cells slots Q (F0 m pc ls st) :=
  va_callv hr hM.2 (fun _ _ h => h) (fun _ h => h) (fun v t H1 locs1 ht hvm hw hB hz1 hk1 hS => kk v H1 locs1 hw ⟨by rw [← ht]; exact hB, hS⟩)
end MC

def k1_0 (i0 : Nat) (y1 : Int32) (σ0 : mS) : mS := sI σ0 i0 1 1
def k1_1 (i0 : Nat) (y1 : Int32) (σ0 : mS) : mS := sI (k1_0 i0 y1 σ0) i0 4 2
def k1_2 (i0 : Nat) (y1 : Int32) (σ0 : mS) : mS := sI (k1_1 i0 y1 σ0) i0 5 4
def k1_3 (i0 : Nat) (y1 : Int32) (σ0 : mS) : mS := sI (k1_2 i0 y1 σ0) i0 7 20
def k1_4 (i0 : Nat) (y1 : Int32) (σ0 : mS) : mS := sN (k1_3 i0 y1 σ0)
def k1_5 (i0 : Nat) (y1 : Int32) (σ0 : mS) : mS := sR (k1_4 i0 y1 σ0) i0 10 (some (i0 + 1))
def k1_6 (i0 : Nat) (y1 : Int32) (σ0 : mS) : mS := sN (k1_5 i0 y1 σ0)
def k1_7 (i0 : Nat) (y1 : Int32) (σ0 : mS) : mS := sR (k1_6 i0 y1 σ0) i0 12 (some (i0 + 2))
def k1_8 (i0 : Nat) (y1 : Int32) (σ0 : mS) : mS := sI (k1_7 i0 y1 σ0) i0 0 y1
theorem kdB_self {k : Nat} (h : kdC k = (0, 1)) : kdB k k = (0, 4) := by
  have h9 := kdC_sv h
  unfold kdB
  rw [if_neg (by omega), if_pos ⟨Nat.le_refl _, h⟩]
theorem kdB_row {k : Nat} (h : kdC k = (0, 1)) : kdB k (k + 1) = (4, 3) := by
  unfold kdB
  rw [if_neg (by omega), kdC_row h, if_neg (fun q => by cases q.2)]
theorem kdB_cnt {k : Nat} (h : kdC k = (0, 1)) : kdB k (k + 2) = (1, 8) := by
  unfold kdB
  rw [if_neg (by omega), kdC_cnt h, if_neg (fun q => by cases q.2)]
set_option maxRecDepth 100000 in
set_option maxHeartbeats 4000000 in
theorem c_X1_init (l : Launch) (G : mG) (ad : Nat → Nat) (i0 : Nat) (y1 : Int32) (hk : kdC i0 = (0, 1)) (σ0 : mS) (hn : mN σ0 = i0 + 1) : Met l yX1_init (mWs yX1_init cX1_init 2 none) ({ frames := 1, cells := 2, slots := 11, locals := 20 } : Room) (va_Pc [mV ad (some i0), .int y1] (mPreC G (kdB i0) ad σ0)) (va_Qv (fun u => u = (k1_8 i0 y1 σ0)) (mPost G (kdB i0) ad) (mA ad)) 2 11 (mA ad) := by
  refine mr_cstart (lst := [(0, mV ad (some i0)), (1, .int y1)]) (by decide) (m_cR (m_cI m_c0)) rfl (Nat.le_of_ble_eq_true rfl) (fun p e s m below meth c C hM hO0 hO1 hr hlk hin ls hl => ?_)
  have hx := C.1.1
  have hb := C.1.2.1
  obtain ⟨locs, elocs⟩ : ∃ y : List Loc, y = [] := ⟨_, rfl⟩
  rw [← elocs] at hM ⊢
  generalize eH : s.heap = H at hM ⊢
  refine mr_aload_n C dX1_init_0 rfl (ml_at hl 0 rfl) ?_
  refine mr_obj C hl.1.1 (mw_1 _ (List.mem_of_getElem? (i := 19) rfl)) (mw_1 _ (List.mem_of_getElem? (i := 8) rfl)) (mw_1 _ (List.mem_of_getElem? (i := 9) rfl)) (Nat.le_of_ble_eq_true rfl) (Nat.le_of_ble_eq_true rfl) dX1_init_1 ?_
  refine mr_aload_n C dX1_init_4 rfl (ml_at hl 0 rfl) ?_
  refine lv_iconst (v := 1) hx hb dX1_init_5 (by decide) ?_
  refine mr_put C hM (ci := 4) (i := i0) ⟨kdB_self hk, (by show i0 < mN σ0; rw [hn]; omega)⟩ (C0 := RX1) (T := TX1) (N := 13) rfl inlX1 tyX1 tyX1_ok nmX1 rfl 1 (by decide) (mw_1 _ (List.mem_of_getElem? (i := 20) rfl)) rfl rfl rfl rfl (sI σ0 i0 1 1) rfl (fun a b h => mI_off a b h) (fun _ _ _ => rfl) (by show Value.int (mI (sI σ0 i0 1 1) i0 1) = _; rw [mI_sI, if_pos ⟨rfl, rfl⟩]) dX1_init_6 (fun H locs hM2 => ?_)
  clear hM
  have hM2f : mM G (kdB i0) ad s (k1_0 i0 y1 σ0) H locs := hM2
  clear hM2
  refine mr_aload_n C dX1_init_9 rfl (ml_at hl 0 rfl) ?_
  refine lv_iconst (v := 2) hx hb dX1_init_10 (by decide) ?_
  refine mr_put C hM2f (ci := 4) (i := i0) ⟨kdB_self hk, (by show i0 < mN σ0; rw [hn]; omega)⟩ (C0 := RX1) (T := TX1) (N := 13) rfl inlX1 tyX1 tyX1_ok nmX1 rfl 4 (by decide) (mw_1 _ (List.mem_of_getElem? (i := 21) rfl)) rfl rfl rfl rfl (sI (k1_0 i0 y1 σ0) i0 4 2) rfl (fun a b h => mI_off a b h) (fun _ _ _ => rfl) (by show Value.int (mI (sI (k1_0 i0 y1 σ0) i0 4 2) i0 4) = _; rw [mI_sI, if_pos ⟨rfl, rfl⟩]) dX1_init_11 (fun H locs hM3 => ?_)
  clear hM2f
  have hM3f : mM G (kdB i0) ad s (k1_1 i0 y1 σ0) H locs := hM3
  clear hM3
  refine mr_aload_n C dX1_init_14 rfl (ml_at hl 0 rfl) ?_
  refine lv_iconst (v := 4) hx hb dX1_init_15 (by decide) ?_
  refine mr_put C hM3f (ci := 4) (i := i0) ⟨kdB_self hk, (by show i0 < mN σ0; rw [hn]; omega)⟩ (C0 := RX1) (T := TX1) (N := 13) rfl inlX1 tyX1 tyX1_ok nmX1 rfl 5 (by decide) (mw_1 _ (List.mem_of_getElem? (i := 22) rfl)) rfl rfl rfl rfl (sI (k1_1 i0 y1 σ0) i0 5 4) rfl (fun a b h => mI_off a b h) (fun _ _ _ => rfl) (by show Value.int (mI (sI (k1_1 i0 y1 σ0) i0 5 4) i0 5) = _; rw [mI_sI, if_pos ⟨rfl, rfl⟩]) dX1_init_16 (fun H locs hM4 => ?_)
  clear hM3f
  have hM4f : mM G (kdB i0) ad s (k1_2 i0 y1 σ0) H locs := hM4
  clear hM4
  refine mr_aload_n C dX1_init_19 rfl (ml_at hl 0 rfl) ?_
  refine lv_bipush (v := 20) hx hb dX1_init_20 (by decide) ?_
  refine mr_put C hM4f (ci := 4) (i := i0) ⟨kdB_self hk, (by show i0 < mN σ0; rw [hn]; omega)⟩ (C0 := RX1) (T := TX1) (N := 13) rfl inlX1 tyX1 tyX1_ok nmX1 rfl 7 (by decide) (mw_1 _ (List.mem_of_getElem? (i := 23) rfl)) rfl rfl rfl rfl (sI (k1_2 i0 y1 σ0) i0 7 20) rfl (fun a b h => mI_off a b h) (fun _ _ _ => rfl) (by show Value.int (mI (sI (k1_2 i0 y1 σ0) i0 7 20) i0 7) = _; rw [mI_sI, if_pos ⟨rfl, rfl⟩]) dX1_init_22 (fun H locs hM5 => ?_)
  clear hM4f
  have hM5f : mM G (kdB i0) ad s (k1_3 i0 y1 σ0) H locs := hM5
  clear hM5
  refine mr_aload_n C dX1_init_25 rfl (ml_at hl 0 rfl) ?_
  refine lv_iconst (v := 3) hx hb dX1_init_26 (by decide) ?_
  refine mr_newQ (N := 3) (t := 4) (t0 := 3) (C0 := RX1) C hM5f rfl (by decide) (mw_2 _ (List.mem_of_getElem? (i := 0) rfl)) hO1 rfl (kdB i0) (fun _ _ => rfl) (by rw [show mN (k1_3 i0 y1 σ0) = (i0 + 1) from hn]; exact kdB_row hk) (fun σ i h => mE_4 h) (fun _ _ _ h => absurd h (by show ¬ 5 ≤ 3; decide)) (Nat.le_of_ble_eq_true rfl) (Nat.le_of_ble_eq_true rfl) dX1_init_27 (fun H hM6 => ?_)
  clear hM5f
  have hM6f : mM G (kdB i0) ad s (k1_4 i0 y1 σ0) H locs := hM6
  clear hM6
  rw [show mN (k1_3 i0 y1 σ0) = (i0 + 1) from hn]
  refine mr_putF C hM6f (ci := 4) (i := i0) ⟨kdB_self hk, (by show i0 < mN σ0 + 1; rw [hn]; omega)⟩ (C0 := RX1) (T := TX1) (N := 13) rfl inlX1 tyX1 tyX1_ok nmX1 rfl 10 (by decide) (mw_2 _ (List.mem_of_getElem? (i := 1) rfl)) rfl rfl hin rfl rfl rfl (sR (k1_4 i0 y1 σ0) i0 10 (some (i0 + 1))) rfl (fun _ _ _ => rfl) (fun a b h => mR_off a b h) (by show mV ad (mR (sR (k1_4 i0 y1 σ0) i0 10 (some (i0 + 1))) i0 10) = _; rw [mR_sR, if_pos ⟨rfl, rfl⟩]) dX1_init_30 (fun H locs hM7 => ?_)
  clear hM6f
  have hM7f : mM G (kdB i0) ad s (k1_5 i0 y1 σ0) H locs := hM7
  clear hM7
  refine mr_aload_n C dX1_init_33 rfl (ml_at hl 0 rfl) ?_
  refine lv_bipush (v := 8) hx hb dX1_init_34 (by decide) ?_
  refine mr_newI (N := 8) C hM7f rfl (by decide) (mw_1 _ (List.mem_of_getElem? (i := 0) rfl)) (kdB i0) (fun _ _ => rfl) (by rw [show mN (k1_5 i0 y1 σ0) = (i0 + 2) from congrArg (· + 1) hn]; exact kdB_cnt hk) (fun _ _ _ h => absurd h (by show ¬ 5 ≤ 3; decide)) (Nat.le_of_ble_eq_true rfl) (Nat.le_of_ble_eq_true rfl) dX1_init_36 (fun H hM8 => ?_)
  clear hM7f
  have hM8f : mM G (kdB i0) ad s (k1_6 i0 y1 σ0) H locs := hM8
  clear hM8
  rw [show mN (k1_5 i0 y1 σ0) = (i0 + 2) from congrArg (· + 1) hn]
  refine mr_putF C hM8f (ci := 4) (i := i0) ⟨kdB_self hk, (by show i0 < mN σ0 + 1 + 1; rw [hn]; omega)⟩ (C0 := RX1) (T := TX1) (N := 13) rfl inlX1 tyX1 tyX1_ok nmX1 rfl 12 (by decide) (mw_2 _ (List.mem_of_getElem? (i := 2) rfl)) rfl rfl hin rfl rfl rfl (sR (k1_6 i0 y1 σ0) i0 12 (some (i0 + 2))) rfl (fun _ _ _ => rfl) (fun a b h => mR_off a b h) (by show mV ad (mR (sR (k1_6 i0 y1 σ0) i0 12 (some (i0 + 2))) i0 12) = _; rw [mR_sR, if_pos ⟨rfl, rfl⟩]) dX1_init_38 (fun H locs hM9 => ?_)
  clear hM8f
  have hM9f : mM G (kdB i0) ad s (k1_7 i0 y1 σ0) H locs := hM9
  clear hM9
  refine mr_aload_n C dX1_init_41 rfl (ml_at hl 0 rfl) ?_
  refine lv_iload_n hx hb dX1_init_42 rfl (ml_at hl 1 rfl) ?_
  refine mr_putF C hM9f (ci := 4) (i := i0) ⟨kdB_self hk, (by show i0 < mN σ0 + 1 + 1; rw [hn]; omega)⟩ (C0 := RX1) (T := TX1) (N := 13) rfl inlX1 tyX1 tyX1_ok nmX1 rfl 0 (by decide) (mw_2 _ (List.mem_of_getElem? (i := 3) rfl)) rfl rfl hin rfl rfl rfl (sI (k1_7 i0 y1 σ0) i0 0 y1) rfl (fun a b h => mI_off a b h) (fun _ _ _ => rfl) (by show Value.int (mI (sI (k1_7 i0 y1 σ0) i0 0 y1) i0 0) = _; rw [mI_sI, if_pos ⟨rfl, rfl⟩]) dX1_init_43 (fun H locs hM10 => ?_)
  clear hM9f
  have hM10f : mM G (kdB i0) ad s (k1_8 i0 y1 σ0) H locs := hM10
  clear hM10
  exact mr_vret C hM10f hr hlk rfl dX1_init_46
def k3_0 : mS := sN mS1
def k3_1 : mS := sI (k3_0) 1 0 1
def k3_2 : mS := sI (k3_1) 1 1 1
def k3_3 : mS := sI (k3_2) 1 2 1
def k3_4 : mS := sI (k3_3) 1 3 1
def k3_5 : mS := sI (k3_4) 1 4 1
def k3_6 : mS := sI (k3_5) 1 5 1
def k3_7 : mS := sR (k3_6) 0 2 (some 1)
def k3_8 : mS := sN (k3_7)
def k3_9 : mS := sR (k3_8) 0 3 (some 2)
def k3_10 : mS := sN (k3_9)
def k3_11 : mS := sR (k3_10) 0 4 (some 3)
def k3_12 : mS := sN (k3_11)
def k3_13 : mS := sR (k3_12) 0 5 (some 4)
def k3_14 : mS := sN (k3_13)
def k3_15 : mS := sR (k3_14) 0 6 (some 5)
def k3_16 : mS := sN (k3_15)
def k3_17 : mS := sI (k3_16) 6 0 2
def k3_18 : mS := sI (k3_17) 6 1 2
def k3_19 : mS := sI (k3_18) 6 2 2
def k3_20 : mS := sI (k3_19) 6 3 2
def k3_21 : mS := sI (k3_20) 6 4 2
def k3_22 : mS := sI (k3_21) 6 5 2
def k3_23 : mS := sR (k3_22) 0 7 (some 6)
def k3_24 : mS := sN (k3_23)
def k3_25 : mS := sI (k3_24) 7 0 4
def k3_26 : mS := sI (k3_25) 7 1 4
def k3_27 : mS := sI (k3_26) 7 2 4
def k3_28 : mS := sI (k3_27) 7 3 4
def k3_29 : mS := sI (k3_28) 7 4 4
def k3_30 : mS := sI (k3_29) 7 5 4
def k3_31 : mS := sR (k3_30) 0 8 (some 7)
def k3_32 : mS := sN (k3_31)
def k3_33 : mS := sR (k3_32) 0 9 (some 8)
def k3_34 : mS := sN (k3_33)
def k3_35 : mS := sI (k3_34) 9 0 20
def k3_36 : mS := sI (k3_35) 9 1 20
def k3_37 : mS := sI (k3_36) 9 2 20
def k3_38 : mS := sI (k3_37) 9 3 20
def k3_39 : mS := sI (k3_38) 9 4 20
def k3_40 : mS := sI (k3_39) 9 5 20
def k3_41 : mS := sR (k3_40) 0 10 (some 9)
def k3_42 : mS := sN (k3_41)
def k3_43 : mS := sR (k3_42) 0 11 (some 10)
def k3_44 : mS := sN (k3_43)
def k3_45 : mS := sR (k3_44) 0 12 (some 11)
def k3_46 : mS := sN (k3_45)
def k3_47 : mS := sR (k3_46) 0 14 (some 12)
def k3_48 : mS := sN (k3_47)
def k3_49 : mS := sR (k3_48) 0 15 (some 13)
def k3_50 : mS := sN (k3_49)
def k3_51 : mS := sR (k3_50) 0 16 (some 14)
def k3_52 : mS := sN (k3_51)
def k3_53 : mS := sR (k3_52) 0 17 (some 15)
def k3_54 : mS := sN (k3_53)
def k3_55 : mS := sR (k3_54) 0 18 (some 16)
def k3_56 : mS := sN (k3_55)
def k3_57 : mS := sR (k3_56) 0 19 (some 17)
def k3_58 : mS := sN (k3_57)
def k3_59 : mS := sR (k3_58) 0 20 (some 18)
def k3_60 : mS := sN (k3_59)
def k3_61 : mS := sR (k3_60) 0 21 (some 19)
def k3_62 : mS := sN (k3_61)
def k3_63 : mS := sR (k3_62) 0 22 (some 20)
def k3_64 : mS := sN (k3_63)
def k3_65 : mS := sR (k3_64) 0 23 (some 21)
def k3_66 : mS := sN (k3_65)
def k3_67 : mS := sR (k3_66) 0 24 (some 22)
def k3_68 : mS := sN (k3_67)
def k3_69 : mS := sR (k3_68) 0 25 (some 23)
def k3_70 : mS := sN (k3_69)
def k3_71 : mS := sR (k3_70) 0 26 (some 24)
def k3_72 : mS := sN (k3_71)
def k3_73 : mS := sR (k3_72) 0 27 (some 25)
def k2_0 : mS := sN mS1
def k2_1 : mS := sR (k2_0) 0 0 (some 1)
def k2_2 : mS := sN (k2_1)
def k2_3 : mS := sR (k2_2) 0 1 (some 2)
def k2_4 : mS := sN (k2_3)
def k2_5 : mS := k1_8 3 (0 : Int32) (k2_4)
def k2_6 : mS := sR (k2_5) 1 0 (some 3)
def k2_7 : mS := sN (k2_6)
def k2_8 : mS := k1_8 6 (1 : Int32) (k2_7)
def k2_9 : mS := sR (k2_8) 1 1 (some 6)
def k2_10 : mS := sN (k2_9)
def k2_11 : mS := k1_8 9 (2 : Int32) (k2_10)
def k2_12 : mS := sR (k2_11) 1 2 (some 9)
def k2_13 : mS := sN (k2_12)
def k2_14 : mS := k1_8 12 (3 : Int32) (k2_13)
def k2_15 : mS := sR (k2_14) 1 3 (some 12)
def k2_16 : mS := sN (k2_15)
def k2_17 : mS := k1_8 15 (4 : Int32) (k2_16)
def k2_18 : mS := sR (k2_17) 1 4 (some 15)
def k2_19 : mS := sN (k2_18)
def k2_20 : mS := k1_8 18 (5 : Int32) (k2_19)
def k2_21 : mS := sR (k2_20) 1 5 (some 18)
set_option maxRecDepth 100000 in
set_option maxHeartbeats 4000000 in
theorem c_X2_init (l : Launch) (G : mG) (ad : Nat → Nat) (hG : mGok G) : Met l yX2_init (mWs yX2_init cX2_init 2 none) ({ frames := 2, cells := 20, slots := 350, locals := 41 } : Room) (va_Pc [mV ad (some 0)] (mPreC G (kdB 3) ad mS1)) (va_Qv (fun u => u = (k2_21)) (mPost G kdC ad) (mA ad)) 20 350 (mA ad) := by
  refine mr_cstart (lst := [(0, mV ad (some 0))]) (by decide) (m_cR m_c0) rfl (Nat.le_of_ble_eq_true rfl) (fun p e s m below meth c C hM hO0 hO1 hr hlk hin ls hl => ?_)
  have hx := C.1.1
  have hb := C.1.2.1
  obtain ⟨locs, elocs⟩ : ∃ y : List Loc, y = [] := ⟨_, rfl⟩
  rw [← elocs] at hM ⊢
  generalize eH : s.heap = H at hM ⊢
  refine mr_aload_n C dX2_init_0 rfl (ml_at hl 0 rfl) ?_
  refine mr_obj C hl.1.1 (mw_1 _ (List.mem_of_getElem? (i := 7) rfl)) (mw_1 _ (List.mem_of_getElem? (i := 8) rfl)) (mw_1 _ (List.mem_of_getElem? (i := 9) rfl)) (Nat.le_of_ble_eq_true rfl) (Nat.le_of_ble_eq_true rfl) dX2_init_1 ?_
  refine mr_aload_n C dX2_init_4 rfl (ml_at hl 0 rfl) ?_
  refine lv_bipush (v := 6) hx hb dX2_init_5 (by decide) ?_
  refine mr_newQ (N := 6) (t := 4) (t0 := 3) (C0 := RX1) C hM rfl (by decide) (mw_1 _ (List.mem_of_getElem? (i := 10) rfl)) hO1 rfl (kdB 3) (fun _ _ => rfl) rfl (fun σ i h => mE_4 h) (fun _ _ _ h => absurd h (by decide)) (Nat.le_of_ble_eq_true rfl) (Nat.le_of_ble_eq_true rfl) dX2_init_7 (fun H hM2 => ?_)
  clear hM
  have hM2f : mM G (kdB 3) ad s (k2_0) H locs := hM2
  clear hM2
  refine W.eq (g2 := F0 m 10 ls [mV ad (some 1), mV ad (some 0)]) rfl ?_
  refine mr_putF C hM2f (ci := 5) (i := 0) ⟨rfl, Nat.le_of_ble_eq_true rfl⟩ (C0 := RX2) (T := TX2) (N := 7) rfl inlX2 tyX2 tyX2_ok nmX2 rfl 0 (by decide) (mw_1 _ (List.mem_of_getElem? (i := 11) rfl)) rfl rfl hin rfl rfl rfl (sR (k2_0) 0 0 (some 1)) rfl (fun _ _ _ => rfl) (fun a b h => mR_off a b h) (by show mV ad (mR (sR (k2_0) 0 0 (some 1)) 0 0) = _; rw [mR_sR, if_pos ⟨rfl, rfl⟩]) dX2_init_10 (fun H locs hM3 => ?_)
  clear hM2f
  have hM3f : mM G (kdB 3) ad s (k2_1) H locs := hM3
  clear hM3
  refine mr_aload_n C dX2_init_13 rfl (ml_at hl 0 rfl) ?_
  refine lv_sipush (v := 200) hx hb dX2_init_14 (by decide) ?_
  refine mr_newQ (N := 200) (t := 3) (t0 := 2) (C0 := RX0) C hM3f rfl (by decide) (mw_1 _ (List.mem_of_getElem? (i := 12) rfl)) hO0 rfl (kdB 3) (fun _ _ => rfl) rfl (fun σ i h => mE_3 h) (fun _ _ _ h => absurd h (by decide)) (Nat.le_of_ble_eq_true rfl) (Nat.le_of_ble_eq_true rfl) dX2_init_17 (fun H hM4 => ?_)
  clear hM3f
  have hM4f : mM G (kdB 3) ad s (k2_2) H locs := hM4
  clear hM4
  refine W.eq (g2 := F0 m 20 ls [mV ad (some 2), mV ad (some 0)]) rfl ?_
  refine mr_putF C hM4f (ci := 5) (i := 0) ⟨rfl, Nat.le_of_ble_eq_true rfl⟩ (C0 := RX2) (T := TX2) (N := 7) rfl inlX2 tyX2 tyX2_ok nmX2 rfl 1 (by decide) (mw_1 _ (List.mem_of_getElem? (i := 13) rfl)) rfl rfl hin rfl rfl rfl (sR (k2_2) 0 1 (some 2)) rfl (fun _ _ _ => rfl) (fun a b h => mR_off a b h) (by show mV ad (mR (sR (k2_2) 0 1 (some 2)) 0 1) = _; rw [mR_sR, if_pos ⟨rfl, rfl⟩]) dX2_init_20 (fun H locs hM5 => ?_)
  clear hM4f
  have hM5f : mM G (kdB 3) ad s (k2_3) H locs := hM5
  clear hM5
  refine lv_iconst (v := 0) hx hb dX2_init_23 (by decide) ?_
  refine mr_istore_n (lv' := [(1, .int (0 : Int32)), (0, mV ad (some 0))]) C hl dX2_init_24 rfl (by decide) rfl (fun ls hl6 => ?_)
  clear hl
  refine lv_iload_n hx hb dX2_init_25 rfl (ml_at hl6 0 rfl) ?_
  refine mr_aload_n C dX2_init_26 rfl (ml_at hl6 1 rfl) ?_
  refine mr_get C hM5f (ci := 5) (i := 0) ⟨rfl, Nat.le_of_ble_eq_true rfl⟩ (C0 := RX2) (T := TX2) (N := 7) rfl inlX2 0 (by decide) (by decide) (mw_1 _ (List.mem_of_getElem? (i := 11) rfl)) rfl (v := mV ad (some 1)) (by show mV ad (mR _ 0 0) = _; rw [show mR (k2_3) 0 0 = some 1 from rfl]) dX2_init_27 ?_
  refine mr_alen (i := 1) (n := 6) (t := 4) (v := 6) C hM5f ⟨rfl, Nat.le_of_ble_eq_true rfl⟩ (by decide) (by decide) rfl dX2_init_30 ?_
  refine lv_icmp_ge (tgt := 54) hx hb dX2_init_31 (by decide) (fun hc => absurd hc (by decide)) (fun _ => ?_)
  refine mr_aload_n C dX2_init_34 rfl (ml_at hl6 1 rfl) ?_
  refine mr_get C hM5f (ci := 5) (i := 0) ⟨rfl, Nat.le_of_ble_eq_true rfl⟩ (C0 := RX2) (T := TX2) (N := 7) rfl inlX2 0 (by decide) (by decide) (mw_1 _ (List.mem_of_getElem? (i := 11) rfl)) rfl (v := mV ad (some 1)) (by show mV ad (mR _ 0 0) = _; rw [show mR (k2_3) 0 0 = some 1 from rfl]) dX2_init_35 ?_
  refine lv_iload_n hx hb dX2_init_38 rfl (ml_at hl6 0 rfl) ?_
  refine mr_newO C hM5f (ci := 4) (C0 := RX1) (T := TX1) (N := 13) rfl inlX1 tyX1 tyX1_ok rfl (mw_1 _ (List.mem_of_getElem? (i := 10) rfl)) (mw_1 _ (List.mem_of_getElem? (i := 14) rfl)) (mw_1 _ (List.mem_of_getElem? (i := 15) rfl)) (kdB 3) (fun _ _ => rfl) rfl (fun _ _ _ h => absurd h (by decide)) (by decide +kernel) (Nat.le_of_ble_eq_true rfl) (Nat.le_of_ble_eq_true rfl) dX2_init_39 (fun H hM7 => ?_)
  clear hM5f
  have hM7f : mM G (kdB 3) ad s (k2_4) H locs := hM7
  clear hM7
  refine W.eq (g2 := F0 m 42 ls [mV ad (some 3), .int (0 : Int32), mV ad (some 1)]) rfl ?_
  refine lv_dup hx hb dX2_init_42 (mV_cat _ _) ?_
  refine lv_iload_n hx hb dX2_init_43 rfl (ml_at hl6 0 rfl) ?_
  refine mr_cvc hM7f (mr_runIc (As := [.int (0 : Int32)]) C hM7f hO0 hO1 hl6.1.1 rfl rfl (c_X1_init l G ad 3 (0 : Int32) (by decide) (k2_4) rfl) (mw_1 _ (List.mem_of_getElem? (i := 16) rfl)) (mw_1 _ (List.mem_of_getElem? (i := 17) rfl)) (mw_1 _ (List.mem_of_getElem? (i := 15) rfl)) (mw_1 _ (List.mem_of_getElem? (i := 18) rfl)) rfl (n := 1) ⟨by decide, by decide, by decide +kernel⟩ rfl rfl ⟨Nat.le_of_ble_eq_true rfl, Nat.le_of_ble_eq_true rfl⟩ (m_cR (m_cI (m_cR m_c0))) (Nat.le_of_ble_eq_true rfl) dX2_init_44 ⟨Nat.le_of_ble_eq_true rfl, Nat.le_of_ble_eq_true rfl⟩) (fun v H locs hv hM8 => ?_)
  subst hv
  clear hM7f
  have hM8f : mM G (kdB 3) ad s (k2_5) H locs := hM8
  clear hM8
  have hM9 : mM G (kdB 6) ad s (k2_5) H locs := mM_conv (i := 3) (ci := 4) (cj := 1) hM8f rfl rfl (fun j hj hne => (by decide : ∀ j, j < 6 → j ≠ 3 → (kdB 6) j = (kdB 3) j) j hj hne) (fun _ _ _ h => absurd h (by decide)) hG.1 rfl (mL_41 rfl rfl)
  clear hM8f
  refine mr_sst (i := 1) (n := 6) (j := 0) (o := 3) C hM9 ⟨rfl, Nat.le_of_ble_eq_true rfl⟩ ⟨rfl, Nat.le_of_ble_eq_true rfl⟩ rfl (by decide) (by decide) dX2_init_47 (fun H locs hM10 => ?_)
  clear hM9
  have hM10f : mM G (kdB 6) ad s (k2_6) H locs := hM10
  clear hM10
  refine mr_iinc (v := 1) (lv' := [(1, .int (1 : Int32)), (0, mV ad (some 0))]) C hl6 dX2_init_48 (k := 0) rfl rfl (by decide) rfl (fun ls hl11 => ?_)
  clear hl6
  refine lv_goto (tgt := 25) hx hb dX2_init_51 (by decide) ?_
  refine lv_iload_n hx hb dX2_init_25 rfl (ml_at hl11 0 rfl) ?_
  refine mr_aload_n C dX2_init_26 rfl (ml_at hl11 1 rfl) ?_
  refine mr_get C hM10f (ci := 5) (i := 0) ⟨rfl, Nat.le_of_ble_eq_true rfl⟩ (C0 := RX2) (T := TX2) (N := 7) rfl inlX2 0 (by decide) (by decide) (mw_1 _ (List.mem_of_getElem? (i := 11) rfl)) rfl (v := mV ad (some 1)) (by show mV ad (mR _ 0 0) = _; rw [show mR (k2_6) 0 0 = some 1 from rfl]) dX2_init_27 ?_
  refine mr_alen (i := 1) (n := 6) (t := 4) (v := 6) C hM10f ⟨rfl, Nat.le_of_ble_eq_true rfl⟩ (by decide) (by decide) rfl dX2_init_30 ?_
  refine lv_icmp_ge (tgt := 54) hx hb dX2_init_31 (by decide) (fun hc => absurd hc (by decide)) (fun _ => ?_)
  refine mr_aload_n C dX2_init_34 rfl (ml_at hl11 1 rfl) ?_
  refine mr_get C hM10f (ci := 5) (i := 0) ⟨rfl, Nat.le_of_ble_eq_true rfl⟩ (C0 := RX2) (T := TX2) (N := 7) rfl inlX2 0 (by decide) (by decide) (mw_1 _ (List.mem_of_getElem? (i := 11) rfl)) rfl (v := mV ad (some 1)) (by show mV ad (mR _ 0 0) = _; rw [show mR (k2_6) 0 0 = some 1 from rfl]) dX2_init_35 ?_
  refine lv_iload_n hx hb dX2_init_38 rfl (ml_at hl11 0 rfl) ?_
  refine mr_newO C hM10f (ci := 4) (C0 := RX1) (T := TX1) (N := 13) rfl inlX1 tyX1 tyX1_ok rfl (mw_1 _ (List.mem_of_getElem? (i := 10) rfl)) (mw_1 _ (List.mem_of_getElem? (i := 14) rfl)) (mw_1 _ (List.mem_of_getElem? (i := 15) rfl)) (kdB 6) (fun _ _ => rfl) rfl (fun _ _ _ h => absurd h (by decide)) (by decide +kernel) (Nat.le_of_ble_eq_true rfl) (Nat.le_of_ble_eq_true rfl) dX2_init_39 (fun H hM12 => ?_)
  clear hM10f
  have hM12f : mM G (kdB 6) ad s (k2_7) H locs := hM12
  clear hM12
  refine W.eq (g2 := F0 m 42 ls [mV ad (some 6), .int (1 : Int32), mV ad (some 1)]) rfl ?_
  refine lv_dup hx hb dX2_init_42 (mV_cat _ _) ?_
  refine lv_iload_n hx hb dX2_init_43 rfl (ml_at hl11 0 rfl) ?_
  refine mr_cvc hM12f (mr_runIc (As := [.int (1 : Int32)]) C hM12f hO0 hO1 hl11.1.1 rfl rfl (c_X1_init l G ad 6 (1 : Int32) (by decide) (k2_7) rfl) (mw_1 _ (List.mem_of_getElem? (i := 16) rfl)) (mw_1 _ (List.mem_of_getElem? (i := 17) rfl)) (mw_1 _ (List.mem_of_getElem? (i := 15) rfl)) (mw_1 _ (List.mem_of_getElem? (i := 18) rfl)) rfl (n := 1) ⟨by decide, by decide, by decide +kernel⟩ rfl rfl ⟨Nat.le_of_ble_eq_true rfl, Nat.le_of_ble_eq_true rfl⟩ (m_cR (m_cI (m_cR m_c0))) (Nat.le_of_ble_eq_true rfl) dX2_init_44 ⟨Nat.le_of_ble_eq_true rfl, Nat.le_of_ble_eq_true rfl⟩) (fun v H locs hv hM13 => ?_)
  subst hv
  clear hM12f
  have hM13f : mM G (kdB 6) ad s (k2_8) H locs := hM13
  clear hM13
  have hM14 : mM G (kdB 9) ad s (k2_8) H locs := mM_conv (i := 6) (ci := 4) (cj := 1) hM13f rfl rfl (fun j hj hne => (by decide : ∀ j, j < 9 → j ≠ 6 → (kdB 9) j = (kdB 6) j) j hj hne) (fun _ _ _ h => absurd h (by decide)) hG.1 rfl (mL_41 rfl rfl)
  clear hM13f
  refine mr_sst (i := 1) (n := 6) (j := 1) (o := 6) C hM14 ⟨rfl, Nat.le_of_ble_eq_true rfl⟩ ⟨rfl, Nat.le_of_ble_eq_true rfl⟩ rfl (by decide) (by decide) dX2_init_47 (fun H locs hM15 => ?_)
  clear hM14
  have hM15f : mM G (kdB 9) ad s (k2_9) H locs := hM15
  clear hM15
  refine mr_iinc (v := 2) (lv' := [(1, .int (2 : Int32)), (0, mV ad (some 0))]) C hl11 dX2_init_48 (k := 0) rfl rfl (by decide) rfl (fun ls hl16 => ?_)
  clear hl11
  refine lv_goto (tgt := 25) hx hb dX2_init_51 (by decide) ?_
  refine lv_iload_n hx hb dX2_init_25 rfl (ml_at hl16 0 rfl) ?_
  refine mr_aload_n C dX2_init_26 rfl (ml_at hl16 1 rfl) ?_
  refine mr_get C hM15f (ci := 5) (i := 0) ⟨rfl, Nat.le_of_ble_eq_true rfl⟩ (C0 := RX2) (T := TX2) (N := 7) rfl inlX2 0 (by decide) (by decide) (mw_1 _ (List.mem_of_getElem? (i := 11) rfl)) rfl (v := mV ad (some 1)) (by show mV ad (mR _ 0 0) = _; rw [show mR (k2_9) 0 0 = some 1 from rfl]) dX2_init_27 ?_
  refine mr_alen (i := 1) (n := 6) (t := 4) (v := 6) C hM15f ⟨rfl, Nat.le_of_ble_eq_true rfl⟩ (by decide) (by decide) rfl dX2_init_30 ?_
  refine lv_icmp_ge (tgt := 54) hx hb dX2_init_31 (by decide) (fun hc => absurd hc (by decide)) (fun _ => ?_)
  refine mr_aload_n C dX2_init_34 rfl (ml_at hl16 1 rfl) ?_
  refine mr_get C hM15f (ci := 5) (i := 0) ⟨rfl, Nat.le_of_ble_eq_true rfl⟩ (C0 := RX2) (T := TX2) (N := 7) rfl inlX2 0 (by decide) (by decide) (mw_1 _ (List.mem_of_getElem? (i := 11) rfl)) rfl (v := mV ad (some 1)) (by show mV ad (mR _ 0 0) = _; rw [show mR (k2_9) 0 0 = some 1 from rfl]) dX2_init_35 ?_
  refine lv_iload_n hx hb dX2_init_38 rfl (ml_at hl16 0 rfl) ?_
  refine mr_newO C hM15f (ci := 4) (C0 := RX1) (T := TX1) (N := 13) rfl inlX1 tyX1 tyX1_ok rfl (mw_1 _ (List.mem_of_getElem? (i := 10) rfl)) (mw_1 _ (List.mem_of_getElem? (i := 14) rfl)) (mw_1 _ (List.mem_of_getElem? (i := 15) rfl)) (kdB 9) (fun _ _ => rfl) rfl (fun _ _ _ h => absurd h (by decide)) (by decide +kernel) (Nat.le_of_ble_eq_true rfl) (Nat.le_of_ble_eq_true rfl) dX2_init_39 (fun H hM17 => ?_)
  clear hM15f
  have hM17f : mM G (kdB 9) ad s (k2_10) H locs := hM17
  clear hM17
  refine W.eq (g2 := F0 m 42 ls [mV ad (some 9), .int (2 : Int32), mV ad (some 1)]) rfl ?_
  refine lv_dup hx hb dX2_init_42 (mV_cat _ _) ?_
  refine lv_iload_n hx hb dX2_init_43 rfl (ml_at hl16 0 rfl) ?_
  refine mr_cvc hM17f (mr_runIc (As := [.int (2 : Int32)]) C hM17f hO0 hO1 hl16.1.1 rfl rfl (c_X1_init l G ad 9 (2 : Int32) (by decide) (k2_10) rfl) (mw_1 _ (List.mem_of_getElem? (i := 16) rfl)) (mw_1 _ (List.mem_of_getElem? (i := 17) rfl)) (mw_1 _ (List.mem_of_getElem? (i := 15) rfl)) (mw_1 _ (List.mem_of_getElem? (i := 18) rfl)) rfl (n := 1) ⟨by decide, by decide, by decide +kernel⟩ rfl rfl ⟨Nat.le_of_ble_eq_true rfl, Nat.le_of_ble_eq_true rfl⟩ (m_cR (m_cI (m_cR m_c0))) (Nat.le_of_ble_eq_true rfl) dX2_init_44 ⟨Nat.le_of_ble_eq_true rfl, Nat.le_of_ble_eq_true rfl⟩) (fun v H locs hv hM18 => ?_)
  subst hv
  clear hM17f
  have hM18f : mM G (kdB 9) ad s (k2_11) H locs := hM18
  clear hM18
  have hM19 : mM G (kdB 12) ad s (k2_11) H locs := mM_conv (i := 9) (ci := 4) (cj := 1) hM18f rfl rfl (fun j hj hne => (by decide : ∀ j, j < 12 → j ≠ 9 → (kdB 12) j = (kdB 9) j) j hj hne) (fun _ _ _ h => absurd h (by decide)) hG.1 rfl (mL_41 rfl rfl)
  clear hM18f
  refine mr_sst (i := 1) (n := 6) (j := 2) (o := 9) C hM19 ⟨rfl, Nat.le_of_ble_eq_true rfl⟩ ⟨rfl, Nat.le_of_ble_eq_true rfl⟩ rfl (by decide) (by decide) dX2_init_47 (fun H locs hM20 => ?_)
  clear hM19
  have hM20f : mM G (kdB 12) ad s (k2_12) H locs := hM20
  clear hM20
  refine mr_iinc (v := 3) (lv' := [(1, .int (3 : Int32)), (0, mV ad (some 0))]) C hl16 dX2_init_48 (k := 0) rfl rfl (by decide) rfl (fun ls hl21 => ?_)
  clear hl16
  refine lv_goto (tgt := 25) hx hb dX2_init_51 (by decide) ?_
  refine lv_iload_n hx hb dX2_init_25 rfl (ml_at hl21 0 rfl) ?_
  refine mr_aload_n C dX2_init_26 rfl (ml_at hl21 1 rfl) ?_
  refine mr_get C hM20f (ci := 5) (i := 0) ⟨rfl, Nat.le_of_ble_eq_true rfl⟩ (C0 := RX2) (T := TX2) (N := 7) rfl inlX2 0 (by decide) (by decide) (mw_1 _ (List.mem_of_getElem? (i := 11) rfl)) rfl (v := mV ad (some 1)) (by show mV ad (mR _ 0 0) = _; rw [show mR (k2_12) 0 0 = some 1 from rfl]) dX2_init_27 ?_
  refine mr_alen (i := 1) (n := 6) (t := 4) (v := 6) C hM20f ⟨rfl, Nat.le_of_ble_eq_true rfl⟩ (by decide) (by decide) rfl dX2_init_30 ?_
  refine lv_icmp_ge (tgt := 54) hx hb dX2_init_31 (by decide) (fun hc => absurd hc (by decide)) (fun _ => ?_)
  refine mr_aload_n C dX2_init_34 rfl (ml_at hl21 1 rfl) ?_
  refine mr_get C hM20f (ci := 5) (i := 0) ⟨rfl, Nat.le_of_ble_eq_true rfl⟩ (C0 := RX2) (T := TX2) (N := 7) rfl inlX2 0 (by decide) (by decide) (mw_1 _ (List.mem_of_getElem? (i := 11) rfl)) rfl (v := mV ad (some 1)) (by show mV ad (mR _ 0 0) = _; rw [show mR (k2_12) 0 0 = some 1 from rfl]) dX2_init_35 ?_
  refine lv_iload_n hx hb dX2_init_38 rfl (ml_at hl21 0 rfl) ?_
  refine mr_newO C hM20f (ci := 4) (C0 := RX1) (T := TX1) (N := 13) rfl inlX1 tyX1 tyX1_ok rfl (mw_1 _ (List.mem_of_getElem? (i := 10) rfl)) (mw_1 _ (List.mem_of_getElem? (i := 14) rfl)) (mw_1 _ (List.mem_of_getElem? (i := 15) rfl)) (kdB 12) (fun _ _ => rfl) rfl (fun _ _ _ h => absurd h (by decide)) (by decide +kernel) (Nat.le_of_ble_eq_true rfl) (Nat.le_of_ble_eq_true rfl) dX2_init_39 (fun H hM22 => ?_)
  clear hM20f
  have hM22f : mM G (kdB 12) ad s (k2_13) H locs := hM22
  clear hM22
  refine W.eq (g2 := F0 m 42 ls [mV ad (some 12), .int (3 : Int32), mV ad (some 1)]) rfl ?_
  refine lv_dup hx hb dX2_init_42 (mV_cat _ _) ?_
  refine lv_iload_n hx hb dX2_init_43 rfl (ml_at hl21 0 rfl) ?_
  refine mr_cvc hM22f (mr_runIc (As := [.int (3 : Int32)]) C hM22f hO0 hO1 hl21.1.1 rfl rfl (c_X1_init l G ad 12 (3 : Int32) (by decide) (k2_13) rfl) (mw_1 _ (List.mem_of_getElem? (i := 16) rfl)) (mw_1 _ (List.mem_of_getElem? (i := 17) rfl)) (mw_1 _ (List.mem_of_getElem? (i := 15) rfl)) (mw_1 _ (List.mem_of_getElem? (i := 18) rfl)) rfl (n := 1) ⟨by decide, by decide, by decide +kernel⟩ rfl rfl ⟨Nat.le_of_ble_eq_true rfl, Nat.le_of_ble_eq_true rfl⟩ (m_cR (m_cI (m_cR m_c0))) (Nat.le_of_ble_eq_true rfl) dX2_init_44 ⟨Nat.le_of_ble_eq_true rfl, Nat.le_of_ble_eq_true rfl⟩) (fun v H locs hv hM23 => ?_)
  subst hv
  clear hM22f
  have hM23f : mM G (kdB 12) ad s (k2_14) H locs := hM23
  clear hM23
  have hM24 : mM G (kdB 15) ad s (k2_14) H locs := mM_conv (i := 12) (ci := 4) (cj := 1) hM23f rfl rfl (fun j hj hne => (by decide : ∀ j, j < 15 → j ≠ 12 → (kdB 15) j = (kdB 12) j) j hj hne) (fun _ _ _ h => absurd h (by decide)) hG.1 rfl (mL_41 rfl rfl)
  clear hM23f
  refine mr_sst (i := 1) (n := 6) (j := 3) (o := 12) C hM24 ⟨rfl, Nat.le_of_ble_eq_true rfl⟩ ⟨rfl, Nat.le_of_ble_eq_true rfl⟩ rfl (by decide) (by decide) dX2_init_47 (fun H locs hM25 => ?_)
  clear hM24
  have hM25f : mM G (kdB 15) ad s (k2_15) H locs := hM25
  clear hM25
  refine mr_iinc (v := 4) (lv' := [(1, .int (4 : Int32)), (0, mV ad (some 0))]) C hl21 dX2_init_48 (k := 0) rfl rfl (by decide) rfl (fun ls hl26 => ?_)
  clear hl21
  refine lv_goto (tgt := 25) hx hb dX2_init_51 (by decide) ?_
  refine lv_iload_n hx hb dX2_init_25 rfl (ml_at hl26 0 rfl) ?_
  refine mr_aload_n C dX2_init_26 rfl (ml_at hl26 1 rfl) ?_
  refine mr_get C hM25f (ci := 5) (i := 0) ⟨rfl, Nat.le_of_ble_eq_true rfl⟩ (C0 := RX2) (T := TX2) (N := 7) rfl inlX2 0 (by decide) (by decide) (mw_1 _ (List.mem_of_getElem? (i := 11) rfl)) rfl (v := mV ad (some 1)) (by show mV ad (mR _ 0 0) = _; rw [show mR (k2_15) 0 0 = some 1 from rfl]) dX2_init_27 ?_
  refine mr_alen (i := 1) (n := 6) (t := 4) (v := 6) C hM25f ⟨rfl, Nat.le_of_ble_eq_true rfl⟩ (by decide) (by decide) rfl dX2_init_30 ?_
  refine lv_icmp_ge (tgt := 54) hx hb dX2_init_31 (by decide) (fun hc => absurd hc (by decide)) (fun _ => ?_)
  refine mr_aload_n C dX2_init_34 rfl (ml_at hl26 1 rfl) ?_
  refine mr_get C hM25f (ci := 5) (i := 0) ⟨rfl, Nat.le_of_ble_eq_true rfl⟩ (C0 := RX2) (T := TX2) (N := 7) rfl inlX2 0 (by decide) (by decide) (mw_1 _ (List.mem_of_getElem? (i := 11) rfl)) rfl (v := mV ad (some 1)) (by show mV ad (mR _ 0 0) = _; rw [show mR (k2_15) 0 0 = some 1 from rfl]) dX2_init_35 ?_
  refine lv_iload_n hx hb dX2_init_38 rfl (ml_at hl26 0 rfl) ?_
  refine mr_newO C hM25f (ci := 4) (C0 := RX1) (T := TX1) (N := 13) rfl inlX1 tyX1 tyX1_ok rfl (mw_1 _ (List.mem_of_getElem? (i := 10) rfl)) (mw_1 _ (List.mem_of_getElem? (i := 14) rfl)) (mw_1 _ (List.mem_of_getElem? (i := 15) rfl)) (kdB 15) (fun _ _ => rfl) rfl (fun _ _ _ h => absurd h (by decide)) (by decide +kernel) (Nat.le_of_ble_eq_true rfl) (Nat.le_of_ble_eq_true rfl) dX2_init_39 (fun H hM27 => ?_)
  clear hM25f
  have hM27f : mM G (kdB 15) ad s (k2_16) H locs := hM27
  clear hM27
  refine W.eq (g2 := F0 m 42 ls [mV ad (some 15), .int (4 : Int32), mV ad (some 1)]) rfl ?_
  refine lv_dup hx hb dX2_init_42 (mV_cat _ _) ?_
  refine lv_iload_n hx hb dX2_init_43 rfl (ml_at hl26 0 rfl) ?_
  refine mr_cvc hM27f (mr_runIc (As := [.int (4 : Int32)]) C hM27f hO0 hO1 hl26.1.1 rfl rfl (c_X1_init l G ad 15 (4 : Int32) (by decide) (k2_16) rfl) (mw_1 _ (List.mem_of_getElem? (i := 16) rfl)) (mw_1 _ (List.mem_of_getElem? (i := 17) rfl)) (mw_1 _ (List.mem_of_getElem? (i := 15) rfl)) (mw_1 _ (List.mem_of_getElem? (i := 18) rfl)) rfl (n := 1) ⟨by decide, by decide, by decide +kernel⟩ rfl rfl ⟨Nat.le_of_ble_eq_true rfl, Nat.le_of_ble_eq_true rfl⟩ (m_cR (m_cI (m_cR m_c0))) (Nat.le_of_ble_eq_true rfl) dX2_init_44 ⟨Nat.le_of_ble_eq_true rfl, Nat.le_of_ble_eq_true rfl⟩) (fun v H locs hv hM28 => ?_)
  subst hv
  clear hM27f
  have hM28f : mM G (kdB 15) ad s (k2_17) H locs := hM28
  clear hM28
  have hM29 : mM G (kdB 18) ad s (k2_17) H locs := mM_conv (i := 15) (ci := 4) (cj := 1) hM28f rfl rfl (fun j hj hne => (by decide : ∀ j, j < 18 → j ≠ 15 → (kdB 18) j = (kdB 15) j) j hj hne) (fun _ _ _ h => absurd h (by decide)) hG.1 rfl (mL_41 rfl rfl)
  clear hM28f
  refine mr_sst (i := 1) (n := 6) (j := 4) (o := 15) C hM29 ⟨rfl, Nat.le_of_ble_eq_true rfl⟩ ⟨rfl, Nat.le_of_ble_eq_true rfl⟩ rfl (by decide) (by decide) dX2_init_47 (fun H locs hM30 => ?_)
  clear hM29
  have hM30f : mM G (kdB 18) ad s (k2_18) H locs := hM30
  clear hM30
  refine mr_iinc (v := 5) (lv' := [(1, .int (5 : Int32)), (0, mV ad (some 0))]) C hl26 dX2_init_48 (k := 0) rfl rfl (by decide) rfl (fun ls hl31 => ?_)
  clear hl26
  refine lv_goto (tgt := 25) hx hb dX2_init_51 (by decide) ?_
  refine lv_iload_n hx hb dX2_init_25 rfl (ml_at hl31 0 rfl) ?_
  refine mr_aload_n C dX2_init_26 rfl (ml_at hl31 1 rfl) ?_
  refine mr_get C hM30f (ci := 5) (i := 0) ⟨rfl, Nat.le_of_ble_eq_true rfl⟩ (C0 := RX2) (T := TX2) (N := 7) rfl inlX2 0 (by decide) (by decide) (mw_1 _ (List.mem_of_getElem? (i := 11) rfl)) rfl (v := mV ad (some 1)) (by show mV ad (mR _ 0 0) = _; rw [show mR (k2_18) 0 0 = some 1 from rfl]) dX2_init_27 ?_
  refine mr_alen (i := 1) (n := 6) (t := 4) (v := 6) C hM30f ⟨rfl, Nat.le_of_ble_eq_true rfl⟩ (by decide) (by decide) rfl dX2_init_30 ?_
  refine lv_icmp_ge (tgt := 54) hx hb dX2_init_31 (by decide) (fun hc => absurd hc (by decide)) (fun _ => ?_)
  refine mr_aload_n C dX2_init_34 rfl (ml_at hl31 1 rfl) ?_
  refine mr_get C hM30f (ci := 5) (i := 0) ⟨rfl, Nat.le_of_ble_eq_true rfl⟩ (C0 := RX2) (T := TX2) (N := 7) rfl inlX2 0 (by decide) (by decide) (mw_1 _ (List.mem_of_getElem? (i := 11) rfl)) rfl (v := mV ad (some 1)) (by show mV ad (mR _ 0 0) = _; rw [show mR (k2_18) 0 0 = some 1 from rfl]) dX2_init_35 ?_
  refine lv_iload_n hx hb dX2_init_38 rfl (ml_at hl31 0 rfl) ?_
  refine mr_newO C hM30f (ci := 4) (C0 := RX1) (T := TX1) (N := 13) rfl inlX1 tyX1 tyX1_ok rfl (mw_1 _ (List.mem_of_getElem? (i := 10) rfl)) (mw_1 _ (List.mem_of_getElem? (i := 14) rfl)) (mw_1 _ (List.mem_of_getElem? (i := 15) rfl)) (kdB 18) (fun _ _ => rfl) rfl (fun _ _ _ h => absurd h (by decide)) (by decide +kernel) (Nat.le_of_ble_eq_true rfl) (Nat.le_of_ble_eq_true rfl) dX2_init_39 (fun H hM32 => ?_)
  clear hM30f
  have hM32f : mM G (kdB 18) ad s (k2_19) H locs := hM32
  clear hM32
  refine W.eq (g2 := F0 m 42 ls [mV ad (some 18), .int (5 : Int32), mV ad (some 1)]) rfl ?_
  refine lv_dup hx hb dX2_init_42 (mV_cat _ _) ?_
  refine lv_iload_n hx hb dX2_init_43 rfl (ml_at hl31 0 rfl) ?_
  refine mr_cvc hM32f (mr_runIc (As := [.int (5 : Int32)]) C hM32f hO0 hO1 hl31.1.1 rfl rfl (c_X1_init l G ad 18 (5 : Int32) (by decide) (k2_19) rfl) (mw_1 _ (List.mem_of_getElem? (i := 16) rfl)) (mw_1 _ (List.mem_of_getElem? (i := 17) rfl)) (mw_1 _ (List.mem_of_getElem? (i := 15) rfl)) (mw_1 _ (List.mem_of_getElem? (i := 18) rfl)) rfl (n := 1) ⟨by decide, by decide, by decide +kernel⟩ rfl rfl ⟨Nat.le_of_ble_eq_true rfl, Nat.le_of_ble_eq_true rfl⟩ (m_cR (m_cI (m_cR m_c0))) (Nat.le_of_ble_eq_true rfl) dX2_init_44 ⟨Nat.le_of_ble_eq_true rfl, Nat.le_of_ble_eq_true rfl⟩) (fun v H locs hv hM33 => ?_)
  subst hv
  clear hM32f
  have hM33f : mM G (kdB 18) ad s (k2_20) H locs := hM33
  clear hM33
  have hM34 : mM G (kdB 21) ad s (k2_20) H locs := mM_conv (i := 18) (ci := 4) (cj := 1) hM33f rfl rfl (fun j hj hne => (by decide : ∀ j, j < 21 → j ≠ 18 → (kdB 21) j = (kdB 18) j) j hj hne) (fun _ _ _ h => absurd h (by decide)) hG.1 rfl (mL_41 rfl rfl)
  clear hM33f
  refine mr_sst (i := 1) (n := 6) (j := 5) (o := 18) C hM34 ⟨rfl, Nat.le_of_ble_eq_true rfl⟩ ⟨rfl, Nat.le_of_ble_eq_true rfl⟩ rfl (by decide) (by decide) dX2_init_47 (fun H locs hM35 => ?_)
  clear hM34
  have hM35f : mM G (kdB 21) ad s (k2_21) H locs := hM35
  clear hM35
  refine mr_iinc (v := 6) (lv' := [(1, .int (6 : Int32)), (0, mV ad (some 0))]) C hl31 dX2_init_48 (k := 0) rfl rfl (by decide) rfl (fun ls hl36 => ?_)
  clear hl31
  refine lv_goto (tgt := 25) hx hb dX2_init_51 (by decide) ?_
  refine lv_iload_n hx hb dX2_init_25 rfl (ml_at hl36 0 rfl) ?_
  refine mr_aload_n C dX2_init_26 rfl (ml_at hl36 1 rfl) ?_
  refine mr_get C hM35f (ci := 5) (i := 0) ⟨rfl, Nat.le_of_ble_eq_true rfl⟩ (C0 := RX2) (T := TX2) (N := 7) rfl inlX2 0 (by decide) (by decide) (mw_1 _ (List.mem_of_getElem? (i := 11) rfl)) rfl (v := mV ad (some 1)) (by show mV ad (mR _ 0 0) = _; rw [show mR (k2_21) 0 0 = some 1 from rfl]) dX2_init_27 ?_
  refine mr_alen (i := 1) (n := 6) (t := 4) (v := 6) C hM35f ⟨rfl, Nat.le_of_ble_eq_true rfl⟩ (by decide) (by decide) rfl dX2_init_30 ?_
  refine lv_icmp_ge (tgt := 54) hx hb dX2_init_31 (by decide) (fun _ => ?_) (fun hc => absurd (by decide) hc)
  have hM37 : mM G kdC ad s (k2_21) H locs := mM_conv (i := 0) (ci := 5) (cj := 2) hM35f rfl rfl (fun j hj hne => (by decide : ∀ j, j < 21 → j ≠ 0 → kdC j = kdB 21 j) j hj hne) (fun i h1 h2 _ => (by decide : ∀ i, i < 26 → kdC i ≠ (0, 0) → i < 21) i h2 h1) hG.2.1 rfl (mL_52 rfl rfl)
  exact mr_vret C hM37 hr hlk rfl dX2_init_54
