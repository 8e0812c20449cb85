section SX
variable {p : Program} {l : Launch} {e : Env} {R : Room} {s : State} {m₀ : MethodId} {args : Array Value} {below : List Frame} {meth : Method} {c : Code} {W₀ : State} {locs : List Loc} {cells slots : Nat}
set_option maxHeartbeats 1000000 in
theorem ctorSX (X : Stand p l e R s m₀ args below meth c W₀ locs cells slots) (hexec : p.tables.exec = Jvm.exec) (htr : e.platform.stackTraces = false) {own cls : String} {names : List String} {ic ix : Nat} {rx : ByteArray} (x0 : decode rx 0 = .ok (.aload_n 0, 1)) (x1 : decode rx 1 = .ok (.aload_n 1, 1)) (x2 : decode rx 2 = .ok (.invokespecial ix, 3)) (x5 : decode rx 5 = .ok (.return_, 1))
    (hown : s.vm.findClass own = some m₀.cls) (hcls : Bundle.fit cls = true) (hnames : ∀ n ∈ names, Bundle.fit n = true) (h : ∀ a ∈ Bundle.ownAtomsX own ic cls ix rx names, a.before args s = true) (hlocs : locs = [])
    {a : Addr} {cX : ClassId} {kX : Class} (hfX : s.vm.findClass cls = some cX) (hkX : s.vm.classes[cX]? = some kX) (hcell : W₀.heap[a]? = some (freshCell cX kX)) (hnew : s.heap.size ≤ a) {msg : Value} (hmsg : msg.isRef = true)
    {g : JFrame} (hg : g.method = m₀) (hsize : g.locals.size = c.maxLocals) (hlocked : g.locked = none) (hentered : g.entered = []) {rest : List Value} (hstack : g.stack = msg :: .ref a :: .ref a :: rest)
    (hd6 : decode c.code g.pc = .ok (.invokespecial ic, 3)) (hd9 : decode c.code (g.pc + 3) = .ok (.athrow, 1)) (hout : ∀ x ∈ c.exceptionTable.toList, covers x (g.pc + 3) = false)
    (hRf : names.length + 3 < R.frames) (hRl : 2 * g.monitorRoom + ((Value.ref a :: rest).map fun v => v.category).sum + (13 * (names.length + 1) + 42) ≤ R.locals) (hlocks : meth.locks = false) :
    ∃ U : State, Steps p.tables e below (W₀.setTop g) U ∧ U.status = .running ∧ Ended U below (.threw a) ∧ s.WarmedH U.vm ∧ s.sameButNew ({ U with vm := s.vm } : State) locs cells slots ∧ ∃ ce, U.heap[a]? = some ce ∧ ce.vm = .none ∧ s.vm.findClass cls = some ce.cls := by
  subst hlocs
  have p1 : e.platform.frameOwnsMonitors = true := by rw [X.admits.platform]
  have p2 : e.platform.finalization = false := by rw [X.admits.platform]
  have hpl : e.platform.magicAccessors = ({} : Platform).magicAccessors := by rw [X.admits.platform]
  have w : ∀ x, x ∈ Bundle.ownAtomsX own ic cls ix rx names → x.holds args s none s [] = true := fun x hx => h x hx
  obtain ⟨T, _, L, -, Y⟩ := ThrowableC.of_atoms (args := args) p1 p2 hpl (fun x hx => h x (by simp [Bundle.ownAtomsX, hx]))
  obtain ⟨Z, M, LZ, LM, hnZ⟩ := Init0T.ofS_atoms (args := args) hpl L Y (fun x hx => h x (by simp [Bundle.ownAtomsX, hx]))
  obtain ⟨P1, Ps, hlen, L1, hL, hP, hk1, hk2⟩ := Bundle.chainSX (args := args) hpl hnZ x0 x1 x2 x5 names cls hcls hnames (fun x hx => h x (by simp [Bundle.ownAtomsX, hx]))
  have hf := findClass_of_methodNamed hP
  cases Option.some.inj (hfX.symm.trans hf)
  obtain ⟨_, _, i1, i2, hord, -, -, -⟩ := Cond.instantiable_spec (w (.instantiable cls 6) (by simp [Bundle.ownAtomsX]))
  cases Option.some.inj (i1.symm.trans hf)
  cases Option.some.inj (hkX.symm.trans i2)
  have sel : ∀ {y : MethodName} {mi : MethodId}, Cond.selects cls y y ∈ Bundle.ownAtomsX own ic cls ix rx names → s.methodNamed? y = some mi → (y.cls ≠ "java/lang/invoke/MethodHandle" ∧ y.cls ≠ "java/lang/invoke/VarHandle") → selectMethod e.platform s.vm P1.m.cls mi = .method mi := fun hy hn hp => by
    obtain ⟨_, _, _, q1, q2, q3, q4, -⟩ := Cond.selects_spec (w _ hy)
    cases Option.some.inj (q1.symm.trans hf)
    cases Option.some.inj (q2.symm.trans (State.methodFound?_of_named hn hp))
    cases Option.some.inj (q3.symm.trans hn)
    rw [Launch.admits_selectMethod X.admits]; exact q4
  have s0 := sel (y := Bundle.tFill0) (by simp [Bundle.ownAtomsX]) Y.fill0 (by decide)
  have s1 := sel (y := Bundle.tFill) (by simp [Bundle.ownAtomsX]) Y.fill (by decide)
  obtain ⟨cS, hcS, hst⟩ := Y.statics
  obtain ⟨u, hu⟩ := Cond.staticRefV Y.unassigned L.unassignedStatic L.statics hcS hst (w (.isRef (.static Bundle.tN "UNASSIGNED_STACK" Bundle.steD)) (by simp [Bundle.ownAtomsX]))
  obtain ⟨v, hv⟩ := Cond.staticRefV Y.sentinel L.sentinelStatic L.statics hcS hst (w (.isRef (.static Bundle.tN "SUPPRESSED_SENTINEL" Bundle.listD)) (by simp [Bundle.ownAtomsX]))
  obtain ⟨ci, ii, fB, b1, b2, b3, b4, -, b5, b6, b7⟩ := Cond.ownField (t := .object "java/lang/Object") Y.found L.cls (by decide +kernel) (w (.fieldLink Bundle.tN 198 Bundle.tN "backtrace" "Ljava/lang/Object;") (by simp [Bundle.ownAtomsX])) (w (.lays Bundle.tN Bundle.tN "backtrace" "Ljava/lang/Object;") (by simp [Bundle.ownAtomsX])) e.platform hpl
  obtain ⟨cS2, hcS2, hvm2, -, hkp⟩ := X.same.2.2.2.2.2 T.aS cS hcS
  have hkn : cS2.vm ≠ .unknown := fun h9 => by
    rw [hvm2] at h9
    rw [show cS.vm = .unknown from h9] at hst
    cases hst
  have hne : T.aS ≠ a := Nat.ne_of_lt (Nat.lt_of_lt_of_le (Array.getElem?_eq_some_iff.mp hcS).1 hnew)
  obtain ⟨_, hM⟩ := Y.msg
  obtain ⟨tC, dC, eC, nC⟩ := Cond.laysAt hf i2 Y.cause (w (.lays cls Bundle.tN "cause" "Ljava/lang/Throwable;") (by simp [Bundle.ownAtomsX]))
  obtain ⟨tS, dS, eS, nS⟩ := Cond.laysAt hf i2 Y.stack (w (.lays cls Bundle.tN "stackTrace" Bundle.steD) (by simp [Bundle.ownAtomsX]))
  obtain ⟨tP, dP, eP, nP⟩ := Cond.laysAt hf i2 Y.supp (w (.lays cls Bundle.tN "suppressedExceptions" Bundle.listD) (by simp [Bundle.ownAtomsX]))
  obtain ⟨tM, -, -, -⟩ := Cond.laysAt hf i2 hM (w (.lays cls Bundle.tN "detailMessage" "Ljava/lang/String;") (by simp [Bundle.ownAtomsX]))
  obtain ⟨tB, dB, eB, nB⟩ := Cond.laysAt hf i2 b7 (w (.lays cls Bundle.tN "backtrace" "Ljava/lang/Object;") (by simp [Bundle.ownAtomsX]))
  have aC := Cond.laysApart eB eC nB nC (by rw [b5, Y.causeName]; decide)
  have aS := Cond.laysApart eB eS nB nS (by rw [b5, Y.stackName]; decide)
  have aP := Cond.laysApart eB eP nB nP (by rw [b5, Y.suppName]; decide)
  have hsk : SkipFacts T e.platform s (fun u => u) u ((preparedCellV T.toThrowableT (freshCell P1.m.cls kX) a u v).withEntry W₀.cur) :=
    ⟨{ ci198 := ci, i198 := ii, fBack := fB }, ⟨b1, b2, b3, b4⟩, by
      have h9 := fresh_default (c := P1.m.cls) tB
      rw [b6] at h9
      simpa [preparedCellV, Cell.setSlot, Cell.withEntry, Array.getElem?_setIfInBounds, aC, aS, aP, aC.symm, aS.symm, aP.symm, defaultValue] using h9, fun _ _ => rfl⟩
  obtain ⟨_, _, _, _, vm₁, g1, -, -, -, -, -, -, -, hW₁, st1⟩ := Steps.initColdS (tb := p.tables) (e := e) (below := below) (s := s) (U := W₀) X.here hexec X.warmed hpl hown (t := Bundle.initS cls) rfl rfl (Bundle.fit_spec hcls).2
    (w (.methodLink own ic (Bundle.initS cls)) (by simp [Bundle.ownAtomsX])) (h (.instanceMethod (Bundle.initS cls)) (by cases names <;> simp [Bundle.ownAtomsX, Bundle.chainSAtomsX, Bundle.passSAtoms])) (bytes := rx) (maxL := 2) (h (.code (Bundle.initS cls) rx 2 none) (by cases names <;> simp [Bundle.ownAtomsX, Bundle.chainSAtomsX, Bundle.passSAtoms]))
    (f := g) hg (a := a) (msg := msg) (rest := .ref a :: rest) hstack hd6
  cases Option.some.inj (g1.symm.trans hP)
  obtain ⟨vm₂, X₂, st2⟩ := (X.noted hW₁).ctorMessageOffV hexec (g := { g with stack := .ref a :: rest }) hg hsize T L Z LZ M LM (P1 :: Ps)
    (fun P hP => by rcases List.mem_cons.mp hP with rfl | hP; exact L1; exact hL P hP) ⟨hk1, hk2⟩ (u0 := u) (sen := v) (self := a) hmsg (cell := freshCell P1.m.cls kX) (cellS := cS2)
    hcell (fun _ => by simp) (by simp) rfl rfl s0 s1 hcS2 hne hkn (by rw [hkp _ (fun h9 => nomatch h9)]; exact hu) (by rw [hkp _ (fun h9 => nomatch h9)]; exact hv)
    (Takes.of_laid i2 hord tC (by rw [Y.causeType]; rfl)) (Takes.of_laid i2 hord tS (by rw [Y.stackType]; exact fits_refV_array _ u)) (Takes.of_laid i2 hord tP (by rw [Y.suppType]; exact fits_refV_object _ v))
    (Takes.of_laid i2 hord tM (by rw [Y.msgType]; exact fits_refV_object _ ⟨msg, hmsg⟩)) Y.objLocals hsk htr [] hd6 (by simp only [List.length_cons, hlen]; omega) (by simp only [List.length_cons, hlen]; exact hRl)
  obtain ⟨hwalk, hrun, hend, hWU, hsame⟩ := X₂.athrowLeaves hexec (g := { g with stack := .ref a :: rest, pc := g.pc + 3 }) hg hlocked hentered hout (a := a) (rest := rest) rfl hd9
  have hU := heapAt_setCell_self (s := (W₀.setVm vm₁).setVm vm₂) (plainBareV T.toThrowableT (freshCell P1.m.cls kX) a u v msg) (Array.getElem?_eq_some_iff.mp hcell).1
  refine ⟨_, st1 _ (fun acts => by rw [doInvoke_state]; exact st2 _ hwalk), hrun, hend, hWU, hsame.weaken (fun y hy hlt => ?_) (Nat.le_refl _) (Nat.le_refl _), _, hU, rfl, hf⟩
  exfalso
  have hb : y.base = a := by
    simp only [List.nil_append, List.mem_cons, List.not_mem_nil, or_false] at hy
    rcases hy with rfl | rfl | rfl | rfl | rfl <;> rfl
  rw [hb] at hlt
  exact Nat.not_lt.mpr hnew hlt
end SX
abbrev rxN : ByteArray := prog_35_method_4_code
theorem rxN_0 : decode rxN 0 = .ok (.aload_n 0, 1) := by decide +kernel
theorem rxN_1 : decode rxN 1 = .ok (.aload_n 1, 1) := by decide +kernel
theorem rxN_2 : decode rxN 2 = .ok (.invokespecial 13, 3) := by decide +kernel
theorem rxN_5 : decode rxN 5 = .ok (.return_, 1) := by decide +kernel
abbrev nsE : String := "java/util/NoSuchElementException"
def atN : List Cond := (Bundle.ownAtomsX "LineStore" 193 nsE 13 rxN nm9).filter vx_no
theorem ga_N : ∀ w ∈ atN.filter goodWord, w ∈ lwg := lwg_m (goodIn_r _ [61, 548, 557, 562, 565, 567, 549, 550, 85, 86, 551, 556, 563, 583, 538, 584, 540, 585, 542, 552, 554, 544, 579, 580, 582, 544, 929, 930, 931, 573, 573, 574, 575, 576, 576, 577, 578, 579, 928, 919, 921, 561, 922, 923, 924, 925, 547, 546, 926] (by decide +kernel) (by decide +kernel)) (by decide +kernel)
theorem gx_N : ∀ w ∈ Cond.classLink "LineStore" 189 nsE :: Cond.initialized nsE :: atN, vx_ot w = true := by decide +kernel
theorem gn_N : ∀ w ∈ atN.filter (fun w => !goodWord w), w ∈ [Cond.declares ⟨"java/lang/RuntimeException", "<init>", "(Ljava/lang/String;)V"⟩, Cond.declares ⟨"java/lang/Exception", "<init>", "(Ljava/lang/String;)V"⟩, Cond.declares ⟨"java/lang/Throwable", "<init>", "(Ljava/lang/String;)V"⟩, Cond.castable nsE nsE] := by decide +kernel
theorem at_N {cx : Cond} {s : State} {args : Array Value} {G : GG} {z : Nat} {ad : Nat → Nat} {M : Mem} {H : Heap} {locs : List Loc} (hts : ∀ w ∈ cx :: lwg, w.before args s = true) (hI : Iv G z ad M s H locs) : ∀ w ∈ atN, w.before args s = true :=
  vx_hat (fun w hw => hts w (List.mem_cons_of_mem _ (ga_N w hw))) gn_N (fun w hw => by
    simp only [List.mem_cons, List.not_mem_nil, or_false] at hw
    rcases hw with rfl | rfl | rfl | rfl
    · exact va_Nw.use rfl ((iv_ex hI).1 _ (List.mem_of_getElem? (i := 0) rfl))
    · exact va_Nw.use rfl ((iv_ex hI).1 _ (List.mem_of_getElem? (i := 1) rfl))
    · exact va_Nw.use rfl ((iv_ex hI).1 _ (List.mem_of_getElem? (i := 2) rfl))
    · exact va_Nw.use rfl (hI.1.2.1.2.2 _ (List.mem_of_getElem? (i := 4) rfl)))
section TN
variable {p : Program} {l : Launch} {e : Env} {R : Room} {s : State} {m : MethodId} {args : Array Value} {below : List Frame} {meth : Method} {c : Code} {H : Heap} {locs : List Loc} {cells slots : Nat} {Q : State → Prop}
variable {G : GG} {z : Nat} {ad : Nat → Nat} {M : Mem} {cc : ByteArray} {pc : Nat} {ls : Array Slot} {rest : List Value}
theorem t_sN (hx : p.tables.exec = Jvm.exec) (hb : c.code = cc) (hst : l.stackTraces = false) (hown : s.vm.findClass "LineStore" = some m.cls) {cx : Cond} (hts : ∀ w ∈ cx :: lwg, w.before args s = true) (hI : Iv G z ad M s H locs) {k is mc ms : Nat} {text : String} (hstr : strL[k]? = some ("LineStore", is, text)) (hk : (Cond.classLink "LineStore" 189 nsE).before args s = true) (hini : (Cond.initialized nsE).before args s = true) (hsize : ls.size = c.maxLocals) {Qc : Array Value → State → Outcome → State → Prop}
    (d0 : decode cc pc = .ok (.new 189, 3)) (d3 : decode cc (pc + 3) = .ok (.dup, 1)) (d4 : decode cc (pc + 4) = .ok (.ldc is, 2)) (d6 : decode cc (pc + 6) = .ok (.invokespecial 193, 3)) (d9 : decode cc (pc + 9) = .ok (.athrow, 1)) (hnt : ∀ x ∈ c.exceptionTable.toList, False)
    (hRf : nm9.length + 3 < R.frames) (hRl : (rest.map fun v => v.category).sum + (13 * (nm9.length + 1) + 43) ≤ R.locals) (hRc : cells + 1 ≤ R.cells) (hRs : slots + 6 ≤ R.slots) (hlocks : meth.locks = false) (hc : cells + 1 ≤ mc) (hs : slots + 6 ≤ ms) :
    W p l e R s m args below meth c H locs cells slots (vx_MQ below Qc (xT G z ad M nsE) args s mc ms (fr z)) (F0 m pc ls rest) := by
  intro T hT X
  have htr : e.platform.stackTraces = false := (show e.platform.stackTraces = l.stackTraces by rw [X.admits.platform]).trans hst
  have Y := vx_rebase X (R' := { frames := R.frames, locals := R.locals, cells := 1, slots := 6 }) (Nat.le_refl _) (Nat.le_refl _) hRc hRs
  obtain ⟨s', hA⟩ : ∃ z, z = (T.setVm s.vm).setFrames (.invoking m args :: below) := ⟨_, rfl⟩
  rw [← hA] at Y
  have hvm : s'.vm = s.vm := by rw [hA]; rfl
  have hhp : s'.heap = H := by rw [hA]; exact hT
  have hW0 : s.WarmedH s'.vm := by rw [hvm]; exact State.WarmedH.refl s
  have hat' : ∀ w ∈ atN, w.before args s' = true := fun w hw => vx_ot_at hW0 hvm.symm (gx_N w (List.mem_cons_of_mem _ (List.mem_cons_of_mem _ hw))) (at_N hts hI w hw)
  have hk' := vx_ot_at (a' := args) hW0 hvm.symm (gx_N _ List.mem_cons_self) hk
  have hini' := vx_ot_at (a' := args) hW0 hvm.symm (gx_N _ (List.mem_cons_of_mem _ List.mem_cons_self)) hini
  have hU' : vx_Zq Bundle.tN "UNASSIGNED_STACK" Bundle.steD (fr z) s' s'.heap := by rw [hhp]; exact vx_Zq.moved hW0.alike (hI.1.2.2.2.1.1.kept hI.S.2.1)
  have hN' : vx_Zq Bundle.tN "SUPPRESSED_SENTINEL" Bundle.listD (fr z) s' s'.heap := by rw [hhp]; exact vx_Zq.moved hW0.alike (hI.1.2.2.2.1.2.kept hI.S.2.1)
  have h := vx_own hat' (vx_isRefq hU'.1) (vx_isRefq hN'.1) hU'.2.word hN'.2.word
  have hown' : s'.vm.findClass "LineStore" = some m.cls := by rw [hvm]; exact hown
  have hins : (Cond.instantiable nsE 6).before args s' = true := h _ (by simp [Bundle.ownAtomsX])
  obtain ⟨vm₁, cX, kX, hfX, hkX, -, -, X₁, st1⟩ := Y.newCold hx (own := "LineStore") (C := nsE) (index := 189) (n := 6) hown' hk' hins hini' (g := F0 m pc ls rest) rfl (by rw [hb]; exact d0) (Nat.le_refl _) (Nat.le_refl _)
  generalize hT1 : (T.setVm vm₁).pushCell { cls := cX, slots := kX.instanceTypes.map defaultValue, vm := .none } = T1 at X₁ st1
  have hcat : (Value.ref T.heap.size).category = 1 := rfl
  have hcellA : T1.heap[T.heap.size]? = some (freshCell cX kX) := by rw [← hT1]; exact State.heap_pushCell_size _ _
  have d3' : decode c.code (pc + 3) = .ok (.dup, 1) := by rw [hb]; exact d3
  have d4' : decode c.code (pc + 4) = .ok (.ldc is, 2) := by rw [hb]; exact d4
  have hstr' := vk_R.warm hW0 (iv_str hI hstr)
  obtain ⟨U, hsteps, hrun, hend, hW, hsame, ce, hce, hcv, hcl0⟩ := ctorSX X₁ hx htr rxN_0 rxN_1 rxN_2 rxN_5 (own := "LineStore") (cls := nsE) (names := nm9) (ic := 193) hown' (by decide +kernel) (by decide +kernel) h rfl hfX hkX hcellA (by rw [hhp, hT]; exact Nat.le_refl _) (msg := .ref (G.2.2.1 k)) rfl
    (g := { method := m, pc := pc + 6, locals := ls, stack := .ref (G.2.2.1 k) :: .ref T.heap.size :: .ref T.heap.size :: rest, locked := none }) rfl hsize rfl rfl (rest := rest) rfl
    (by rw [hb]; exact d6) (by rw [hb]; exact d9) (fun x hx9 => (hnt x hx9).elim) hRf (by simp only [List.map_cons, List.sum_cons, hcat]; omega) hlocks
  obtain ⟨f1, f2⟩ := vx_frame hsame
  rw [hhp] at f1 f2
  have hcl : s.vm.findClass nsE = some ce.cls := by rw [hvm] at hcl0; exact hcl0
  have hall : s.sameButNew ({ U with vm := s.vm } : State) locs mc ms := by
    subst hA
    obtain ⟨e1, e2⟩ := hsame
    rw [State.setFrames_setFrames] at e1
    have h2 : (T.setVm s.vm).sameButNew ({ U with vm := s.vm } : State) [] (0 + 1) (0 + 6) := ⟨e1, e2⟩
    have h3 := X.same.trans h2
    rw [List.append_nil] at h3
    exact h3.mono hc hs
  refine ⟨U, ?_, .threw T.heap.size, hrun, hend, Or.inr ⟨T.heap.size, rfl, nsE, ce, locs, x_ext hI U f1 (fun q hq => f2 q hq (fun z hz => nomatch hz)), hce, hcv, hcl, State.WarmedH.trans hW0 hW, hall, hI.S.2.2⟩⟩
  refine st1 _ ?_
  show Steps p.tables e below (T1.setTop { method := m, pc := pc + 3, locals := ls, stack := .ref T.heap.size :: rest, locked := none }) _
  jvm_step X₁.here [X₁.here.top, hx, d3', Value.category]
  exact X₁.ldcString hx (own := "LineStore") (text := text) (index := is) (a := G.2.2.1 k) hown' hstr'.1 hstr'.2
    (g := { method := m, pc := pc + 4, locals := ls, stack := .ref T.heap.size :: .ref T.heap.size :: rest, locked := none }) rfl d4' _ hsteps
end TN

/-- X9_look -/
abbrev rm_c_X9_look_b : Room := { frames := 6, cells := 1, slots := 6, locals := 90 }
set_option maxHeartbeats 4000000 in
set_option maxRecDepth 100000 in
theorem c_X9_look_b (l : Launch) (hst : l.stackTraces = false) (G : GG) (z : Nat) (ad : Nat → Nat) (M : Mem) {n : Nat} {kd : Nat → Nat} {fm : Nat → Int32} {to : Nat → Int32} {sz : Nat → Nat} {rl : Nat → Nat → Nat} {en : Nat → Nat → Nat} {qa : Nat} {qs : Nat} {fw : Int32} {q : Nat} {x1 : Int32} (hL : LSm G ad M n kd fm to sz rl en) (h0 : M 0 = some (cStore ad qa qs fw)) (hw : LSw n kd sz rl en) (hq : q < n) (hout : x1.toInt < 0 ∨ 4 < x1.toInt) : vx_Met l yX9_look wsX9_look rm_c_X9_look_b (Pr G z ad M [.ref (ad 0), .int (nI q), .int x1]) (fun _ _ _ _ => False) (xT G z ad M "java/util/NoSuchElementException") 1 6 (fr z) := by
  refine vx_ofW (cc := cX9_look) (maxL := 4) (ret := (some .int)) (by decide) rfl ?_
  intro p e s m args below meth c s₁ B hml hnt hv
  obtain ⟨rfl, hv⟩ := hv
  have hI := Iv.entry hv
  have hx := B.exec
  have hb := B.bytes
  have hr := B.returns
  have hts := atoms_spec (ws := wsX9_look) B.pre
  have hown : s.vm.findClass RX9 = some m.cls := findClass_of_methodNamed B.named
  have hlocks := B.notSynchronized
  have i_RX9 : ∀ w ∈ u_ws RX9 TX9 10, w ∈ wsX9_look := fun w h => List.mem_cons_of_mem _ (iu_X9 w h)
  have f_40 := hts _ (List.mem_cons_of_mem _ (lwg_of t_243 rfl))
  have tk_N := hts _ (List.mem_cons_of_mem _ (lwg_of t_872 rfl))
  have ti_N := hts _ (List.mem_cons_of_mem _ (lwg_of t_27 rfl))
  have hl := lv_entry ([.ref (ad 0), .int (nI q), .int x1]) (n := 4) (Nat.le_of_ble_eq_true rfl)
  rw [lg_entry_eq]
  generalize (lg_sl ([.ref (ad 0), .int (nI q), .int x1]) ++ List.replicate (4 - (lg_sl ([.ref (ad 0), .int (nI q), .int x1])).length) Slot.unset).toArray = ls at hl ⊢
  have hl : lv_has ls 4 [(0, .ref (ad 0)), (1, .int (nI q)), (2, .int x1)] := hl
  have h16 := hL.1
  obtain ⟨mcn, ed, h17, hed⟩ := id hL.2.1
  have hw1 := hw.1
  refine lv_aload_n hx hb dX9_look_0 rfl (lv_at hl 0 rfl) ?_
  refine lv_iload_n hx hb dX9_look_1 rfl (lv_at hl 1 rfl) ?_
  refine k_Nv (va_runV (As := [.int (nI q)]) (rest := []) ⟨hx, hb, hml, hown, hts⟩ (c_X9_checkLine l G z ad M (n := n) (kd := kd) (fm := fm) (to := to) (sz := sz) (rl := rl) (en := en) (qa := qa) (qs := qs) (fw := fw) (t := q) hL h0 hq hw1) (cwV 1 hts (gV (lwg_of t_603 rfl) (lwg_of t_605 rfl) (lwg_of ts_7 rfl) (lwg_of t_1 rfl) (lwg_of t_606 rfl)) rfl rfl rfl (by decide +kernel) ⟨Nat.le_of_ble_eq_true rfl, Nat.le_of_ble_eq_true rfl⟩) (hI.preV h0 rfl) rfl rfl hl.1 rfl (lv_room (Nat.le_of_ble_eq_true rfl)) dX9_look_2 ⟨Nat.le_of_ble_eq_true rfl, Nat.le_of_ble_eq_true rfl⟩) hI (fun M_3 H_4 locs_5 hp_2 hI => ?_)
  have eM_6 : M = M_3 := (funext hp_2).symm
  subst eM_6
  refine lv_aload_n hx hb dX9_look_5 rfl (lv_at hl 0 rfl) ?_
  refine h_get (C := RX9) (T := TX9) (N := 10) hx hb hts i_RX9 hown hI h0 rfl 4 (by decide) f_40 rfl rfl dX9_look_6 ?_
  refine lv_iload_n hx hb dX9_look_9 rfl (lv_at hl 1 rfl) ?_
  refine k_Rq (va_runV (As := [.int (nI q)]) (rest := []) ⟨hx, hb, hml, hown, hts⟩ (c_X3_get l G z ad M (n := n) (kd := kd) (fm := fm) (to := to) (sz := sz) (rl := rl) (en := en) (i := q) hL hq hw1) (cwV 1 hts (gV (lwg_of t_863 rfl) (lwg_of t_333 rfl) (lwg_of t_334 rfl) (lwg_of t_6 rfl) (lwg_of t_335 rfl)) rfl rfl rfl (by decide +kernel) ⟨Nat.le_of_ble_eq_true rfl, Nat.le_of_ble_eq_true rfl⟩) (hI.preV h16 rfl) rfl rfl hl.1 rfl (lv_room (Nat.le_of_ble_eq_true rfl)) dX9_look_10 ⟨Nat.le_of_ble_eq_true rfl, Nat.le_of_ble_eq_true rfl⟩) (fun _ h => h) (fun r_7 hp_8 => ?_)
  rw [hp_8]; show W _ _ _ _ _ _ _ _ _ _ _ _ _ _ _ (F0 m 13 ls (.ref (ad (100 + 5 * q)) :: []))
  refine lv_astore_n (lv' := [(3, .ref (ad (100 + 5 * q))), (0, .ref (ad 0)), (1, .int (nI q)), (2, .int x1)]) hx hb dX9_look_13 rfl hl (by decide) rfl (fun ls hl => ?_)
  refine lv_iload_n hx hb dX9_look_14 rfl (lv_at hl 3 rfl) ?_
  refine lv_tableOut (tgt := 80) hx hb dX9_look_15 (hout) (by decide) ?_
  exact t_sN hx hb hst hown hts hI (k := 11) (is := 191) rfl tk_N ti_N (by rw [hml]; exact hl.1) dX9_look_80 dX9_look_83 dX9_look_84 dX9_look_86 dX9_look_89 hnt (Nat.le_of_ble_eq_true rfl) (Nat.le_of_ble_eq_true rfl) (Nat.le_of_ble_eq_true rfl) (Nat.le_of_ble_eq_true rfl) hlocks (Nat.le_of_ble_eq_true rfl) (Nat.le_of_ble_eq_true rfl)

/-- X9_ended -/
abbrev rm_c_X9_ended_b : Room := { frames := 6, cells := 1, slots := 6, locals := 90 }
set_option maxHeartbeats 4000000 in
set_option maxRecDepth 100000 in
theorem c_X9_ended_b (l : Launch) (hst : l.stackTraces = false) (G : GG) (z : Nat) (ad : Nat → Nat) (M : Mem) {n : Nat} {kd : Nat → Nat} {fm : Nat → Int32} {to : Nat → Int32} {sz : Nat → Nat} {rl : Nat → Nat → Nat} {en : Nat → Nat → Nat} {qa : Nat} {qs : Nat} {fw : Int32} {q : Nat} {x1 : Int32} {x2 : Int32} (hL : LSm G ad M n kd fm to sz rl en) (h0 : M 0 = some (cStore ad qa qs fw)) (hw : LSw n kd sz rl en) (hq : q < n) (hbad : x1 < 0 ∨ ¬ x1 < nI (sz q)) : vx_Met l yX9_ended wsX9_ended rm_c_X9_ended_b (Pr G z ad M [.ref (ad 0), .int (nI q), .int x1, .int x2]) (fun _ _ _ _ => False) (xT G z ad M "java/util/NoSuchElementException") 1 6 (fr z) := by
  refine vx_ofW (cc := cX9_ended) (maxL := 5) (ret := (some .int)) (by decide) rfl ?_
  intro p e s m args below meth c s₁ B hml hnt hv
  obtain ⟨rfl, hv⟩ := hv
  have hI := Iv.entry hv
  have hx := B.exec
  have hb := B.bytes
  have hr := B.returns
  have hts := atoms_spec (ws := wsX9_ended) B.pre
  have hown : s.vm.findClass RX9 = some m.cls := findClass_of_methodNamed B.named
  have hlocks := B.notSynchronized
  have i_RX9 : ∀ w ∈ u_ws RX9 TX9 10, w ∈ wsX9_ended := fun w h => List.mem_cons_of_mem _ (iu_X9 w h)
  have f_40 := hts _ (List.mem_cons_of_mem _ (lwg_of t_243 rfl))
  have i_RX2 : ∀ w ∈ u_ws RX2 TX2 4, w ∈ wsX9_ended := fun w h => List.mem_cons_of_mem _ (iu_X2 w h)
  have tk_N := hts _ (List.mem_cons_of_mem _ (lwg_of t_872 rfl))
  have ti_N := hts _ (List.mem_cons_of_mem _ (lwg_of t_27 rfl))
  have hl := lv_entry ([.ref (ad 0), .int (nI q), .int x1, .int x2]) (n := 5) (Nat.le_of_ble_eq_true rfl)
  rw [lg_entry_eq]
  generalize (lg_sl ([.ref (ad 0), .int (nI q), .int x1, .int x2]) ++ List.replicate (5 - (lg_sl ([.ref (ad 0), .int (nI q), .int x1, .int x2])).length) Slot.unset).toArray = ls at hl ⊢
  have hl : lv_has ls 5 [(0, .ref (ad 0)), (1, .int (nI q)), (2, .int x1), (3, .int x2)] := hl
  have h16 := hL.1
  obtain ⟨mcn, ed, h17, hed⟩ := id hL.2.1
  have hw1 := hw.1
  obtain ⟨hk6, hs6, hje⟩ := hw.2 q hq
  refine lv_aload_n hx hb dX9_ended_0 rfl (lv_at hl 0 rfl) ?_
  refine lv_iload_n hx hb dX9_ended_1 rfl (lv_at hl 1 rfl) ?_
  refine k_Nv (va_runV (As := [.int (nI q)]) (rest := []) ⟨hx, hb, hml, hown, hts⟩ (c_X9_checkLine l G z ad M (n := n) (kd := kd) (fm := fm) (to := to) (sz := sz) (rl := rl) (en := en) (qa := qa) (qs := qs) (fw := fw) (t := q) hL h0 hq hw1) (cwV 1 hts (gV (lwg_of t_603 rfl) (lwg_of t_605 rfl) (lwg_of ts_7 rfl) (lwg_of t_1 rfl) (lwg_of t_606 rfl)) rfl rfl rfl (by decide +kernel) ⟨Nat.le_of_ble_eq_true rfl, Nat.le_of_ble_eq_true rfl⟩) (hI.preV h0 rfl) rfl rfl hl.1 rfl (lv_room (Nat.le_of_ble_eq_true rfl)) dX9_ended_2 ⟨Nat.le_of_ble_eq_true rfl, Nat.le_of_ble_eq_true rfl⟩) hI (fun M_3 H_4 locs_5 hp_2 hI => ?_)
  have eM_6 : M = M_3 := (funext hp_2).symm
  subst eM_6
  refine lv_aload_n hx hb dX9_ended_5 rfl (lv_at hl 0 rfl) ?_
  refine h_get (C := RX9) (T := TX9) (N := 10) hx hb hts i_RX9 hown hI h0 rfl 4 (by decide) f_40 rfl rfl dX9_ended_6 ?_
  refine lv_iload_n hx hb dX9_ended_9 rfl (lv_at hl 1 rfl) ?_
  refine k_Rq (va_runV (As := [.int (nI q)]) (rest := []) ⟨hx, hb, hml, hown, hts⟩ (c_X3_get l G z ad M (n := n) (kd := kd) (fm := fm) (to := to) (sz := sz) (rl := rl) (en := en) (i := q) hL hq hw1) (cwV 1 hts (gV (lwg_of t_863 rfl) (lwg_of t_333 rfl) (lwg_of t_334 rfl) (lwg_of t_6 rfl) (lwg_of t_335 rfl)) rfl rfl rfl (by decide +kernel) ⟨Nat.le_of_ble_eq_true rfl, Nat.le_of_ble_eq_true rfl⟩) (hI.preV h16 rfl) rfl rfl hl.1 rfl (lv_room (Nat.le_of_ble_eq_true rfl)) dX9_ended_10 ⟨Nat.le_of_ble_eq_true rfl, Nat.le_of_ble_eq_true rfl⟩) (fun _ h => h) (fun r_7 hp_8 => ?_)
  rw [hp_8]; show W _ _ _ _ _ _ _ _ _ _ _ _ _ _ _ (F0 m 13 ls (.ref (ad (100 + 5 * q)) :: []))
  refine h_getN (C := RX2) (T := TX2) (N := 4) hx hb hts i_RX2 hown hI (hL.2.2 q (by omega)).1 rfl 3 (by decide) (nwf_at (i := 3) (q := ("LineStore", 183, "LineStore$Line", "ends", "LLineStore$Ends;", "LineStore")) hI rfl) rfl rfl dX9_ended_13 ?_
  refine lv_astore (lv' := [(4, .ref (ad (100 + 5 * q + 1))), (0, .ref (ad 0)), (1, .int (nI q)), (2, .int x1), (3, .int x2)]) hx hb dX9_ended_16 hl (by decide) rfl (fun ls hl => ?_)
  refine lv_iload_n hx hb dX9_ended_18 rfl (lv_at hl 3 rfl) ?_
  refine lv_if_lt (tgt := 31) hx hb dX9_ended_19 (by decide) (fun c_9 => ?_) (fun c_9 => ?_)
  · -- 19: x1 lt
    exact t_sN hx hb hst hown hts hI (k := 12) (is := 194) rfl tk_N ti_N (by rw [hml]; exact hl.1) dX9_ended_31 dX9_ended_34 dX9_ended_35 dX9_ended_37 dX9_ended_40 hnt (Nat.le_of_ble_eq_true rfl) (Nat.le_of_ble_eq_true rfl) (Nat.le_of_ble_eq_true rfl) (Nat.le_of_ble_eq_true rfl) hlocks (Nat.le_of_ble_eq_true rfl) (Nat.le_of_ble_eq_true rfl)
  · -- 19: x1 ge
    refine lv_iload_n hx hb dX9_ended_22 rfl (lv_at hl 3 rfl) ?_
    refine lv_aload hx hb dX9_ended_23 (lv_at hl 0 rfl) ?_
    refine k_Ri (va_runV (As := []) (rest := [.int x1]) ⟨hx, hb, hml, hown, hts⟩ (c_X0_size l G z ad M (k := 100 + 5 * q + 1) (sz := sz q) (hL.2.2 q (by omega)).2.1) (cwV 0 hts (gV (lwg_of t_450 rfl) (lwg_of t_451 rfl) (lwg_of t_452 rfl) (lwg_of t_5 rfl) (lwg_of t_453 rfl)) rfl rfl rfl (by decide +kernel) ⟨Nat.le_of_ble_eq_true rfl, Nat.le_of_ble_eq_true rfl⟩) (hI.preV (hL.2.2 q (by omega)).2.1 rfl) rfl rfl hl.1 rfl (lv_room (Nat.le_of_ble_eq_true rfl)) dX9_ended_25 ⟨Nat.le_of_ble_eq_true rfl, Nat.le_of_ble_eq_true rfl⟩) (fun _ h => h) (fun r_10 hp_11 => ?_)
    rw [hp_11]
    refine lv_icmp_lt (tgt := 41) hx hb dX9_ended_28 (by decide) (fun c_12 => ?_) (fun c_12 => ?_)
    · -- 28: x1 lt
      rcases hbad with h9 | h9 <;> contradiction
    · -- 28: x1 ge
      exact t_sN hx hb hst hown hts hI (k := 12) (is := 194) rfl tk_N ti_N (by rw [hml]; exact hl.1) dX9_ended_31 dX9_ended_34 dX9_ended_35 dX9_ended_37 dX9_ended_40 hnt (Nat.le_of_ble_eq_true rfl) (Nat.le_of_ble_eq_true rfl) (Nat.le_of_ble_eq_true rfl) (Nat.le_of_ble_eq_true rfl) hlocks (Nat.le_of_ble_eq_true rfl) (Nat.le_of_ble_eq_true rfl)

/-- X9_ended -/
abbrev rm_c_X9_ended_c : Room := { frames := 6, cells := 1, slots := 6, locals := 90 }
set_option maxHeartbeats 4000000 in
set_option maxRecDepth 100000 in
theorem c_X9_ended_c (l : Launch) (hst : l.stackTraces = false) (G : GG) (z : Nat) (ad : Nat → Nat) (M : Mem) {n : Nat} {kd : Nat → Nat} {fm : Nat → Int32} {to : Nat → Int32} {sz : Nat → Nat} {rl : Nat → Nat → Nat} {en : Nat → Nat → Nat} {qa : Nat} {qs : Nat} {fw : Int32} {q : Nat} {i : Nat} {x2 : Int32} (hL : LSm G ad M n kd fm to sz rl en) (h0 : M 0 = some (cStore ad qa qs fw)) (hw : LSw n kd sz rl en) (hq : q < n) (hi : i < sz q) (hout : x2.toInt < 0 ∨ 2 < x2.toInt) : vx_Met l yX9_ended wsX9_ended rm_c_X9_ended_c (Pr G z ad M [.ref (ad 0), .int (nI q), .int (nI i), .int x2]) (fun _ _ _ _ => False) (xT G z ad M "java/util/NoSuchElementException") 1 6 (fr z) := by
  refine vx_ofW (cc := cX9_ended) (maxL := 5) (ret := (some .int)) (by decide) rfl ?_
  intro p e s m args below meth c s₁ B hml hnt hv
  obtain ⟨rfl, hv⟩ := hv
  have hI := Iv.entry hv
  have hx := B.exec
  have hb := B.bytes
  have hr := B.returns
  have hts := atoms_spec (ws := wsX9_ended) B.pre
  have hown : s.vm.findClass RX9 = some m.cls := findClass_of_methodNamed B.named
  have hlocks := B.notSynchronized
  have i_RX9 : ∀ w ∈ u_ws RX9 TX9 10, w ∈ wsX9_ended := fun w h => List.mem_cons_of_mem _ (iu_X9 w h)
  have f_40 := hts _ (List.mem_cons_of_mem _ (lwg_of t_243 rfl))
  have i_RX2 : ∀ w ∈ u_ws RX2 TX2 4, w ∈ wsX9_ended := fun w h => List.mem_cons_of_mem _ (iu_X2 w h)
  have tk_N := hts _ (List.mem_cons_of_mem _ (lwg_of t_872 rfl))
  have ti_N := hts _ (List.mem_cons_of_mem _ (lwg_of t_27 rfl))
  have hl := lv_entry ([.ref (ad 0), .int (nI q), .int (nI i), .int x2]) (n := 5) (Nat.le_of_ble_eq_true rfl)
  rw [lg_entry_eq]
  generalize (lg_sl ([.ref (ad 0), .int (nI q), .int (nI i), .int x2]) ++ List.replicate (5 - (lg_sl ([.ref (ad 0), .int (nI q), .int (nI i), .int x2])).length) Slot.unset).toArray = ls at hl ⊢
  have hl : lv_has ls 5 [(0, .ref (ad 0)), (1, .int (nI q)), (2, .int (nI i)), (3, .int x2)] := hl
  have h16 := hL.1
  obtain ⟨mcn, ed, h17, hed⟩ := id hL.2.1
  have hw1 := hw.1
  obtain ⟨hk6, hs6, hje⟩ := hw.2 q hq
  refine lv_aload_n hx hb dX9_ended_0 rfl (lv_at hl 0 rfl) ?_
  refine lv_iload_n hx hb dX9_ended_1 rfl (lv_at hl 1 rfl) ?_
  refine k_Nv (va_runV (As := [.int (nI q)]) (rest := []) ⟨hx, hb, hml, hown, hts⟩ (c_X9_checkLine l G z ad M (n := n) (kd := kd) (fm := fm) (to := to) (sz := sz) (rl := rl) (en := en) (qa := qa) (qs := qs) (fw := fw) (t := q) hL h0 hq hw1) (cwV 1 hts (gV (lwg_of t_603 rfl) (lwg_of t_605 rfl) (lwg_of ts_7 rfl) (lwg_of t_1 rfl) (lwg_of t_606 rfl)) rfl rfl rfl (by decide +kernel) ⟨Nat.le_of_ble_eq_true rfl, Nat.le_of_ble_eq_true rfl⟩) (hI.preV h0 rfl) rfl rfl hl.1 rfl (lv_room (Nat.le_of_ble_eq_true rfl)) dX9_ended_2 ⟨Nat.le_of_ble_eq_true rfl, Nat.le_of_ble_eq_true rfl⟩) hI (fun M_3 H_4 locs_5 hp_2 hI => ?_)
  have eM_6 : M = M_3 := (funext hp_2).symm
  subst eM_6
  refine lv_aload_n hx hb dX9_ended_5 rfl (lv_at hl 0 rfl) ?_
  refine h_get (C := RX9) (T := TX9) (N := 10) hx hb hts i_RX9 hown hI h0 rfl 4 (by decide) f_40 rfl rfl dX9_ended_6 ?_
  refine lv_iload_n hx hb dX9_ended_9 rfl (lv_at hl 1 rfl) ?_
  refine k_Rq (va_runV (As := [.int (nI q)]) (rest := []) ⟨hx, hb, hml, hown, hts⟩ (c_X3_get l G z ad M (n := n) (kd := kd) (fm := fm) (to := to) (sz := sz) (rl := rl) (en := en) (i := q) hL hq hw1) (cwV 1 hts (gV (lwg_of t_863 rfl) (lwg_of t_333 rfl) (lwg_of t_334 rfl) (lwg_of t_6 rfl) (lwg_of t_335 rfl)) rfl rfl rfl (by decide +kernel) ⟨Nat.le_of_ble_eq_true rfl, Nat.le_of_ble_eq_true rfl⟩) (hI.preV h16 rfl) rfl rfl hl.1 rfl (lv_room (Nat.le_of_ble_eq_true rfl)) dX9_ended_10 ⟨Nat.le_of_ble_eq_true rfl, Nat.le_of_ble_eq_true rfl⟩) (fun _ h => h) (fun r_7 hp_8 => ?_)
  rw [hp_8]; show W _ _ _ _ _ _ _ _ _ _ _ _ _ _ _ (F0 m 13 ls (.ref (ad (100 + 5 * q)) :: []))
  refine h_getN (C := RX2) (T := TX2) (N := 4) hx hb hts i_RX2 hown hI (hL.2.2 q (by omega)).1 rfl 3 (by decide) (nwf_at (i := 3) (q := ("LineStore", 183, "LineStore$Line", "ends", "LLineStore$Ends;", "LineStore")) hI rfl) rfl rfl dX9_ended_13 ?_
  refine lv_astore (lv' := [(4, .ref (ad (100 + 5 * q + 1))), (0, .ref (ad 0)), (1, .int (nI q)), (2, .int (nI i)), (3, .int x2)]) hx hb dX9_ended_16 hl (by decide) rfl (fun ls hl => ?_)
  refine lv_iload_n hx hb dX9_ended_18 rfl (lv_at hl 3 rfl) ?_
  refine lv_if_lt (tgt := 31) hx hb dX9_ended_19 (by decide) (fun c_9 => ?_) (fun c_9 => ?_)
  · -- 19: nI i lt
    have c_9 : i < 0 := (nI_ltI (a := i) (b := 0) (by omega) (by omega)).mp (c_9)
    omega
  · -- 19: nI i ge
    have c_9 : 0 ≤ i := by have h := mt (nI_ltI (a := i) (b := 0) (by omega) (by omega)).mpr c_9; omega
    refine lv_iload_n hx hb dX9_ended_22 rfl (lv_at hl 3 rfl) ?_
    refine lv_aload hx hb dX9_ended_23 (lv_at hl 0 rfl) ?_
    refine k_Ri (va_runV (As := []) (rest := [.int (nI i)]) ⟨hx, hb, hml, hown, hts⟩ (c_X0_size l G z ad M (k := 100 + 5 * q + 1) (sz := sz q) (hL.2.2 q (by omega)).2.1) (cwV 0 hts (gV (lwg_of t_450 rfl) (lwg_of t_451 rfl) (lwg_of t_452 rfl) (lwg_of t_5 rfl) (lwg_of t_453 rfl)) rfl rfl rfl (by decide +kernel) ⟨Nat.le_of_ble_eq_true rfl, Nat.le_of_ble_eq_true rfl⟩) (hI.preV (hL.2.2 q (by omega)).2.1 rfl) rfl rfl hl.1 rfl (lv_room (Nat.le_of_ble_eq_true rfl)) dX9_ended_25 ⟨Nat.le_of_ble_eq_true rfl, Nat.le_of_ble_eq_true rfl⟩) (fun _ h => h) (fun r_10 hp_11 => ?_)
    rw [hp_11]
    refine lv_icmp_lt (tgt := 41) hx hb dX9_ended_28 (by decide) (fun c_12 => ?_) (fun c_12 => ?_)
    · -- 28: nI i lt
      have c_12 : i < (sz q) := (nI_ltI (a := i) (b := (sz q)) (by omega) (by omega)).mp (c_12)
      refine lv_iload_n hx hb dX9_ended_41 rfl (lv_at hl 4 rfl) ?_
      refine lv_tableOut (tgt := 89) hx hb dX9_ended_42 (hout) (by decide) ?_
      exact t_sN hx hb hst hown hts hI (k := 13) (is := 205) rfl tk_N ti_N (by rw [hml]; exact hl.1) dX9_ended_89 dX9_ended_92 dX9_ended_93 dX9_ended_95 dX9_ended_98 hnt (Nat.le_of_ble_eq_true rfl) (Nat.le_of_ble_eq_true rfl) (Nat.le_of_ble_eq_true rfl) (Nat.le_of_ble_eq_true rfl) hlocks (Nat.le_of_ble_eq_true rfl) (Nat.le_of_ble_eq_true rfl)
    · -- 28: nI i ge
      have c_12 : (sz q) ≤ i := by have h := mt (nI_ltI (a := i) (b := (sz q)) (by omega) (by omega)).mpr c_12; omega
      omega
