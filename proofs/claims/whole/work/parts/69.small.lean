/-! the law's own small methods: a call, and what it throws as a number -/
theorem mt_ofWH {l : Launch} {y : MethodName} {ws ws' : List Cond} {rm : Room} {Pc : Array Value → State → Prop} {Qc : Array Value → State → Outcome → State → Prop} {mc ms : Nat} {free : Addr → Prop} {cc : ByteArray} {maxL : Nat} {ret : Option FieldType} {hh : List (Nat × Nat × Nat × Nat)}
    (hy : plainName y.cls = true) (hw : ws = Cond.codeWith y cc maxL ret hh :: ws')
    (body : ∀ p e s m args below meth c s₁, BodyLoose p l y (headSpec ws rm) cc maxL ret e s m args below meth c s₁ → c.maxLocals = maxL → Pc args s →
      W p l e (headSpec ws rm).room s m args below meth c s.heap [] 0 0 (MQ below Qc args s mc ms free) (entryFrame m args maxL)) : Met l y ws rm Pc Qc mc ms free := by
  refine MetFree.of_bodyS (code := cc) (maxLocals := maxL) (ret := ret) hy ?_ ?_
  · intro args s m h hn
    obtain ⟨m9, meth, c, hn9, h1, h2, h3, h4, -, h5, h6, -⟩ := Cond.codeWith_spec (atoms_spec (ws := ws) h _ (by rw [hw]; exact List.mem_cons_self))
    cases hn.symm.trans hn9
    exact ⟨meth, c, h1, h2, h3, h4, h5, h6⟩
  · intro p e s m args below meth c s₁ B hml hP _
    have hh0 : s₁.heap = s.heap := by rw [B.state]; rfl
    obtain ⟨t, a1, o, b1, b2, b3⟩ := body p e s m args below meth c s₁ B hml hP s₁ hh0 (Stand.of_body B)
    exact ⟨t, o, a1, b1, b2, ⟨b3.1, b3.2⟩⟩
theorem gSW {cx : Cond} {own : String} {idx : Nat} {y : MethodName} {c : ByteArray} {n : Nat} {r : Option FieldType} {hh : List (Nat × Nat × Nat × Nat)} (h1 : Cond.methodLink own idx y ∈ lwg) (h2 : Cond.static y ∈ lwg) (h4 : Cond.initialized y.cls ∈ lwg) (h5 : Cond.codeWith y c n r hh ∈ lwg) : GoodIn (cx :: lwg) (va_wsS own idx y (Cond.codeWith y c n r hh :: lwg)) := by
  refine goodIn_app (gU_l ?_) (gU_l ?_)
  · intro w hw
    simp only [List.mem_cons, List.not_mem_nil, or_false] at hw
    rcases hw with rfl | rfl | rfl <;> assumption
  · intro w hw
    rcases List.mem_cons.mp hw with rfl | h
    · exact h5
    · exact h
/-- a truth as a long -/
def bL (b : Bool) : Int64 := if b then 1 else 0

def wsL_ends : List Cond := .codeWith yL_ends cL_ends 6 (some .int) [(0, 9, 12, 13), (0, 9, 16, 15)] :: lwg
def wsL_alone : List Cond := .codeWith yL_alone cL_alone 5 (some .int) [(0, 7, 10, 13), (0, 7, 14, 15)] :: lwg
def wsL_holds : List Cond := .codeWith yL_holds cL_holds 5 (some .int) [(0, 17, 20, 13)] :: lwg
def wsL_draft : List Cond := .codeWith yL_draft cL_draft 6 (some .int) [(0, 12, 15, 13)] :: lwg
def wsL_put : List Cond := .codeWith yL_put cL_put 6 (some .int) [(0, 12, 15, 13), (0, 12, 19, 15), (0, 12, 23, 33)] :: lwg
def wsL_strike : List Cond := .codeWith yL_strike cL_strike 5 (some .int) [(0, 10, 13, 13)] :: lwg
def wsL_one : List Cond := .codeWith yL_one cL_one 5 (some .int) [(0, 17, 20, 13)] :: lwg
def wsL_as : List Cond := .codeWith yL_as cL_as 4 (some .int) [(0, 9, 12, 13)] :: lwg
def wsL_look : List Cond := .codeWith yL_look cL_look 5 (some .int) [(0, 10, 13, 13), (0, 10, 17, 50)] :: lwg
def wsL_ended : List Cond := .codeWith yL_ended cL_ended 6 (some .int) [(0, 12, 15, 13), (0, 12, 19, 50)] :: lwg
def wsL_question : List Cond := .codeWith yL_question cL_question 3 (some .int) [(0, 8, 11, 15)] :: lwg
def wsL_ways : List Cond := .codeWith yL_ways cL_ways 7 (some .int) [(0, 14, 17, 13)] :: lwg
def wsL_degree : List Cond := .codeWith yL_degree cL_degree 7 (some .int) [(0, 14, 17, 13)] :: lwg

/-- L_ends -/
abbrev rm_c_L_ends : Room := { frames := 2, cells := 0, slots := 0, locals := 48 }
set_option maxHeartbeats 4000000 in
set_option maxRecDepth 100000 in
theorem c_L_ends (l : Launch) (hst : l.stackTraces = false) (G : GG) (z : Nat) (ad : Nat → Nat) (M : Mem) {qa : Nat} {qs : Nat} {fw : Int32} {le : Nat → Nat} {mo : Nat → Nat} {kd : Nat} {x : Nat} {a : Nat} {b : Nat} (h0 : M 0 = some (cStore ad qa qs fw)) (h3 : M 3 = some (cLaws ad )) (h4 : M 4 = some (aI G 36 (nF le))) (h5 : M 5 = some (aI G 36 (nF mo))) (hkd : kd < 6) (hx6 : x < 6) (hab : a ≤ b ∧ b ≤ 6) : Met l yL_ends wsL_ends rm_c_L_ends (Pr G z ad M [.ref (ad 0), .int (nI kd), .int (nI x), .int (nI a), .int (nI b)]) (Ni G z ad (fun (r : Int32) (M' : Mem) => r = nI 0 ∧ M' 4 = some (aI G 36 (nF (va_up le (kd * 6 + x) a))) ∧ M' 5 = some (aI G 36 (nF (va_up mo (kd * 6 + x) b))) ∧ (∀ j : Nat, j ≠ 4 → j ≠ 5 → M' j = M j))) 0 0 (fr z) := by
  refine mt_ofWH (cc := cL_ends) (maxL := 6) (ret := (some .int)) (hh := [(0, 9, 12, 13), (0, 9, 16, 15)]) (by decide) rfl ?_
  intro p e s m args below meth c s₁ B hml hv
  obtain ⟨rfl, hv⟩ := hv
  have hI := Iv.entry hv
  have hx := B.exec
  have hb := B.bytes
  have hr := B.returns
  have hts := atoms_spec (ws := wsL_ends) B.pre
  have hown : s.vm.findClass RL = some m.cls := findClass_of_methodNamed B.named
  have hlocks := B.notSynchronized
  have htab := vx_table (x := yL_ends) B (hts _ List.mem_cons_self)
  have hl := lv_entry ([.ref (ad 0), .int (nI kd), .int (nI x), .int (nI a), .int (nI b)]) (n := 6) (Nat.le_of_ble_eq_true rfl)
  rw [lg_entry_eq]
  generalize (lg_sl ([.ref (ad 0), .int (nI kd), .int (nI x), .int (nI a), .int (nI b)]) ++ List.replicate (6 - (lg_sl ([.ref (ad 0), .int (nI kd), .int (nI x), .int (nI a), .int (nI b)])).length) Slot.unset).toArray = ls at hl ⊢
  have hl : lv_has ls 6 [(0, .ref (ad 0)), (1, .int (nI kd)), (2, .int (nI x)), (3, .int (nI a)), (4, .int (nI b))] := hl
  refine lv_aload_n hx hb dL_ends_0 rfl (lv_at hl 0 rfl) ?_
  refine lv_iload_n hx hb dL_ends_1 rfl (lv_at hl 1 rfl) ?_
  refine lv_iload_n hx hb dL_ends_2 rfl (lv_at hl 2 rfl) ?_
  refine lv_iload_n hx hb dL_ends_3 rfl (lv_at hl 3 rfl) ?_
  refine lv_iload hx hb dL_ends_4 (lv_at hl 4 rfl) ?_
  refine k_Nv (va_runV (As := [.int (nI kd), .int (nI x), .int (nI a), .int (nI b)]) (rest := []) ⟨hx, hb, hml, hown, hts⟩ (c_X9_ends l G z ad M (qa := qa) (qs := qs) (fw := fw) (le := le) (mo := mo) (kd := kd) (x := x) (a := a) (b := b) h0 h3 h4 h5 hkd hx6 hab) (cwV 4 hts (gV (lwg_of t_473 rfl) (lwg_of t_474 rfl) (lwg_of t_475 rfl) (lwg_of t_1 rfl) (lwg_of t_476 rfl)) rfl rfl rfl (by decide +kernel) ⟨Nat.le_of_ble_eq_true rfl, Nat.le_of_ble_eq_true rfl⟩) (hI.preV h0 rfl) rfl rfl hl.1 rfl (lv_room (Nat.le_of_ble_eq_true rfl)) dL_ends_6 ⟨Nat.le_of_ble_eq_true rfl, Nat.le_of_ble_eq_true rfl⟩) hI (fun M_3 H_4 locs_5 hp_2 hI => ?_)
  obtain ⟨hm_6, hm_7, hF_8⟩ := hp_2
  have hm_9 : M_3 0 = some (cStore ad qa qs fw) := by rw [hF_8 0 (by omega) (by omega)]; exact h0
  have hm_10 : M_3 3 = some (cLaws ad ) := by rw [hF_8 3 (by omega) (by omega)]; exact h3
  have hF_11 : ∀ j : Nat, j ≠ 4 → j ≠ 5 → M_3 j = M j := fun j q0 q1 => (hF_8 j q0 q1)
  refine lv_goto (tgt := 20) hx hb dL_ends_9 (by decide) ?_
  refine lv_iconst (v := nI 0) hx hb dL_ends_20 (by decide) ?_
  exact e_Ni hx hb hr rfl hlocks hI ⟨rfl, hm_6, hm_7, (fun j q0 q1 => hF_11 j q0 q1)⟩ dL_ends_21

/-- L_ends -/
abbrev rm_c_L_ends_a : Room := { frames := 8, cells := 1, slots := 6, locals := 134 }
set_option maxHeartbeats 4000000 in
set_option maxRecDepth 100000 in
theorem c_L_ends_a (l : Launch) (hst : l.stackTraces = false) (G : GG) (z : Nat) (ad : Nat → Nat) (M : Mem) {qa : Nat} {qs : Nat} {fw : Int32} {x0 : Int32} {x1 : Int32} {x2 : Int32} {x3 : Int32} (h0 : M 0 = some (cStore ad qa qs fw)) (hbad : x0 < 0 ∨ ¬ x0 < nI 6) : Met l yL_ends wsL_ends rm_c_L_ends_a (Pr G z ad M [.ref (ad 0), .int x0, .int x1, .int x2, .int x3]) (Ni G z ad (fun (r : Int32) (M' : Mem) => r = nI 1 ∧ (∀ j : Nat,  M' j = M j))) 1 6 (fr z) := by
  refine mt_ofWH (cc := cL_ends) (maxL := 6) (ret := (some .int)) (hh := [(0, 9, 12, 13), (0, 9, 16, 15)]) (by decide) rfl ?_
  intro p e s m args below meth c s₁ B hml hv
  obtain ⟨rfl, hv⟩ := hv
  have hI := Iv.entry hv
  have hx := B.exec
  have hb := B.bytes
  have hr := B.returns
  have hts := atoms_spec (ws := wsL_ends) B.pre
  have hown : s.vm.findClass RL = some m.cls := findClass_of_methodNamed B.named
  have hlocks := B.notSynchronized
  have htab := vx_table (x := yL_ends) B (hts _ List.mem_cons_self)
  have cl_13 := hts _ (List.mem_cons_of_mem _ (lwg_of t_471 rfl))
  have hl := lv_entry ([.ref (ad 0), .int x0, .int x1, .int x2, .int x3]) (n := 6) (Nat.le_of_ble_eq_true rfl)
  rw [lg_entry_eq]
  generalize (lg_sl ([.ref (ad 0), .int x0, .int x1, .int x2, .int x3]) ++ List.replicate (6 - (lg_sl ([.ref (ad 0), .int x0, .int x1, .int x2, .int x3])).length) Slot.unset).toArray = ls at hl ⊢
  have hl : lv_has ls 6 [(0, .ref (ad 0)), (1, .int x0), (2, .int x1), (3, .int x2), (4, .int x3)] := hl
  refine lv_aload_n hx hb dL_ends_0 rfl (lv_at hl 0 rfl) ?_
  refine lv_iload_n hx hb dL_ends_1 rfl (lv_at hl 1 rfl) ?_
  refine lv_iload_n hx hb dL_ends_2 rfl (lv_at hl 2 rfl) ?_
  refine lv_iload_n hx hb dL_ends_3 rfl (lv_at hl 3 rfl) ?_
  refine lv_iload hx hb dL_ends_4 (lv_at hl 4 rfl) ?_
  refine k_T (vx_runV (As := [.int x0, .int x1, .int x2, .int x3]) (rest := []) ⟨hx, hb, hml, hown, hts⟩ (c_X9_ends_a l hst G z ad M (x0 := x0) (x1 := x1) (x2 := x2) (x3 := x3) hbad) (cwV 4 hts (gV (lwg_of t_473 rfl) (lwg_of t_474 rfl) (lwg_of t_475 rfl) (lwg_of t_1 rfl) (lwg_of t_476 rfl)) rfl rfl rfl (by decide +kernel) ⟨Nat.le_of_ble_eq_true rfl, Nat.le_of_ble_eq_true rfl⟩) (hI.preV h0 rfl) rfl rfl hl.1 rfl (lv_room (Nat.le_of_ble_eq_true rfl)) dL_ends_6 ⟨Nat.le_of_ble_eq_true rfl, Nat.le_of_ble_eq_true rfl⟩) hI (fun ce q9 H_3 locs_4 hI hce hcv hcl => ?_)
  refine vx_catch (name := "java/lang/IndexOutOfBoundsException") hown [] ⟨0, 9, 12, 13⟩ [⟨0, 9, 16, 15⟩] (htab.trans rfl) (fun z9 h9 => nomatch h9) (by decide) (by decide) cl_13 (va_Nw.use rfl (hI.1.2.1.2.2 ("java/lang/IndexOutOfBoundsException", "java/lang/IndexOutOfBoundsException") (List.mem_of_getElem? (i := 1) rfl))) hce hcv hcl ?_
  refine lv_astore (lv' := [(5, .ref q9), (0, .ref (ad 0)), (1, .int x0), (2, .int x1), (3, .int x2), (4, .int x3)]) hx hb dL_ends_12 hl (by decide) rfl (fun ls hl => ?_)
  refine lv_iconst (v := nI 1) hx hb dL_ends_14 (by decide) ?_
  exact e_Ni hx hb hr rfl hlocks hI ⟨rfl, (fun j  => rfl)⟩ dL_ends_15

/-- L_ends -/
abbrev rm_c_L_ends_b : Room := { frames := 8, cells := 1, slots := 6, locals := 134 }
set_option maxHeartbeats 4000000 in
set_option maxRecDepth 100000 in
theorem c_L_ends_b (l : Launch) (hst : l.stackTraces = false) (G : GG) (z : Nat) (ad : Nat → Nat) (M : Mem) {qa : Nat} {qs : Nat} {fw : Int32} {kd : Nat} {x1 : Int32} {x2 : Int32} {x3 : Int32} (h0 : M 0 = some (cStore ad qa qs fw)) (hkd : kd < 6) (hbad : x1 < 0 ∨ ¬ x1 < nI 6) : Met l yL_ends wsL_ends rm_c_L_ends_b (Pr G z ad M [.ref (ad 0), .int (nI kd), .int x1, .int x2, .int x3]) (Ni G z ad (fun (r : Int32) (M' : Mem) => r = nI 1 ∧ (∀ j : Nat,  M' j = M j))) 1 6 (fr z) := by
  refine mt_ofWH (cc := cL_ends) (maxL := 6) (ret := (some .int)) (hh := [(0, 9, 12, 13), (0, 9, 16, 15)]) (by decide) rfl ?_
  intro p e s m args below meth c s₁ B hml hv
  obtain ⟨rfl, hv⟩ := hv
  have hI := Iv.entry hv
  have hx := B.exec
  have hb := B.bytes
  have hr := B.returns
  have hts := atoms_spec (ws := wsL_ends) B.pre
  have hown : s.vm.findClass RL = some m.cls := findClass_of_methodNamed B.named
  have hlocks := B.notSynchronized
  have htab := vx_table (x := yL_ends) B (hts _ List.mem_cons_self)
  have cl_13 := hts _ (List.mem_cons_of_mem _ (lwg_of t_471 rfl))
  have hl := lv_entry ([.ref (ad 0), .int (nI kd), .int x1, .int x2, .int x3]) (n := 6) (Nat.le_of_ble_eq_true rfl)
  rw [lg_entry_eq]
  generalize (lg_sl ([.ref (ad 0), .int (nI kd), .int x1, .int x2, .int x3]) ++ List.replicate (6 - (lg_sl ([.ref (ad 0), .int (nI kd), .int x1, .int x2, .int x3])).length) Slot.unset).toArray = ls at hl ⊢
  have hl : lv_has ls 6 [(0, .ref (ad 0)), (1, .int (nI kd)), (2, .int x1), (3, .int x2), (4, .int x3)] := hl
  refine lv_aload_n hx hb dL_ends_0 rfl (lv_at hl 0 rfl) ?_
  refine lv_iload_n hx hb dL_ends_1 rfl (lv_at hl 1 rfl) ?_
  refine lv_iload_n hx hb dL_ends_2 rfl (lv_at hl 2 rfl) ?_
  refine lv_iload_n hx hb dL_ends_3 rfl (lv_at hl 3 rfl) ?_
  refine lv_iload hx hb dL_ends_4 (lv_at hl 4 rfl) ?_
  refine k_T (vx_runV (As := [.int (nI kd), .int x1, .int x2, .int x3]) (rest := []) ⟨hx, hb, hml, hown, hts⟩ (c_X9_ends_b l hst G z ad M (kd := kd) (x1 := x1) (x2 := x2) (x3 := x3) hkd hbad) (cwV 4 hts (gV (lwg_of t_473 rfl) (lwg_of t_474 rfl) (lwg_of t_475 rfl) (lwg_of t_1 rfl) (lwg_of t_476 rfl)) rfl rfl rfl (by decide +kernel) ⟨Nat.le_of_ble_eq_true rfl, Nat.le_of_ble_eq_true rfl⟩) (hI.preV h0 rfl) rfl rfl hl.1 rfl (lv_room (Nat.le_of_ble_eq_true rfl)) dL_ends_6 ⟨Nat.le_of_ble_eq_true rfl, Nat.le_of_ble_eq_true rfl⟩) hI (fun ce q9 H_3 locs_4 hI hce hcv hcl => ?_)
  refine vx_catch (name := "java/lang/IndexOutOfBoundsException") hown [] ⟨0, 9, 12, 13⟩ [⟨0, 9, 16, 15⟩] (htab.trans rfl) (fun z9 h9 => nomatch h9) (by decide) (by decide) cl_13 (va_Nw.use rfl (hI.1.2.1.2.2 ("java/lang/IndexOutOfBoundsException", "java/lang/IndexOutOfBoundsException") (List.mem_of_getElem? (i := 1) rfl))) hce hcv hcl ?_
  refine lv_astore (lv' := [(5, .ref q9), (0, .ref (ad 0)), (1, .int (nI kd)), (2, .int x1), (3, .int x2), (4, .int x3)]) hx hb dL_ends_12 hl (by decide) rfl (fun ls hl => ?_)
  refine lv_iconst (v := nI 1) hx hb dL_ends_14 (by decide) ?_
  exact e_Ni hx hb hr rfl hlocks hI ⟨rfl, (fun j  => rfl)⟩ dL_ends_15

/-- L_ends -/
abbrev rm_c_L_ends_c : Room := { frames := 7, cells := 1, slots := 6, locals := 114 }
set_option maxHeartbeats 4000000 in
set_option maxRecDepth 100000 in
theorem c_L_ends_c (l : Launch) (hst : l.stackTraces = false) (G : GG) (z : Nat) (ad : Nat → Nat) (M : Mem) {qa : Nat} {qs : Nat} {fw : Int32} {kd : Nat} {ro : Nat} {x2 : Int32} {x3 : Int32} (h0 : M 0 = some (cStore ad qa qs fw)) (hkd : kd < 6) (hro : ro < 6) (hbad : x2 < 0 ∨ x3 < x2 ∨ nI 6 < x3) : Met l yL_ends wsL_ends rm_c_L_ends_c (Pr G z ad M [.ref (ad 0), .int (nI kd), .int (nI ro), .int x2, .int x3]) (Ni G z ad (fun (r : Int32) (M' : Mem) => r = nI 2 ∧ (∀ j : Nat,  M' j = M j))) 1 6 (fr z) := by
  refine mt_ofWH (cc := cL_ends) (maxL := 6) (ret := (some .int)) (hh := [(0, 9, 12, 13), (0, 9, 16, 15)]) (by decide) rfl ?_
  intro p e s m args below meth c s₁ B hml hv
  obtain ⟨rfl, hv⟩ := hv
  have hI := Iv.entry hv
  have hx := B.exec
  have hb := B.bytes
  have hr := B.returns
  have hts := atoms_spec (ws := wsL_ends) B.pre
  have hown : s.vm.findClass RL = some m.cls := findClass_of_methodNamed B.named
  have hlocks := B.notSynchronized
  have htab := vx_table (x := yL_ends) B (hts _ List.mem_cons_self)
  have cl_13 := hts _ (List.mem_cons_of_mem _ (lwg_of t_471 rfl))
  have cl_15 := hts _ (List.mem_cons_of_mem _ (lwg_of t_472 rfl))
  have hl := lv_entry ([.ref (ad 0), .int (nI kd), .int (nI ro), .int x2, .int x3]) (n := 6) (Nat.le_of_ble_eq_true rfl)
  rw [lg_entry_eq]
  generalize (lg_sl ([.ref (ad 0), .int (nI kd), .int (nI ro), .int x2, .int x3]) ++ List.replicate (6 - (lg_sl ([.ref (ad 0), .int (nI kd), .int (nI ro), .int x2, .int x3])).length) Slot.unset).toArray = ls at hl ⊢
  have hl : lv_has ls 6 [(0, .ref (ad 0)), (1, .int (nI kd)), (2, .int (nI ro)), (3, .int x2), (4, .int x3)] := hl
  refine lv_aload_n hx hb dL_ends_0 rfl (lv_at hl 0 rfl) ?_
  refine lv_iload_n hx hb dL_ends_1 rfl (lv_at hl 1 rfl) ?_
  refine lv_iload_n hx hb dL_ends_2 rfl (lv_at hl 2 rfl) ?_
  refine lv_iload_n hx hb dL_ends_3 rfl (lv_at hl 3 rfl) ?_
  refine lv_iload hx hb dL_ends_4 (lv_at hl 4 rfl) ?_
  refine k_T (vx_runV (As := [.int (nI kd), .int (nI ro), .int x2, .int x3]) (rest := []) ⟨hx, hb, hml, hown, hts⟩ (c_X9_ends_c l hst G z ad M (kd := kd) (ro := ro) (x2 := x2) (x3 := x3) hkd hro hbad) (cwV 4 hts (gV (lwg_of t_473 rfl) (lwg_of t_474 rfl) (lwg_of t_475 rfl) (lwg_of t_1 rfl) (lwg_of t_476 rfl)) rfl rfl rfl (by decide +kernel) ⟨Nat.le_of_ble_eq_true rfl, Nat.le_of_ble_eq_true rfl⟩) (hI.preV h0 rfl) rfl rfl hl.1 rfl (lv_room (Nat.le_of_ble_eq_true rfl)) dL_ends_6 ⟨Nat.le_of_ble_eq_true rfl, Nat.le_of_ble_eq_true rfl⟩) hI (fun ce q9 H_3 locs_4 hI hce hcv hcl => ?_)
  refine vx_catch (name := "java/lang/IllegalArgumentException") hown [⟨0, 9, 12, 13⟩] ⟨0, 9, 16, 15⟩ [] (htab.trans rfl) (fun z9 h9 => by rcases List.mem_singleton.mp h9 with rfl; exact Or.inr ⟨by decide, "java/lang/IndexOutOfBoundsException", cl_13, (iv_ex hI).2.1 ("java/lang/IllegalArgumentException", "java/lang/IndexOutOfBoundsException") (List.mem_of_getElem? (i := 0) rfl)⟩) (by decide) (by decide) cl_15 (va_Nw.use rfl (hI.1.2.1.2.2 ("java/lang/IllegalArgumentException", "java/lang/IllegalArgumentException") (List.mem_of_getElem? (i := 2) rfl))) hce hcv hcl ?_
  refine lv_astore (lv' := [(5, .ref q9), (0, .ref (ad 0)), (1, .int (nI kd)), (2, .int (nI ro)), (3, .int x2), (4, .int x3)]) hx hb dL_ends_16 hl (by decide) rfl (fun ls hl => ?_)
  refine lv_iconst (v := nI 2) hx hb dL_ends_18 (by decide) ?_
  exact e_Ni hx hb hr rfl hlocks hI ⟨rfl, (fun j  => rfl)⟩ dL_ends_19

/-- L_alone -/
abbrev rm_c_L_alone : Room := { frames := 2, cells := 0, slots := 0, locals := 46 }
set_option maxHeartbeats 4000000 in
set_option maxRecDepth 100000 in
theorem c_L_alone (l : Launch) (hst : l.stackTraces = false) (G : GG) (z : Nat) (ad : Nat → Nat) (M : Mem) {qa : Nat} {qs : Nat} {fw : Int32} {al : Nat → Nat} {kd : Nat} {x : Nat} {a : Nat} (h0 : M 0 = some (cStore ad qa qs fw)) (h3 : M 3 = some (cLaws ad )) (h6 : M 6 = some (aI G 36 (nF al))) (hkd : kd < 6) (hx6 : x < 6) (ha : a ≤ 100) : Met l yL_alone wsL_alone rm_c_L_alone (Pr G z ad M [.ref (ad 0), .int (nI kd), .int (nI x), .int (nI a)]) (Ni G z ad (fun (r : Int32) (M' : Mem) => r = nI 0 ∧ M' 6 = some (aI G 36 (nF (va_up al (kd * 6 + x) a))) ∧ (∀ j : Nat, j ≠ 6 → M' j = M j))) 0 0 (fr z) := by
  refine mt_ofWH (cc := cL_alone) (maxL := 5) (ret := (some .int)) (hh := [(0, 7, 10, 13), (0, 7, 14, 15)]) (by decide) rfl ?_
  intro p e s m args below meth c s₁ B hml hv
  obtain ⟨rfl, hv⟩ := hv
  have hI := Iv.entry hv
  have hx := B.exec
  have hb := B.bytes
  have hr := B.returns
  have hts := atoms_spec (ws := wsL_alone) B.pre
  have hown : s.vm.findClass RL = some m.cls := findClass_of_methodNamed B.named
  have hlocks := B.notSynchronized
  have htab := vx_table (x := yL_alone) B (hts _ List.mem_cons_self)
  have hl := lv_entry ([.ref (ad 0), .int (nI kd), .int (nI x), .int (nI a)]) (n := 5) (Nat.le_of_ble_eq_true rfl)
  rw [lg_entry_eq]
  generalize (lg_sl ([.ref (ad 0), .int (nI kd), .int (nI x), .int (nI a)]) ++ List.replicate (5 - (lg_sl ([.ref (ad 0), .int (nI kd), .int (nI x), .int (nI a)])).length) Slot.unset).toArray = ls at hl ⊢
  have hl : lv_has ls 5 [(0, .ref (ad 0)), (1, .int (nI kd)), (2, .int (nI x)), (3, .int (nI a))] := hl
  refine lv_aload_n hx hb dL_alone_0 rfl (lv_at hl 0 rfl) ?_
  refine lv_iload_n hx hb dL_alone_1 rfl (lv_at hl 1 rfl) ?_
  refine lv_iload_n hx hb dL_alone_2 rfl (lv_at hl 2 rfl) ?_
  refine lv_iload_n hx hb dL_alone_3 rfl (lv_at hl 3 rfl) ?_
  refine k_Nv (va_runV (As := [.int (nI kd), .int (nI x), .int (nI a)]) (rest := []) ⟨hx, hb, hml, hown, hts⟩ (c_X9_alone l G z ad M (qa := qa) (qs := qs) (fw := fw) (al := al) (kd := kd) (x := x) (a := a) h0 h3 h6 hkd hx6 ha) (cwV 3 hts (gV (lwg_of t_576 rfl) (lwg_of t_577 rfl) (lwg_of t_578 rfl) (lwg_of t_1 rfl) (lwg_of t_579 rfl)) rfl rfl rfl (by decide +kernel) ⟨Nat.le_of_ble_eq_true rfl, Nat.le_of_ble_eq_true rfl⟩) (hI.preV h0 rfl) rfl rfl hl.1 rfl (lv_room (Nat.le_of_ble_eq_true rfl)) dL_alone_4 ⟨Nat.le_of_ble_eq_true rfl, Nat.le_of_ble_eq_true rfl⟩) hI (fun M_3 H_4 locs_5 hp_2 hI => ?_)
  obtain ⟨hm_6, hF_7⟩ := hp_2
  have hm_8 : M_3 0 = some (cStore ad qa qs fw) := by rw [hF_7 0 (by omega)]; exact h0
  have hm_9 : M_3 3 = some (cLaws ad ) := by rw [hF_7 3 (by omega)]; exact h3
  have hF_10 : ∀ j : Nat, j ≠ 6 → M_3 j = M j := fun j q0 => (hF_7 j q0)
  refine lv_goto (tgt := 18) hx hb dL_alone_7 (by decide) ?_
  refine lv_iconst (v := nI 0) hx hb dL_alone_18 (by decide) ?_
  exact e_Ni hx hb hr rfl hlocks hI ⟨rfl, hm_6, (fun j q0 => hF_10 j q0)⟩ dL_alone_19

/-- L_alone -/
abbrev rm_c_L_alone_a : Room := { frames := 8, cells := 1, slots := 6, locals := 133 }
set_option maxHeartbeats 4000000 in
set_option maxRecDepth 100000 in
theorem c_L_alone_a (l : Launch) (hst : l.stackTraces = false) (G : GG) (z : Nat) (ad : Nat → Nat) (M : Mem) {qa : Nat} {qs : Nat} {fw : Int32} {x0 : Int32} {x1 : Int32} {x2 : Int32} (h0 : M 0 = some (cStore ad qa qs fw)) (hbad : x0 < 0 ∨ ¬ x0 < nI 6) : Met l yL_alone wsL_alone rm_c_L_alone_a (Pr G z ad M [.ref (ad 0), .int x0, .int x1, .int x2]) (Ni G z ad (fun (r : Int32) (M' : Mem) => r = nI 1 ∧ (∀ j : Nat,  M' j = M j))) 1 6 (fr z) := by
  refine mt_ofWH (cc := cL_alone) (maxL := 5) (ret := (some .int)) (hh := [(0, 7, 10, 13), (0, 7, 14, 15)]) (by decide) rfl ?_
  intro p e s m args below meth c s₁ B hml hv
  obtain ⟨rfl, hv⟩ := hv
  have hI := Iv.entry hv
  have hx := B.exec
  have hb := B.bytes
  have hr := B.returns
  have hts := atoms_spec (ws := wsL_alone) B.pre
  have hown : s.vm.findClass RL = some m.cls := findClass_of_methodNamed B.named
  have hlocks := B.notSynchronized
  have htab := vx_table (x := yL_alone) B (hts _ List.mem_cons_self)
  have cl_13 := hts _ (List.mem_cons_of_mem _ (lwg_of t_471 rfl))
  have hl := lv_entry ([.ref (ad 0), .int x0, .int x1, .int x2]) (n := 5) (Nat.le_of_ble_eq_true rfl)
  rw [lg_entry_eq]
  generalize (lg_sl ([.ref (ad 0), .int x0, .int x1, .int x2]) ++ List.replicate (5 - (lg_sl ([.ref (ad 0), .int x0, .int x1, .int x2])).length) Slot.unset).toArray = ls at hl ⊢
  have hl : lv_has ls 5 [(0, .ref (ad 0)), (1, .int x0), (2, .int x1), (3, .int x2)] := hl
  refine lv_aload_n hx hb dL_alone_0 rfl (lv_at hl 0 rfl) ?_
  refine lv_iload_n hx hb dL_alone_1 rfl (lv_at hl 1 rfl) ?_
  refine lv_iload_n hx hb dL_alone_2 rfl (lv_at hl 2 rfl) ?_
  refine lv_iload_n hx hb dL_alone_3 rfl (lv_at hl 3 rfl) ?_
  refine k_T (vx_runV (As := [.int x0, .int x1, .int x2]) (rest := []) ⟨hx, hb, hml, hown, hts⟩ (c_X9_alone_a l hst G z ad M (x0 := x0) (x1 := x1) (x2 := x2) hbad) (cwV 3 hts (gV (lwg_of t_576 rfl) (lwg_of t_577 rfl) (lwg_of t_578 rfl) (lwg_of t_1 rfl) (lwg_of t_579 rfl)) rfl rfl rfl (by decide +kernel) ⟨Nat.le_of_ble_eq_true rfl, Nat.le_of_ble_eq_true rfl⟩) (hI.preV h0 rfl) rfl rfl hl.1 rfl (lv_room (Nat.le_of_ble_eq_true rfl)) dL_alone_4 ⟨Nat.le_of_ble_eq_true rfl, Nat.le_of_ble_eq_true rfl⟩) hI (fun ce q9 H_3 locs_4 hI hce hcv hcl => ?_)
  refine vx_catch (name := "java/lang/IndexOutOfBoundsException") hown [] ⟨0, 7, 10, 13⟩ [⟨0, 7, 14, 15⟩] (htab.trans rfl) (fun z9 h9 => nomatch h9) (by decide) (by decide) cl_13 (va_Nw.use rfl (hI.1.2.1.2.2 ("java/lang/IndexOutOfBoundsException", "java/lang/IndexOutOfBoundsException") (List.mem_of_getElem? (i := 1) rfl))) hce hcv hcl ?_
  refine lv_astore (lv' := [(4, .ref q9), (0, .ref (ad 0)), (1, .int x0), (2, .int x1), (3, .int x2)]) hx hb dL_alone_10 hl (by decide) rfl (fun ls hl => ?_)
  refine lv_iconst (v := nI 1) hx hb dL_alone_12 (by decide) ?_
  exact e_Ni hx hb hr rfl hlocks hI ⟨rfl, (fun j  => rfl)⟩ dL_alone_13

/-- L_alone -/
abbrev rm_c_L_alone_b : Room := { frames := 8, cells := 1, slots := 6, locals := 133 }
set_option maxHeartbeats 4000000 in
set_option maxRecDepth 100000 in
theorem c_L_alone_b (l : Launch) (hst : l.stackTraces = false) (G : GG) (z : Nat) (ad : Nat → Nat) (M : Mem) {qa : Nat} {qs : Nat} {fw : Int32} {kd : Nat} {x1 : Int32} {x2 : Int32} (h0 : M 0 = some (cStore ad qa qs fw)) (hkd : kd < 6) (hbad : x1 < 0 ∨ ¬ x1 < nI 6) : Met l yL_alone wsL_alone rm_c_L_alone_b (Pr G z ad M [.ref (ad 0), .int (nI kd), .int x1, .int x2]) (Ni G z ad (fun (r : Int32) (M' : Mem) => r = nI 1 ∧ (∀ j : Nat,  M' j = M j))) 1 6 (fr z) := by
  refine mt_ofWH (cc := cL_alone) (maxL := 5) (ret := (some .int)) (hh := [(0, 7, 10, 13), (0, 7, 14, 15)]) (by decide) rfl ?_
  intro p e s m args below meth c s₁ B hml hv
  obtain ⟨rfl, hv⟩ := hv
  have hI := Iv.entry hv
  have hx := B.exec
  have hb := B.bytes
  have hr := B.returns
  have hts := atoms_spec (ws := wsL_alone) B.pre
  have hown : s.vm.findClass RL = some m.cls := findClass_of_methodNamed B.named
  have hlocks := B.notSynchronized
  have htab := vx_table (x := yL_alone) B (hts _ List.mem_cons_self)
  have cl_13 := hts _ (List.mem_cons_of_mem _ (lwg_of t_471 rfl))
  have hl := lv_entry ([.ref (ad 0), .int (nI kd), .int x1, .int x2]) (n := 5) (Nat.le_of_ble_eq_true rfl)
  rw [lg_entry_eq]
  generalize (lg_sl ([.ref (ad 0), .int (nI kd), .int x1, .int x2]) ++ List.replicate (5 - (lg_sl ([.ref (ad 0), .int (nI kd), .int x1, .int x2])).length) Slot.unset).toArray = ls at hl ⊢
  have hl : lv_has ls 5 [(0, .ref (ad 0)), (1, .int (nI kd)), (2, .int x1), (3, .int x2)] := hl
  refine lv_aload_n hx hb dL_alone_0 rfl (lv_at hl 0 rfl) ?_
  refine lv_iload_n hx hb dL_alone_1 rfl (lv_at hl 1 rfl) ?_
  refine lv_iload_n hx hb dL_alone_2 rfl (lv_at hl 2 rfl) ?_
  refine lv_iload_n hx hb dL_alone_3 rfl (lv_at hl 3 rfl) ?_
  refine k_T (vx_runV (As := [.int (nI kd), .int x1, .int x2]) (rest := []) ⟨hx, hb, hml, hown, hts⟩ (c_X9_alone_b l hst G z ad M (kd := kd) (x1 := x1) (x2 := x2) hkd hbad) (cwV 3 hts (gV (lwg_of t_576 rfl) (lwg_of t_577 rfl) (lwg_of t_578 rfl) (lwg_of t_1 rfl) (lwg_of t_579 rfl)) rfl rfl rfl (by decide +kernel) ⟨Nat.le_of_ble_eq_true rfl, Nat.le_of_ble_eq_true rfl⟩) (hI.preV h0 rfl) rfl rfl hl.1 rfl (lv_room (Nat.le_of_ble_eq_true rfl)) dL_alone_4 ⟨Nat.le_of_ble_eq_true rfl, Nat.le_of_ble_eq_true rfl⟩) hI (fun ce q9 H_3 locs_4 hI hce hcv hcl => ?_)
  refine vx_catch (name := "java/lang/IndexOutOfBoundsException") hown [] ⟨0, 7, 10, 13⟩ [⟨0, 7, 14, 15⟩] (htab.trans rfl) (fun z9 h9 => nomatch h9) (by decide) (by decide) cl_13 (va_Nw.use rfl (hI.1.2.1.2.2 ("java/lang/IndexOutOfBoundsException", "java/lang/IndexOutOfBoundsException") (List.mem_of_getElem? (i := 1) rfl))) hce hcv hcl ?_
  refine lv_astore (lv' := [(4, .ref q9), (0, .ref (ad 0)), (1, .int (nI kd)), (2, .int x1), (3, .int x2)]) hx hb dL_alone_10 hl (by decide) rfl (fun ls hl => ?_)
  refine lv_iconst (v := nI 1) hx hb dL_alone_12 (by decide) ?_
  exact e_Ni hx hb hr rfl hlocks hI ⟨rfl, (fun j  => rfl)⟩ dL_alone_13

/-- L_alone -/
abbrev rm_c_L_alone_c : Room := { frames := 7, cells := 1, slots := 6, locals := 113 }
set_option maxHeartbeats 4000000 in
set_option maxRecDepth 100000 in
theorem c_L_alone_c (l : Launch) (hst : l.stackTraces = false) (G : GG) (z : Nat) (ad : Nat → Nat) (M : Mem) {qa : Nat} {qs : Nat} {fw : Int32} {kd : Nat} {ro : Nat} {x2 : Int32} (h0 : M 0 = some (cStore ad qa qs fw)) (hkd : kd < 6) (hro : ro < 6) (hbad : x2 < 0 ∨ nI 100 < x2) : Met l yL_alone wsL_alone rm_c_L_alone_c (Pr G z ad M [.ref (ad 0), .int (nI kd), .int (nI ro), .int x2]) (Ni G z ad (fun (r : Int32) (M' : Mem) => r = nI 2 ∧ (∀ j : Nat,  M' j = M j))) 1 6 (fr z) := by
  refine mt_ofWH (cc := cL_alone) (maxL := 5) (ret := (some .int)) (hh := [(0, 7, 10, 13), (0, 7, 14, 15)]) (by decide) rfl ?_
  intro p e s m args below meth c s₁ B hml hv
  obtain ⟨rfl, hv⟩ := hv
  have hI := Iv.entry hv
  have hx := B.exec
  have hb := B.bytes
  have hr := B.returns
  have hts := atoms_spec (ws := wsL_alone) B.pre
  have hown : s.vm.findClass RL = some m.cls := findClass_of_methodNamed B.named
  have hlocks := B.notSynchronized
  have htab := vx_table (x := yL_alone) B (hts _ List.mem_cons_self)
  have cl_13 := hts _ (List.mem_cons_of_mem _ (lwg_of t_471 rfl))
  have cl_15 := hts _ (List.mem_cons_of_mem _ (lwg_of t_472 rfl))
  have hl := lv_entry ([.ref (ad 0), .int (nI kd), .int (nI ro), .int x2]) (n := 5) (Nat.le_of_ble_eq_true rfl)
  rw [lg_entry_eq]
  generalize (lg_sl ([.ref (ad 0), .int (nI kd), .int (nI ro), .int x2]) ++ List.replicate (5 - (lg_sl ([.ref (ad 0), .int (nI kd), .int (nI ro), .int x2])).length) Slot.unset).toArray = ls at hl ⊢
  have hl : lv_has ls 5 [(0, .ref (ad 0)), (1, .int (nI kd)), (2, .int (nI ro)), (3, .int x2)] := hl
  refine lv_aload_n hx hb dL_alone_0 rfl (lv_at hl 0 rfl) ?_
  refine lv_iload_n hx hb dL_alone_1 rfl (lv_at hl 1 rfl) ?_
  refine lv_iload_n hx hb dL_alone_2 rfl (lv_at hl 2 rfl) ?_
  refine lv_iload_n hx hb dL_alone_3 rfl (lv_at hl 3 rfl) ?_
  refine k_T (vx_runV (As := [.int (nI kd), .int (nI ro), .int x2]) (rest := []) ⟨hx, hb, hml, hown, hts⟩ (c_X9_alone_c l hst G z ad M (kd := kd) (ro := ro) (x2 := x2) hkd hro hbad) (cwV 3 hts (gV (lwg_of t_576 rfl) (lwg_of t_577 rfl) (lwg_of t_578 rfl) (lwg_of t_1 rfl) (lwg_of t_579 rfl)) rfl rfl rfl (by decide +kernel) ⟨Nat.le_of_ble_eq_true rfl, Nat.le_of_ble_eq_true rfl⟩) (hI.preV h0 rfl) rfl rfl hl.1 rfl (lv_room (Nat.le_of_ble_eq_true rfl)) dL_alone_4 ⟨Nat.le_of_ble_eq_true rfl, Nat.le_of_ble_eq_true rfl⟩) hI (fun ce q9 H_3 locs_4 hI hce hcv hcl => ?_)
  refine vx_catch (name := "java/lang/IllegalArgumentException") hown [⟨0, 7, 10, 13⟩] ⟨0, 7, 14, 15⟩ [] (htab.trans rfl) (fun z9 h9 => by rcases List.mem_singleton.mp h9 with rfl; exact Or.inr ⟨by decide, "java/lang/IndexOutOfBoundsException", cl_13, (iv_ex hI).2.1 ("java/lang/IllegalArgumentException", "java/lang/IndexOutOfBoundsException") (List.mem_of_getElem? (i := 0) rfl)⟩) (by decide) (by decide) cl_15 (va_Nw.use rfl (hI.1.2.1.2.2 ("java/lang/IllegalArgumentException", "java/lang/IllegalArgumentException") (List.mem_of_getElem? (i := 2) rfl))) hce hcv hcl ?_
  refine lv_astore (lv' := [(4, .ref q9), (0, .ref (ad 0)), (1, .int (nI kd)), (2, .int (nI ro)), (3, .int x2)]) hx hb dL_alone_14 hl (by decide) rfl (fun ls hl => ?_)
  refine lv_iconst (v := nI 2) hx hb dL_alone_16 (by decide) ?_
  exact e_Ni hx hb hr rfl hlocks hI ⟨rfl, (fun j  => rfl)⟩ dL_alone_17

/-- L_holds -/
abbrev rm_c_L_holds : Room := { frames := 2, cells := 0, slots := 0, locals := 45 }
set_option maxHeartbeats 4000000 in
set_option maxRecDepth 100000 in
theorem c_L_holds (l : Launch) (hst : l.stackTraces = false) (G : GG) (z : Nat) (ad : Nat → Nat) (M : Mem) {qa : Nat} {qs : Nat} {fw : Int32} {ho : Nat → Bool} {kd : Nat} {b : Bool} {of : Nat → Int64} (h0 : M 0 = some (cStore ad qa qs fw)) (h3 : M 3 = some (cLaws ad )) (h7 : M 7 = some (aZ G 6 (bF ho))) (h99 : M 99 = some (aJ G 1 of)) (hkd : kd < 6) : Met l yL_holds wsL_holds rm_c_L_holds (Pr G z ad M [.ref (ad 0), .int (nI kd), .int (bI b), .ref (ad 99)]) (Ni G z ad (fun (r : Int32) (M' : Mem) => r = nI 0 ∧ M' 7 = some (aZ G 6 (bF (va_up ho kd b))) ∧ M' 99 = some (aJ G 1 (vp_updL of 0 (bL (decide (ho kd ≠ b))))) ∧ (∀ j : Nat, j ≠ 7 → j ≠ 99 → M' j = M j))) 0 0 (fr z) := by
  refine mt_ofWH (cc := cL_holds) (maxL := 5) (ret := (some .int)) (hh := [(0, 17, 20, 13)]) (by decide) rfl ?_
  intro p e s m args below meth c s₁ B hml hv
  obtain ⟨rfl, hv⟩ := hv
  have hI := Iv.entry hv
  have hx := B.exec
  have hb := B.bytes
  have hr := B.returns
  have hts := atoms_spec (ws := wsL_holds) B.pre
  have hown : s.vm.findClass RL = some m.cls := findClass_of_methodNamed B.named
  have hlocks := B.notSynchronized
  have htab := vx_table (x := yL_holds) B (hts _ List.mem_cons_self)
  have hl := lv_entry ([.ref (ad 0), .int (nI kd), .int (bI b), .ref (ad 99)]) (n := 5) (Nat.le_of_ble_eq_true rfl)
  rw [lg_entry_eq]
  generalize (lg_sl ([.ref (ad 0), .int (nI kd), .int (bI b), .ref (ad 99)]) ++ List.replicate (5 - (lg_sl ([.ref (ad 0), .int (nI kd), .int (bI b), .ref (ad 99)])).length) Slot.unset).toArray = ls at hl ⊢
  have hl : lv_has ls 5 [(0, .ref (ad 0)), (1, .int (nI kd)), (2, .int (bI b)), (3, .ref (ad 99))] := hl
  refine lv_aload_n hx hb dL_holds_0 rfl (lv_at hl 3 rfl) ?_
  refine lv_iconst (v := nI 0) hx hb dL_holds_1 (by decide) ?_
  refine lv_aload_n hx hb dL_holds_2 rfl (lv_at hl 0 rfl) ?_
  refine lv_iload_n hx hb dL_holds_3 rfl (lv_at hl 1 rfl) ?_
  refine lv_iload_n hx hb dL_holds_4 rfl (lv_at hl 2 rfl) ?_
  refine k_Ni (va_runV (As := [.int (nI kd), .int (bI b)]) (rest := [.int (nI 0), .ref (ad 99)]) ⟨hx, hb, hml, hown, hts⟩ (c_X9_holds l G z ad M (qa := qa) (qs := qs) (fw := fw) (ho := ho) (kd := kd) (b := b) h0 h3 h7 hkd) (cwV 2 hts (gV (lwg_of t_588 rfl) (lwg_of t_589 rfl) (lwg_of t_590 rfl) (lwg_of t_1 rfl) (lwg_of t_591 rfl)) rfl rfl rfl (by decide +kernel) ⟨Nat.le_of_ble_eq_true rfl, Nat.le_of_ble_eq_true rfl⟩) (hI.preV h0 rfl) rfl rfl hl.1 rfl (lv_room (Nat.le_of_ble_eq_true rfl)) dL_holds_5 ⟨Nat.le_of_ble_eq_true rfl, Nat.le_of_ble_eq_true rfl⟩) hI (fun r_1 M_3 H_4 locs_5 hp_2 hI => ?_)
  obtain ⟨hr_6, hm_7, hF_8⟩ := hp_2
  have hm_9 : M_3 0 = some (cStore ad qa qs fw) := by rw [hF_8 0 (by omega)]; exact h0
  have hm_10 : M_3 3 = some (cLaws ad ) := by rw [hF_8 3 (by omega)]; exact h3
  have hm_11 : M_3 99 = some (aJ G 1 of) := by rw [hF_8 99 (by omega)]; exact h99
  have hF_12 : ∀ j : Nat, j ≠ 7 → M_3 j = M j := fun j q0 => (hF_8 j q0)
  rw [hr_6]
  refine lv_if_eq (tgt := 15) hx hb dL_holds_8 (by decide) (fun c_13 => ?_) (fun c_13 => ?_)
  · -- 8: bI (decide (ho kd ≠ b)) eq
    have c_13 : decide (ho kd ≠ b) = false := bI_f (c_13)
    refine lv_lconst (v := 0) hx hb dL_holds_15 (by decide) ?_
    refine h_last (i := 0) (x := (0 : Int64)) hx hb hI hm_11 (by omega) (by decide) dL_holds_16 (fun M_14 H_15 locs_16 eM_17 hI => ?_)
    have hm_18 : M_14 0 = some (cStore ad qa qs fw) := by rw [eM_17, va_up_ne _ _ (by decide)]; exact hm_9
    have hm_19 : M_14 3 = some (cLaws ad ) := by rw [eM_17, va_up_ne _ _ (by decide)]; exact hm_10
    have hm_20 : M_14 7 = some (aZ G 6 (bF (va_up ho kd b))) := by rw [eM_17, va_up_ne _ _ (by decide)]; exact hm_7
    have hm_21 : M_14 99 = some (aJ G 1 (vp_updL of 0 (0 : Int64))) := by rw [eM_17]; exact va_up_self _ _ _
    have hF_22 : ∀ j : Nat, j ≠ 7 → j ≠ 99 → M_14 j = M j := fun j q0 q1 => by rw [eM_17, va_up_ne _ _ q1]; exact hF_12 j q0
    refine lv_goto (tgt := 24) hx hb dL_holds_17 (by decide) ?_
    refine lv_iconst (v := nI 0) hx hb dL_holds_24 (by decide) ?_
    exact e_Ni hx hb hr rfl hlocks hI ⟨rfl, hm_20, (by rw [bL, show (decide (ho kd ≠ b)) = false from by assumption]; exact hm_21), (fun j q0 q1 => hF_22 j q0 q1)⟩ dL_holds_25
  · -- 8: bI (decide (ho kd ≠ b)) ne
    have c_13 : decide (ho kd ≠ b) = true := bI_t (c_13)
    refine lv_lconst (v := 1) hx hb dL_holds_11 (by decide) ?_
    refine lv_goto (tgt := 16) hx hb dL_holds_12 (by decide) ?_
    refine h_last (i := 0) (x := (1 : Int64)) hx hb hI hm_11 (by omega) (by decide) dL_holds_16 (fun M_23 H_24 locs_25 eM_26 hI => ?_)
    have hm_27 : M_23 0 = some (cStore ad qa qs fw) := by rw [eM_26, va_up_ne _ _ (by decide)]; exact hm_9
    have hm_28 : M_23 3 = some (cLaws ad ) := by rw [eM_26, va_up_ne _ _ (by decide)]; exact hm_10
    have hm_29 : M_23 7 = some (aZ G 6 (bF (va_up ho kd b))) := by rw [eM_26, va_up_ne _ _ (by decide)]; exact hm_7
    have hm_30 : M_23 99 = some (aJ G 1 (vp_updL of 0 (1 : Int64))) := by rw [eM_26]; exact va_up_self _ _ _
    have hF_31 : ∀ j : Nat, j ≠ 7 → j ≠ 99 → M_23 j = M j := fun j q0 q1 => by rw [eM_26, va_up_ne _ _ q1]; exact hF_12 j q0
    refine lv_goto (tgt := 24) hx hb dL_holds_17 (by decide) ?_
    refine lv_iconst (v := nI 0) hx hb dL_holds_24 (by decide) ?_
    exact e_Ni hx hb hr rfl hlocks hI ⟨rfl, hm_29, (by rw [bL, show (decide (ho kd ≠ b)) = true from by assumption]; exact hm_30), (fun j q0 q1 => hF_31 j q0 q1)⟩ dL_holds_25

/-- L_holds -/
abbrev rm_c_L_holds_a : Room := { frames := 8, cells := 1, slots := 6, locals := 132 }
set_option maxHeartbeats 4000000 in
set_option maxRecDepth 100000 in
theorem c_L_holds_a (l : Launch) (hst : l.stackTraces = false) (G : GG) (z : Nat) (ad : Nat → Nat) (M : Mem) {qa : Nat} {qs : Nat} {fw : Int32} {x0 : Int32} {b : Bool} (h0 : M 0 = some (cStore ad qa qs fw)) (hbad : x0 < 0 ∨ ¬ x0 < nI 6) : Met l yL_holds wsL_holds rm_c_L_holds_a (Pr G z ad M [.ref (ad 0), .int x0, .int (bI b), .ref (ad 99)]) (Ni G z ad (fun (r : Int32) (M' : Mem) => r = nI 1 ∧ (∀ j : Nat,  M' j = M j))) 1 6 (fr z) := by
  refine mt_ofWH (cc := cL_holds) (maxL := 5) (ret := (some .int)) (hh := [(0, 17, 20, 13)]) (by decide) rfl ?_
  intro p e s m args below meth c s₁ B hml hv
  obtain ⟨rfl, hv⟩ := hv
  have hI := Iv.entry hv
  have hx := B.exec
  have hb := B.bytes
  have hr := B.returns
  have hts := atoms_spec (ws := wsL_holds) B.pre
  have hown : s.vm.findClass RL = some m.cls := findClass_of_methodNamed B.named
  have hlocks := B.notSynchronized
  have htab := vx_table (x := yL_holds) B (hts _ List.mem_cons_self)
  have cl_13 := hts _ (List.mem_cons_of_mem _ (lwg_of t_471 rfl))
  have hl := lv_entry ([.ref (ad 0), .int x0, .int (bI b), .ref (ad 99)]) (n := 5) (Nat.le_of_ble_eq_true rfl)
  rw [lg_entry_eq]
  generalize (lg_sl ([.ref (ad 0), .int x0, .int (bI b), .ref (ad 99)]) ++ List.replicate (5 - (lg_sl ([.ref (ad 0), .int x0, .int (bI b), .ref (ad 99)])).length) Slot.unset).toArray = ls at hl ⊢
  have hl : lv_has ls 5 [(0, .ref (ad 0)), (1, .int x0), (2, .int (bI b)), (3, .ref (ad 99))] := hl
  refine lv_aload_n hx hb dL_holds_0 rfl (lv_at hl 3 rfl) ?_
  refine lv_iconst (v := nI 0) hx hb dL_holds_1 (by decide) ?_
  refine lv_aload_n hx hb dL_holds_2 rfl (lv_at hl 0 rfl) ?_
  refine lv_iload_n hx hb dL_holds_3 rfl (lv_at hl 1 rfl) ?_
  refine lv_iload_n hx hb dL_holds_4 rfl (lv_at hl 2 rfl) ?_
  refine k_T (vx_runV (As := [.int x0, .int (bI b)]) (rest := [.int (nI 0), .ref (ad 99)]) ⟨hx, hb, hml, hown, hts⟩ (c_X9_holds_a l hst G z ad M (x0 := x0) (b := b) hbad) (cwV 2 hts (gV (lwg_of t_588 rfl) (lwg_of t_589 rfl) (lwg_of t_590 rfl) (lwg_of t_1 rfl) (lwg_of t_591 rfl)) rfl rfl rfl (by decide +kernel) ⟨Nat.le_of_ble_eq_true rfl, Nat.le_of_ble_eq_true rfl⟩) (hI.preV h0 rfl) rfl rfl hl.1 rfl (lv_room (Nat.le_of_ble_eq_true rfl)) dL_holds_5 ⟨Nat.le_of_ble_eq_true rfl, Nat.le_of_ble_eq_true rfl⟩) hI (fun ce q9 H_3 locs_4 hI hce hcv hcl => ?_)
  refine vx_catch (name := "java/lang/IndexOutOfBoundsException") hown [] ⟨0, 17, 20, 13⟩ [] (htab.trans rfl) (fun z9 h9 => nomatch h9) (by decide) (by decide) cl_13 (va_Nw.use rfl (hI.1.2.1.2.2 ("java/lang/IndexOutOfBoundsException", "java/lang/IndexOutOfBoundsException") (List.mem_of_getElem? (i := 1) rfl))) hce hcv hcl ?_
  refine lv_astore (lv' := [(4, .ref q9), (0, .ref (ad 0)), (1, .int x0), (2, .int (bI b)), (3, .ref (ad 99))]) hx hb dL_holds_20 hl (by decide) rfl (fun ls hl => ?_)
  refine lv_iconst (v := nI 1) hx hb dL_holds_22 (by decide) ?_
  exact e_Ni hx hb hr rfl hlocks hI ⟨rfl, (fun j  => rfl)⟩ dL_holds_23

/-- L_draft -/
abbrev rm_c_L_draft : Room := { frames := 4, cells := 0, slots := 0, locals := 84 }
set_option maxHeartbeats 4000000 in
set_option maxRecDepth 100000 in
theorem c_L_draft (l : Launch) (hst : l.stackTraces = false) (G : GG) (z : Nat) (ad : Nat → Nat) (M : Mem) {n : Nat} {kd : Nat → Nat} {fm : Nat → Int32} {to : Nat → Int32} {sz : Nat → Nat} {rl : Nat → Nat → Nat} {en : Nat → Nat → Nat} {qa : Nat} {qs : Nat} {fw : Int32} {s0 : Nat} {r0 : Nat → Nat} {th : Nat → Option Nat} {ol : Nat → Option Nat} {x : Nat} {b : Bool} {t : Nat} {of : Nat → Int64} (hL : LSm G ad M n kd fm to sz rl en) (h0 : M 0 = some (cStore ad qa qs fw)) (h12 : M 12 = some (cEnds ad 12 s0)) (h13 : M 13 = some (aI G 6 (nF r0))) (h14 : M 14 = some (aI G 6 (oF th))) (h15 : M 15 = some (aI G 6 (oF ol))) (h99 : M 99 = some (aJ G 1 of)) (hw : LSw n kd sz rl en) (hx6 : x < 6) (hbt : b = true → t < n) (hbf : b = false → t < 40) (hs0 : s0 < 6) : Met l yL_draft wsL_draft rm_c_L_draft (Pr G z ad M [.ref (ad 0), .int (nI x), .int (bI b), .int (nI t), .ref (ad 99)]) (Ni G z ad (fun (r : Int32) (M' : Mem) => r = nI 0 ∧ M' 12 = some (cEnds ad 12 (s0 + 1)) ∧ M' 13 = some (aI G 6 (nF (va_up r0 s0 x))) ∧ M' 14 = some (aI G 6 (oF (va_up th s0 (if b = true then none else some t)))) ∧ M' 15 = some (aI G 6 (oF (va_up ol s0 (if b = true then some t else none)))) ∧ M' 99 = some (aJ G 1 (vp_updL of 0 ((nI (s0 + 1)).toInt64))) ∧ (∀ j : Nat, j ≠ 12 → j ≠ 13 → j ≠ 14 → j ≠ 15 → j ≠ 99 → M' j = M j))) 0 0 (fr z) := by
  refine mt_ofWH (cc := cL_draft) (maxL := 6) (ret := (some .int)) (hh := [(0, 12, 15, 13)]) (by decide) rfl ?_
  intro p e s m args below meth c s₁ B hml hv
  obtain ⟨rfl, hv⟩ := hv
  have hI := Iv.entry hv
  have hx := B.exec
  have hb := B.bytes
  have hr := B.returns
  have hts := atoms_spec (ws := wsL_draft) B.pre
  have hown : s.vm.findClass RL = some m.cls := findClass_of_methodNamed B.named
  have hlocks := B.notSynchronized
  have htab := vx_table (x := yL_draft) B (hts _ List.mem_cons_self)
  have hl := lv_entry ([.ref (ad 0), .int (nI x), .int (bI b), .int (nI t), .ref (ad 99)]) (n := 6) (Nat.le_of_ble_eq_true rfl)
  rw [lg_entry_eq]
  generalize (lg_sl ([.ref (ad 0), .int (nI x), .int (bI b), .int (nI t), .ref (ad 99)]) ++ List.replicate (6 - (lg_sl ([.ref (ad 0), .int (nI x), .int (bI b), .int (nI t), .ref (ad 99)])).length) Slot.unset).toArray = ls at hl ⊢
  have hl : lv_has ls 6 [(0, .ref (ad 0)), (1, .int (nI x)), (2, .int (bI b)), (3, .int (nI t)), (4, .ref (ad 99))] := hl
  have h16 := hL.1
  obtain ⟨mcn, ed, h17, hed⟩ := id hL.2.1
  refine lv_aload hx hb dL_draft_0 (lv_at hl 4 rfl) ?_
  refine lv_iconst (v := nI 0) hx hb dL_draft_2 (by decide) ?_
  refine lv_aload_n hx hb dL_draft_3 rfl (lv_at hl 0 rfl) ?_
  refine lv_iload_n hx hb dL_draft_4 rfl (lv_at hl 1 rfl) ?_
  refine lv_iload_n hx hb dL_draft_5 rfl (lv_at hl 2 rfl) ?_
  refine lv_iload_n hx hb dL_draft_6 rfl (lv_at hl 3 rfl) ?_
  refine k_Ni (va_runV (As := [.int (nI x), .int (bI b), .int (nI t)]) (rest := [.int (nI 0), .ref (ad 99)]) ⟨hx, hb, hml, hown, hts⟩ (c_X9_draft l G z ad M (n := n) (kd := kd) (fm := fm) (to := to) (sz := sz) (rl := rl) (en := en) (qa := qa) (qs := qs) (fw := fw) (s0 := s0) (r0 := r0) (th := th) (ol := ol) (x := x) (b := b) (t := t) hL h0 h12 h13 h14 h15 hw hx6 hbt hbf hs0) (cwV 3 hts (gV (lwg_of t_599 rfl) (lwg_of t_600 rfl) (lwg_of t_601 rfl) (lwg_of t_1 rfl) (lwg_of t_602 rfl)) rfl rfl rfl (by decide +kernel) ⟨Nat.le_of_ble_eq_true rfl, Nat.le_of_ble_eq_true rfl⟩) (hI.preV h0 rfl) rfl rfl hl.1 rfl (lv_room (Nat.le_of_ble_eq_true rfl)) dL_draft_7 ⟨Nat.le_of_ble_eq_true rfl, Nat.le_of_ble_eq_true rfl⟩) hI (fun r_1 M_3 H_4 locs_5 hp_2 hI => ?_)
  obtain ⟨hr_6, hm_7, hm_8, hm_9, hm_10, hF_11⟩ := hp_2
  have hm_12 : M_3 0 = some (cStore ad qa qs fw) := by rw [hF_11 0 (by omega) (by omega) (by omega) (by omega)]; exact h0
  have hm_13 : M_3 99 = some (aJ G 1 of) := by rw [hF_11 99 (by omega) (by omega) (by omega) (by omega)]; exact h99
  have hm_14 : M_3 16 = some (cLines ad ) := by rw [hF_11 16 (by omega) (by omega) (by omega) (by omega)]; exact h16
  have hm_15 : M_3 17 = some (cList ad mcn ed n) := by rw [hF_11 17 (by omega) (by omega) (by omega) (by omega)]; exact h17
  have hL_16 : LSm G ad M_3 n kd fm to sz rl en := hL.keep (fun j hj => hF_11 j (by omega) (by omega) (by omega) (by omega))
  have hF_17 : ∀ j : Nat, j ≠ 12 → j ≠ 13 → j ≠ 14 → j ≠ 15 → M_3 j = M j := fun j q0 q1 q2 q3 => (hF_11 j q0 q1 q2 q3)
  rw [hr_6]
  refine lv_i2l (v := (nI (s0 + 1)).toInt64) hx hb dL_draft_10 rfl ?_
  refine h_last (i := 0) (x := (nI (s0 + 1)).toInt64) hx hb hI hm_13 (by omega) (by decide) dL_draft_11 (fun M_18 H_19 locs_20 eM_21 hI => ?_)
  have hm_22 : M_18 0 = some (cStore ad qa qs fw) := by rw [eM_21, va_up_ne _ _ (by decide)]; exact hm_12
  have hm_23 : M_18 12 = some (cEnds ad 12 (s0 + 1)) := by rw [eM_21, va_up_ne _ _ (by decide)]; exact hm_7
  have hm_24 : M_18 13 = some (aI G 6 (nF (va_up r0 s0 x))) := by rw [eM_21, va_up_ne _ _ (by decide)]; exact hm_8
  have hm_25 : M_18 14 = some (aI G 6 (oF (va_up th s0 (if b = true then none else some t)))) := by rw [eM_21, va_up_ne _ _ (by decide)]; exact hm_9
  have hm_26 : M_18 15 = some (aI G 6 (oF (va_up ol s0 (if b = true then some t else none)))) := by rw [eM_21, va_up_ne _ _ (by decide)]; exact hm_10
  have hm_27 : M_18 99 = some (aJ G 1 (vp_updL of 0 ((nI (s0 + 1)).toInt64))) := by rw [eM_21]; exact va_up_self _ _ _
  have hm_28 : M_18 16 = some (cLines ad ) := by rw [eM_21, va_up_ne _ _ (by decide)]; exact hm_14
  have hm_29 : M_18 17 = some (cList ad mcn ed n) := by rw [eM_21, va_up_ne _ _ (by decide)]; exact hm_15
  have hL_30 : LSm G ad M_18 n kd fm to sz rl en := hL_16.keep (fun j hj => by rw [eM_21, va_up_ne _ _ (by omega)])
  have hF_31 : ∀ j : Nat, j ≠ 12 → j ≠ 13 → j ≠ 14 → j ≠ 15 → j ≠ 99 → M_18 j = M j := fun j q0 q1 q2 q3 q4 => by rw [eM_21, va_up_ne _ _ q4]; exact hF_17 j q0 q1 q2 q3
  refine lv_goto (tgt := 19) hx hb dL_draft_12 (by decide) ?_
  refine lv_iconst (v := nI 0) hx hb dL_draft_19 (by decide) ?_
  exact e_Ni hx hb hr rfl hlocks hI ⟨rfl, hm_23, hm_24, hm_25, hm_26, hm_27, (fun j q0 q1 q2 q3 q4 => hF_31 j q0 q1 q2 q3 q4)⟩ dL_draft_20

/-- L_draft -/
abbrev rm_c_L_draft_full : Room := { frames := 4, cells := 0, slots := 0, locals := 84 }
set_option maxHeartbeats 4000000 in
set_option maxRecDepth 100000 in
theorem c_L_draft_full (l : Launch) (hst : l.stackTraces = false) (G : GG) (z : Nat) (ad : Nat → Nat) (M : Mem) {n : Nat} {kd : Nat → Nat} {fm : Nat → Int32} {to : Nat → Int32} {sz : Nat → Nat} {rl : Nat → Nat → Nat} {en : Nat → Nat → Nat} {qa : Nat} {qs : Nat} {fw : Int32} {s0 : Nat} {x : Nat} {b : Bool} {t : Nat} {of : Nat → Int64} (hL : LSm G ad M n kd fm to sz rl en) (h0 : M 0 = some (cStore ad qa qs fw)) (h12 : M 12 = some (cEnds ad 12 s0)) (h99 : M 99 = some (aJ G 1 of)) (hw : LSw n kd sz rl en) (hx6 : x < 6) (hbt : b = true → t < n) (hbf : b = false → t < 40) (hs0 : s0 = 6) : Met l yL_draft wsL_draft rm_c_L_draft_full (Pr G z ad M [.ref (ad 0), .int (nI x), .int (bI b), .int (nI t), .ref (ad 99)]) (Ni G z ad (fun (r : Int32) (M' : Mem) => r = nI 0 ∧ M' 99 = some (aJ G 1 (vp_updL of 0 (((-1)).toInt64))) ∧ (∀ j : Nat, j ≠ 99 → M' j = M j))) 0 0 (fr z) := by
  refine mt_ofWH (cc := cL_draft) (maxL := 6) (ret := (some .int)) (hh := [(0, 12, 15, 13)]) (by decide) rfl ?_
  intro p e s m args below meth c s₁ B hml hv
  obtain ⟨rfl, hv⟩ := hv
  have hI := Iv.entry hv
  have hx := B.exec
  have hb := B.bytes
  have hr := B.returns
  have hts := atoms_spec (ws := wsL_draft) B.pre
  have hown : s.vm.findClass RL = some m.cls := findClass_of_methodNamed B.named
  have hlocks := B.notSynchronized
  have htab := vx_table (x := yL_draft) B (hts _ List.mem_cons_self)
  have hl := lv_entry ([.ref (ad 0), .int (nI x), .int (bI b), .int (nI t), .ref (ad 99)]) (n := 6) (Nat.le_of_ble_eq_true rfl)
  rw [lg_entry_eq]
  generalize (lg_sl ([.ref (ad 0), .int (nI x), .int (bI b), .int (nI t), .ref (ad 99)]) ++ List.replicate (6 - (lg_sl ([.ref (ad 0), .int (nI x), .int (bI b), .int (nI t), .ref (ad 99)])).length) Slot.unset).toArray = ls at hl ⊢
  have hl : lv_has ls 6 [(0, .ref (ad 0)), (1, .int (nI x)), (2, .int (bI b)), (3, .int (nI t)), (4, .ref (ad 99))] := hl
  have h16 := hL.1
  obtain ⟨mcn, ed, h17, hed⟩ := id hL.2.1
  refine lv_aload hx hb dL_draft_0 (lv_at hl 4 rfl) ?_
  refine lv_iconst (v := nI 0) hx hb dL_draft_2 (by decide) ?_
  refine lv_aload_n hx hb dL_draft_3 rfl (lv_at hl 0 rfl) ?_
  refine lv_iload_n hx hb dL_draft_4 rfl (lv_at hl 1 rfl) ?_
  refine lv_iload_n hx hb dL_draft_5 rfl (lv_at hl 2 rfl) ?_
  refine lv_iload_n hx hb dL_draft_6 rfl (lv_at hl 3 rfl) ?_
  refine k_Ni (va_runV (As := [.int (nI x), .int (bI b), .int (nI t)]) (rest := [.int (nI 0), .ref (ad 99)]) ⟨hx, hb, hml, hown, hts⟩ (c_X9_draft_full l G z ad M (n := n) (kd := kd) (fm := fm) (to := to) (sz := sz) (rl := rl) (en := en) (qa := qa) (qs := qs) (fw := fw) (s0 := s0) (x := x) (b := b) (t := t) hL h0 h12 hw hx6 hbt hbf hs0) (cwV 3 hts (gV (lwg_of t_599 rfl) (lwg_of t_600 rfl) (lwg_of t_601 rfl) (lwg_of t_1 rfl) (lwg_of t_602 rfl)) rfl rfl rfl (by decide +kernel) ⟨Nat.le_of_ble_eq_true rfl, Nat.le_of_ble_eq_true rfl⟩) (hI.preV h0 rfl) rfl rfl hl.1 rfl (lv_room (Nat.le_of_ble_eq_true rfl)) dL_draft_7 ⟨Nat.le_of_ble_eq_true rfl, Nat.le_of_ble_eq_true rfl⟩) hI (fun r_1 M_3 H_4 locs_5 hp_2 hI => ?_)
  obtain ⟨hr_6, hF_7⟩ := hp_2
  have hm_8 : M_3 0 = some (cStore ad qa qs fw) := by rw [hF_7 0 ]; exact h0
  have hm_9 : M_3 12 = some (cEnds ad 12 s0) := by rw [hF_7 12 ]; exact h12
  have hm_10 : M_3 99 = some (aJ G 1 of) := by rw [hF_7 99 ]; exact h99
  have hm_11 : M_3 16 = some (cLines ad ) := by rw [hF_7 16 ]; exact h16
  have hm_12 : M_3 17 = some (cList ad mcn ed n) := by rw [hF_7 17 ]; exact h17
  have hL_13 : LSm G ad M_3 n kd fm to sz rl en := hL.keep (fun j hj => hF_7 j )
  rw [hr_6]
  refine lv_i2l (v := (-1).toInt64) hx hb dL_draft_10 rfl ?_
  refine h_last (i := 0) (x := (-1).toInt64) hx hb hI hm_10 (by omega) (by decide) dL_draft_11 (fun M_14 H_15 locs_16 eM_17 hI => ?_)
  have hm_18 : M_14 0 = some (cStore ad qa qs fw) := by rw [eM_17, va_up_ne _ _ (by decide)]; exact hm_8
  have hm_19 : M_14 12 = some (cEnds ad 12 s0) := by rw [eM_17, va_up_ne _ _ (by decide)]; exact hm_9
  have hm_20 : M_14 99 = some (aJ G 1 (vp_updL of 0 ((-1).toInt64))) := by rw [eM_17]; exact va_up_self _ _ _
  have hm_21 : M_14 16 = some (cLines ad ) := by rw [eM_17, va_up_ne _ _ (by decide)]; exact hm_11
  have hm_22 : M_14 17 = some (cList ad mcn ed n) := by rw [eM_17, va_up_ne _ _ (by decide)]; exact hm_12
  have hL_23 : LSm G ad M_14 n kd fm to sz rl en := hL_13.keep (fun j hj => by rw [eM_17, va_up_ne _ _ (by omega)])
  have hF_24 : ∀ j : Nat, j ≠ 99 → M_14 j = M j := fun j q0 => by rw [eM_17, va_up_ne _ _ q0]; exact hF_7 j 
  refine lv_goto (tgt := 19) hx hb dL_draft_12 (by decide) ?_
  refine lv_iconst (v := nI 0) hx hb dL_draft_19 (by decide) ?_
  exact e_Ni hx hb hr rfl hlocks hI ⟨rfl, hm_20, (fun j q0 => hF_24 j q0)⟩ dL_draft_20

/-- L_draft -/
abbrev rm_c_L_draft_a : Room := { frames := 8, cells := 1, slots := 6, locals := 133 }
set_option maxHeartbeats 4000000 in
set_option maxRecDepth 100000 in
theorem c_L_draft_a (l : Launch) (hst : l.stackTraces = false) (G : GG) (z : Nat) (ad : Nat → Nat) (M : Mem) {qa : Nat} {qs : Nat} {fw : Int32} {x0 : Int32} {x1 : Int32} {b : Bool} (h0 : M 0 = some (cStore ad qa qs fw)) (hbad : x0 < 0 ∨ ¬ x0 < nI 6) : Met l yL_draft wsL_draft rm_c_L_draft_a (Pr G z ad M [.ref (ad 0), .int x0, .int (bI b), .int x1, .ref (ad 99)]) (Ni G z ad (fun (r : Int32) (M' : Mem) => r = nI 1 ∧ (∀ j : Nat,  M' j = M j))) 1 6 (fr z) := by
  refine mt_ofWH (cc := cL_draft) (maxL := 6) (ret := (some .int)) (hh := [(0, 12, 15, 13)]) (by decide) rfl ?_
  intro p e s m args below meth c s₁ B hml hv
  obtain ⟨rfl, hv⟩ := hv
  have hI := Iv.entry hv
  have hx := B.exec
  have hb := B.bytes
  have hr := B.returns
  have hts := atoms_spec (ws := wsL_draft) B.pre
  have hown : s.vm.findClass RL = some m.cls := findClass_of_methodNamed B.named
  have hlocks := B.notSynchronized
  have htab := vx_table (x := yL_draft) B (hts _ List.mem_cons_self)
  have cl_13 := hts _ (List.mem_cons_of_mem _ (lwg_of t_471 rfl))
  have hl := lv_entry ([.ref (ad 0), .int x0, .int (bI b), .int x1, .ref (ad 99)]) (n := 6) (Nat.le_of_ble_eq_true rfl)
  rw [lg_entry_eq]
  generalize (lg_sl ([.ref (ad 0), .int x0, .int (bI b), .int x1, .ref (ad 99)]) ++ List.replicate (6 - (lg_sl ([.ref (ad 0), .int x0, .int (bI b), .int x1, .ref (ad 99)])).length) Slot.unset).toArray = ls at hl ⊢
  have hl : lv_has ls 6 [(0, .ref (ad 0)), (1, .int x0), (2, .int (bI b)), (3, .int x1), (4, .ref (ad 99))] := hl
  refine lv_aload hx hb dL_draft_0 (lv_at hl 4 rfl) ?_
  refine lv_iconst (v := nI 0) hx hb dL_draft_2 (by decide) ?_
  refine lv_aload_n hx hb dL_draft_3 rfl (lv_at hl 0 rfl) ?_
  refine lv_iload_n hx hb dL_draft_4 rfl (lv_at hl 1 rfl) ?_
  refine lv_iload_n hx hb dL_draft_5 rfl (lv_at hl 2 rfl) ?_
  refine lv_iload_n hx hb dL_draft_6 rfl (lv_at hl 3 rfl) ?_
  refine k_T (vx_runV (As := [.int x0, .int (bI b), .int x1]) (rest := [.int (nI 0), .ref (ad 99)]) ⟨hx, hb, hml, hown, hts⟩ (c_X9_draft_a l hst G z ad M (x0 := x0) (x1 := x1) (b := b) hbad) (cwV 3 hts (gV (lwg_of t_599 rfl) (lwg_of t_600 rfl) (lwg_of t_601 rfl) (lwg_of t_1 rfl) (lwg_of t_602 rfl)) rfl rfl rfl (by decide +kernel) ⟨Nat.le_of_ble_eq_true rfl, Nat.le_of_ble_eq_true rfl⟩) (hI.preV h0 rfl) rfl rfl hl.1 rfl (lv_room (Nat.le_of_ble_eq_true rfl)) dL_draft_7 ⟨Nat.le_of_ble_eq_true rfl, Nat.le_of_ble_eq_true rfl⟩) hI (fun ce q9 H_3 locs_4 hI hce hcv hcl => ?_)
  refine vx_catch (name := "java/lang/IndexOutOfBoundsException") hown [] ⟨0, 12, 15, 13⟩ [] (htab.trans rfl) (fun z9 h9 => nomatch h9) (by decide) (by decide) cl_13 (va_Nw.use rfl (hI.1.2.1.2.2 ("java/lang/IndexOutOfBoundsException", "java/lang/IndexOutOfBoundsException") (List.mem_of_getElem? (i := 1) rfl))) hce hcv hcl ?_
  refine lv_astore (lv' := [(5, .ref q9), (0, .ref (ad 0)), (1, .int x0), (2, .int (bI b)), (3, .int x1), (4, .ref (ad 99))]) hx hb dL_draft_15 hl (by decide) rfl (fun ls hl => ?_)
  refine lv_iconst (v := nI 1) hx hb dL_draft_17 (by decide) ?_
  exact e_Ni hx hb hr rfl hlocks hI ⟨rfl, (fun j  => rfl)⟩ dL_draft_18

/-- L_draft -/
abbrev rm_c_L_draft_b : Room := { frames := 8, cells := 1, slots := 6, locals := 134 }
set_option maxHeartbeats 4000000 in
set_option maxRecDepth 100000 in
theorem c_L_draft_b (l : Launch) (hst : l.stackTraces = false) (G : GG) (z : Nat) (ad : Nat → Nat) (M : Mem) {n : Nat} {kd : Nat → Nat} {fm : Nat → Int32} {to : Nat → Int32} {sz : Nat → Nat} {rl : Nat → Nat → Nat} {en : Nat → Nat → Nat} {qa : Nat} {qs : Nat} {fw : Int32} {ro : Nat} {x1 : Int32} {b : Bool} (hL : LSm G ad M n kd fm to sz rl en) (h0 : M 0 = some (cStore ad qa qs fw)) (hro : ro < 6) (hbt : b = true) (hbad : x1 < 0 ∨ ¬ x1 < nI n) : Met l yL_draft wsL_draft rm_c_L_draft_b (Pr G z ad M [.ref (ad 0), .int (nI ro), .int (bI b), .int x1, .ref (ad 99)]) (Ni G z ad (fun (r : Int32) (M' : Mem) => r = nI 1 ∧ (∀ j : Nat,  M' j = M j))) 1 6 (fr z) := by
  refine mt_ofWH (cc := cL_draft) (maxL := 6) (ret := (some .int)) (hh := [(0, 12, 15, 13)]) (by decide) rfl ?_
  intro p e s m args below meth c s₁ B hml hv
  obtain ⟨rfl, hv⟩ := hv
  have hI := Iv.entry hv
  have hx := B.exec
  have hb := B.bytes
  have hr := B.returns
  have hts := atoms_spec (ws := wsL_draft) B.pre
  have hown : s.vm.findClass RL = some m.cls := findClass_of_methodNamed B.named
  have hlocks := B.notSynchronized
  have htab := vx_table (x := yL_draft) B (hts _ List.mem_cons_self)
  have cl_13 := hts _ (List.mem_cons_of_mem _ (lwg_of t_471 rfl))
  have hl := lv_entry ([.ref (ad 0), .int (nI ro), .int (bI b), .int x1, .ref (ad 99)]) (n := 6) (Nat.le_of_ble_eq_true rfl)
  rw [lg_entry_eq]
  generalize (lg_sl ([.ref (ad 0), .int (nI ro), .int (bI b), .int x1, .ref (ad 99)]) ++ List.replicate (6 - (lg_sl ([.ref (ad 0), .int (nI ro), .int (bI b), .int x1, .ref (ad 99)])).length) Slot.unset).toArray = ls at hl ⊢
  have hl : lv_has ls 6 [(0, .ref (ad 0)), (1, .int (nI ro)), (2, .int (bI b)), (3, .int x1), (4, .ref (ad 99))] := hl
  have h16 := hL.1
  obtain ⟨mcn, ed, h17, hed⟩ := id hL.2.1
  refine lv_aload hx hb dL_draft_0 (lv_at hl 4 rfl) ?_
  refine lv_iconst (v := nI 0) hx hb dL_draft_2 (by decide) ?_
  refine lv_aload_n hx hb dL_draft_3 rfl (lv_at hl 0 rfl) ?_
  refine lv_iload_n hx hb dL_draft_4 rfl (lv_at hl 1 rfl) ?_
  refine lv_iload_n hx hb dL_draft_5 rfl (lv_at hl 2 rfl) ?_
  refine lv_iload_n hx hb dL_draft_6 rfl (lv_at hl 3 rfl) ?_
  refine k_T (vx_runV (As := [.int (nI ro), .int (bI b), .int x1]) (rest := [.int (nI 0), .ref (ad 99)]) ⟨hx, hb, hml, hown, hts⟩ (c_X9_draft_b l hst G z ad M (n := n) (kd := kd) (fm := fm) (to := to) (sz := sz) (rl := rl) (en := en) (qa := qa) (qs := qs) (fw := fw) (ro := ro) (x1 := x1) (b := b) hL h0 hro hbt hbad) (cwV 3 hts (gV (lwg_of t_599 rfl) (lwg_of t_600 rfl) (lwg_of t_601 rfl) (lwg_of t_1 rfl) (lwg_of t_602 rfl)) rfl rfl rfl (by decide +kernel) ⟨Nat.le_of_ble_eq_true rfl, Nat.le_of_ble_eq_true rfl⟩) (hI.preV h0 rfl) rfl rfl hl.1 rfl (lv_room (Nat.le_of_ble_eq_true rfl)) dL_draft_7 ⟨Nat.le_of_ble_eq_true rfl, Nat.le_of_ble_eq_true rfl⟩) hI (fun ce q9 H_3 locs_4 hI hce hcv hcl => ?_)
  refine vx_catch (name := "java/lang/IndexOutOfBoundsException") hown [] ⟨0, 12, 15, 13⟩ [] (htab.trans rfl) (fun z9 h9 => nomatch h9) (by decide) (by decide) cl_13 (va_Nw.use rfl (hI.1.2.1.2.2 ("java/lang/IndexOutOfBoundsException", "java/lang/IndexOutOfBoundsException") (List.mem_of_getElem? (i := 1) rfl))) hce hcv hcl ?_
  refine lv_astore (lv' := [(5, .ref q9), (0, .ref (ad 0)), (1, .int (nI ro)), (2, .int (bI b)), (3, .int x1), (4, .ref (ad 99))]) hx hb dL_draft_15 hl (by decide) rfl (fun ls hl => ?_)
  refine lv_iconst (v := nI 1) hx hb dL_draft_17 (by decide) ?_
  exact e_Ni hx hb hr rfl hlocks hI ⟨rfl, (fun j  => rfl)⟩ dL_draft_18

/-- L_draft -/
abbrev rm_c_L_draft_c : Room := { frames := 8, cells := 1, slots := 6, locals := 133 }
set_option maxHeartbeats 4000000 in
set_option maxRecDepth 100000 in
theorem c_L_draft_c (l : Launch) (hst : l.stackTraces = false) (G : GG) (z : Nat) (ad : Nat → Nat) (M : Mem) {qa : Nat} {qs : Nat} {fw : Int32} {ro : Nat} {x1 : Int32} {b : Bool} (h0 : M 0 = some (cStore ad qa qs fw)) (hro : ro < 6) (hbt : b = false) (hbad : x1 < 0 ∨ ¬ x1 < nI 40) : Met l yL_draft wsL_draft rm_c_L_draft_c (Pr G z ad M [.ref (ad 0), .int (nI ro), .int (bI b), .int x1, .ref (ad 99)]) (Ni G z ad (fun (r : Int32) (M' : Mem) => r = nI 1 ∧ (∀ j : Nat,  M' j = M j))) 1 6 (fr z) := by
  refine mt_ofWH (cc := cL_draft) (maxL := 6) (ret := (some .int)) (hh := [(0, 12, 15, 13)]) (by decide) rfl ?_
  intro p e s m args below meth c s₁ B hml hv
  obtain ⟨rfl, hv⟩ := hv
  have hI := Iv.entry hv
  have hx := B.exec
  have hb := B.bytes
  have hr := B.returns
  have hts := atoms_spec (ws := wsL_draft) B.pre
  have hown : s.vm.findClass RL = some m.cls := findClass_of_methodNamed B.named
  have hlocks := B.notSynchronized
  have htab := vx_table (x := yL_draft) B (hts _ List.mem_cons_self)
  have cl_13 := hts _ (List.mem_cons_of_mem _ (lwg_of t_471 rfl))
  have hl := lv_entry ([.ref (ad 0), .int (nI ro), .int (bI b), .int x1, .ref (ad 99)]) (n := 6) (Nat.le_of_ble_eq_true rfl)
  rw [lg_entry_eq]
  generalize (lg_sl ([.ref (ad 0), .int (nI ro), .int (bI b), .int x1, .ref (ad 99)]) ++ List.replicate (6 - (lg_sl ([.ref (ad 0), .int (nI ro), .int (bI b), .int x1, .ref (ad 99)])).length) Slot.unset).toArray = ls at hl ⊢
  have hl : lv_has ls 6 [(0, .ref (ad 0)), (1, .int (nI ro)), (2, .int (bI b)), (3, .int x1), (4, .ref (ad 99))] := hl
  refine lv_aload hx hb dL_draft_0 (lv_at hl 4 rfl) ?_
  refine lv_iconst (v := nI 0) hx hb dL_draft_2 (by decide) ?_
  refine lv_aload_n hx hb dL_draft_3 rfl (lv_at hl 0 rfl) ?_
  refine lv_iload_n hx hb dL_draft_4 rfl (lv_at hl 1 rfl) ?_
  refine lv_iload_n hx hb dL_draft_5 rfl (lv_at hl 2 rfl) ?_
  refine lv_iload_n hx hb dL_draft_6 rfl (lv_at hl 3 rfl) ?_
  refine k_T (vx_runV (As := [.int (nI ro), .int (bI b), .int x1]) (rest := [.int (nI 0), .ref (ad 99)]) ⟨hx, hb, hml, hown, hts⟩ (c_X9_draft_c l hst G z ad M (ro := ro) (x1 := x1) (b := b) hro hbt hbad) (cwV 3 hts (gV (lwg_of t_599 rfl) (lwg_of t_600 rfl) (lwg_of t_601 rfl) (lwg_of t_1 rfl) (lwg_of t_602 rfl)) rfl rfl rfl (by decide +kernel) ⟨Nat.le_of_ble_eq_true rfl, Nat.le_of_ble_eq_true rfl⟩) (hI.preV h0 rfl) rfl rfl hl.1 rfl (lv_room (Nat.le_of_ble_eq_true rfl)) dL_draft_7 ⟨Nat.le_of_ble_eq_true rfl, Nat.le_of_ble_eq_true rfl⟩) hI (fun ce q9 H_3 locs_4 hI hce hcv hcl => ?_)
  refine vx_catch (name := "java/lang/IndexOutOfBoundsException") hown [] ⟨0, 12, 15, 13⟩ [] (htab.trans rfl) (fun z9 h9 => nomatch h9) (by decide) (by decide) cl_13 (va_Nw.use rfl (hI.1.2.1.2.2 ("java/lang/IndexOutOfBoundsException", "java/lang/IndexOutOfBoundsException") (List.mem_of_getElem? (i := 1) rfl))) hce hcv hcl ?_
  refine lv_astore (lv' := [(5, .ref q9), (0, .ref (ad 0)), (1, .int (nI ro)), (2, .int (bI b)), (3, .int x1), (4, .ref (ad 99))]) hx hb dL_draft_15 hl (by decide) rfl (fun ls hl => ?_)
  refine lv_iconst (v := nI 1) hx hb dL_draft_17 (by decide) ?_
  exact e_Ni hx hb hr rfl hlocks hI ⟨rfl, (fun j  => rfl)⟩ dL_draft_18

/-- L_put -/
abbrev rm_c_L_put_k_no : Room := { frames := 7, cells := 5, slots := 26, locals := 164 }
set_option maxHeartbeats 4000000 in
set_option maxRecDepth 100000 in
theorem c_L_put_k_no (l : Launch) (hst : l.stackTraces = false) (G : GG) (z : Nat) (ad : Nat → Nat) (M : Mem) {n : Nat} {kd : Nat → Nat} {fm : Nat → Int32} {to : Nat → Int32} {sz : Nat → Nat} {rl : Nat → Nat → Nat} {en : Nat → Nat → Nat} {qa : Nat} {qs : Nat} {fw : Int32} {s0 : Nat} {r0 : Nat → Nat} {th : Nat → Option Nat} {ol : Nat → Option Nat} {e0 : Nat → Nat} {le : Nat → Nat} {mo : Nat → Nat} {al : Nat → Nat} {jn : Nat} {lst : Nat → Nat} {ff : Nat → Int32} {lq : Nat → Int32} {y : Nat} {f : Nat} {g : Nat} {w : Nat} {of : Nat → Int64} (h0 : M 0 = some (cStore ad qa qs fw)) (h12 : M 12 = some (cEnds ad 12 s0)) (h13 : M 13 = some (aI G 6 (nF r0))) (h14 : M 14 = some (aI G 6 (oF th))) (h15 : M 15 = some (aI G 6 (oF ol))) (h16 : M 16 = some (cLines ad )) (h3 : M 3 = some (cLaws ad )) (h4 : M 4 = some (aI G 36 (nF le))) (h5 : M 5 = some (aI G 36 (nF mo))) (h6 : M 6 = some (aI G 36 (nF al))) (h8 : M 8 = some (cOnes ad jn)) (h10 : M 10 = some (aI G 40 (nF lst))) (h20 : M 20 = some (aI G 120 ff)) (h21 : M 21 = some (aI G 120 lq)) (h99 : M 99 = some (aJ G 1 of)) (hqa : 29 < qa ∧ qa < 51) (hqs : 29 < qs ∧ qs < 51) (hL : LSm G ad M n kd fm to sz rl en) (hw : LSw n kd sz rl en) (hs1 : 0 < s0) (hs0 : s0 ≤ 6) (hn1 : n < 120) (hr0 : ∀ j, j < s0 → r0 j < 6) (he0 : ∀ j, j < s0 → e0 j < 40 + n) (hth : ∀ j, j < s0 → th j = thE e0 j) (hol : ∀ j, j < s0 → ol j = olE e0 j) (hlst : ∀ u, u < 40 → lst u < 40) (hy : y < 6) (hfg : f ≤ g ∧ g ≤ 1000) (hle : ∀ j, j < 36 → le j < 100) (hmo : ∀ j, j < 36 → mo j < 100) (hal : ∀ j, j < 36 → al j ≤ 100) (hwhy : w = 1 ∧ ¬ alw le mo r0 s0 y 6 ∨ w = 2 ∧ alw le mo r0 s0 y 6 ∧ ¬ brs fm to e0 (nI f) (nI g) s0 ∨ w = 3 ∧ alw le mo r0 s0 y 6 ∧ brs fm to e0 (nI f) (nI g) s0 ∧ crw n kd fm to sz rl en lst al y (nI f) (nI g) r0 e0 s0) (fre0 : M (100 + 5 * n) = none) (fre1 : M (100 + 5 * n + 1) = none) (fre2 : M (100 + 5 * n + 2) = none) (fre3 : M (100 + 5 * n + 3) = none) (fre4 : M (100 + 5 * n + 4) = none) : Met l yL_put wsL_put rm_c_L_put_k_no (Pr G z ad M [.ref (ad 0), .int (nI y), .int (nI f), .int (nI g), .ref (ad 99)]) (Ai G z (fun (r : Int32) (u : (Nat → Nat) × Mem) => ∃ ff2 : Nat → Int32, ∃ lq2 : Nat → Int32, r = nI 0 ∧ u.2 12 = some (cEnds u.1 12 0) ∧ u.2 20 = some (aI G 120 ff2) ∧ u.2 21 = some (aI G 120 lq2) ∧ u.2 (100 + 5 * n) = some (cLine u.1 (100 + 5 * n) y (nI f) (nI g)) ∧ u.2 (100 + 5 * n + 1) = some (cEnds u.1 (100 + 5 * n + 1) s0) ∧ u.2 (100 + 5 * n + 2) = some (aI G 6 (nF (frs s0 r0))) ∧ u.2 (100 + 5 * n + 3) = some (aI G 6 (oF (thE (frsE s0 e0)))) ∧ u.2 (100 + 5 * n + 4) = some (aI G 6 (oF (olE (frsE s0 e0)))) ∧ u.2 99 = some (aJ G 1 (vp_updL of 0 ((-(nI w)).toInt64))) ∧ (∀ j : Nat, j ≠ 12 → j ≠ 20 → j ≠ 21 → j ≠ (100 + 5 * n) → j ≠ (100 + 5 * n + 1) → j ≠ (100 + 5 * n + 2) → j ≠ (100 + 5 * n + 3) → j ≠ (100 + 5 * n + 4) → j ≠ 99 → u.2 j = M j) ∧ (∀ j : Nat, j ≠ (100 + 5 * n) → j ≠ (100 + 5 * n + 1) → j ≠ (100 + 5 * n + 2) → j ≠ (100 + 5 * n + 3) → j ≠ (100 + 5 * n + 4) → u.1 j = ad j))) 5 26 (fr z) := by
  refine mt_ofWH (cc := cL_put) (maxL := 6) (ret := (some .int)) (hh := [(0, 12, 15, 13), (0, 12, 19, 15), (0, 12, 23, 33)]) (by decide) rfl ?_
  intro p e s m args below meth c s₁ B hml hv
  obtain ⟨rfl, hv⟩ := hv
  have hI := Iv.entry hv
  have hx := B.exec
  have hb := B.bytes
  have hr := B.returns
  have hts := atoms_spec (ws := wsL_put) B.pre
  have hown : s.vm.findClass RL = some m.cls := findClass_of_methodNamed B.named
  have hlocks := B.notSynchronized
  have htab := vx_table (x := yL_put) B (hts _ List.mem_cons_self)
  have hl := lv_entry ([.ref (ad 0), .int (nI y), .int (nI f), .int (nI g), .ref (ad 99)]) (n := 6) (Nat.le_of_ble_eq_true rfl)
  rw [lg_entry_eq]
  generalize (lg_sl ([.ref (ad 0), .int (nI y), .int (nI f), .int (nI g), .ref (ad 99)]) ++ List.replicate (6 - (lg_sl ([.ref (ad 0), .int (nI y), .int (nI f), .int (nI g), .ref (ad 99)])).length) Slot.unset).toArray = ls at hl ⊢
  have hl : lv_has ls 6 [(0, .ref (ad 0)), (1, .int (nI y)), (2, .int (nI f)), (3, .int (nI g)), (4, .ref (ad 99))] := hl
  refine lv_aload hx hb dL_put_0 (lv_at hl 4 rfl) ?_
  refine lv_iconst (v := nI 0) hx hb dL_put_2 (by decide) ?_
  refine lv_aload_n hx hb dL_put_3 rfl (lv_at hl 0 rfl) ?_
  refine lv_iload_n hx hb dL_put_4 rfl (lv_at hl 1 rfl) ?_
  refine lv_iload_n hx hb dL_put_5 rfl (lv_at hl 2 rfl) ?_
  refine lv_iload_n hx hb dL_put_6 rfl (lv_at hl 3 rfl) ?_
  refine k_Ai (va_runV (As := [.int (nI y), .int (nI f), .int (nI g)]) (rest := [.int (nI 0), .ref (ad 99)]) ⟨hx, hb, hml, hown, hts⟩ (c_X9_putk_no l G z ad M (n := n) (kd := kd) (fm := fm) (to := to) (sz := sz) (rl := rl) (en := en) (qa := qa) (qs := qs) (fw := fw) (s0 := s0) (r0 := r0) (th := th) (ol := ol) (e0 := e0) (le := le) (mo := mo) (al := al) (jn := jn) (lst := lst) (ff := ff) (lq := lq) (y := y) (f := f) (g := g) (w := w) h0 h12 h13 h14 h15 h16 h3 h4 h5 h6 h8 h10 h20 h21 hqa hqs hL hw hs1 hs0 hn1 hr0 he0 hth hol hlst hy hfg hle hmo hal hwhy fre0 fre1 fre2 fre3 fre4) (cwV 3 hts (gV (lwg_of t_620 rfl) (lwg_of t_621 rfl) (lwg_of t_622 rfl) (lwg_of t_1 rfl) (lwg_of t_623 rfl)) rfl rfl rfl (by decide +kernel) ⟨Nat.le_of_ble_eq_true rfl, Nat.le_of_ble_eq_true rfl⟩) (hI.preV h0 rfl) rfl rfl hl.1 rfl (lv_room (Nat.le_of_ble_eq_true rfl)) dL_put_7 ⟨Nat.le_of_ble_eq_true rfl, Nat.le_of_ble_eq_true rfl⟩) hI (fun r_1 ad_6 M_3 H_4 locs_5 hp_2 hI => ?_)
  obtain ⟨ff2_18, lq2_19, hr_7, hm_8, hm_9, hm_10, hm_11, hm_12, hm_13, hm_14, hm_15, hF_16, hAd_17⟩ := hp_2
  have hm_20 : M_3 12 = some (cEnds ad_6 12 0) := hm_8
  have hm_21 : M_3 20 = some (aI G 120 ff2_18) := hm_9
  have hm_22 : M_3 21 = some (aI G 120 lq2_19) := hm_10
  have hm_23 : M_3 (100 + 5 * n) = some (cLine ad_6 (100 + 5 * n) y (nI f) (nI g)) := hm_11
  have hm_24 : M_3 (100 + 5 * n + 1) = some (cEnds ad_6 (100 + 5 * n + 1) s0) := hm_12
  have hm_25 : M_3 (100 + 5 * n + 2) = some (aI G 6 (nF (frs s0 r0))) := hm_13
  have hm_26 : M_3 (100 + 5 * n + 3) = some (aI G 6 (oF (thE (frsE s0 e0)))) := hm_14
  have hm_27 : M_3 (100 + 5 * n + 4) = some (aI G 6 (oF (olE (frsE s0 e0)))) := hm_15
  have hAd_28 : ∀ j : Nat, j ≠ (100 + 5 * n) → j ≠ (100 + 5 * n + 1) → j ≠ (100 + 5 * n + 2) → j ≠ (100 + 5 * n + 3) → j ≠ (100 + 5 * n + 4) → ad_6 j = ad j := hAd_17
  have hF_29 : ∀ j : Nat, j ≠ 12 → j ≠ 20 → j ≠ 21 → j ≠ (100 + 5 * n) → j ≠ (100 + 5 * n + 1) → j ≠ (100 + 5 * n + 2) → j ≠ (100 + 5 * n + 3) → j ≠ (100 + 5 * n + 4) → M_3 j = M j := hF_16
  have hm_30 : M_3 0 = some (cStore ad_6 qa qs fw) := by rw [hF_29 0 (by decide) (by decide) (by decide) (by omega) (by omega) (by omega) (by omega) (by omega), h0]; simp only [cStore, hAd_28 1 (by omega) (by omega) (by omega) (by omega) (by omega), hAd_28 3 (by omega) (by omega) (by omega) (by omega) (by omega), hAd_28 8 (by omega) (by omega) (by omega) (by omega) (by omega), hAd_28 12 (by omega) (by omega) (by omega) (by omega) (by omega), hAd_28 16 (by omega) (by omega) (by omega) (by omega) (by omega), hAd_28 22 (by omega) (by omega) (by omega) (by omega) (by omega), hAd_28 23 (by omega) (by omega) (by omega) (by omega) (by omega), hAd_28 qa (by omega) (by omega) (by omega) (by omega) (by omega), hAd_28 qs (by omega) (by omega) (by omega) (by omega) (by omega)]
  have hm_31 : M_3 13 = some (aI G 6 (nF r0)) := by rw [hF_29 13 (by decide) (by decide) (by decide) (by omega) (by omega) (by omega) (by omega) (by omega), h13]
  have hm_32 : M_3 14 = some (aI G 6 (oF th)) := by rw [hF_29 14 (by decide) (by decide) (by decide) (by omega) (by omega) (by omega) (by omega) (by omega), h14]
  have hm_33 : M_3 15 = some (aI G 6 (oF ol)) := by rw [hF_29 15 (by decide) (by decide) (by decide) (by omega) (by omega) (by omega) (by omega) (by omega), h15]
  have hm_34 : M_3 16 = some (cLines ad_6 ) := by rw [hF_29 16 (by decide) (by decide) (by decide) (by omega) (by omega) (by omega) (by omega) (by omega), h16]; simp only [cLines, hAd_28 17 (by omega) (by omega) (by omega) (by omega) (by omega), hAd_28 19 (by omega) (by omega) (by omega) (by omega) (by omega), hAd_28 20 (by omega) (by omega) (by omega) (by omega) (by omega), hAd_28 21 (by omega) (by omega) (by omega) (by omega) (by omega)]
  have hm_35 : M_3 3 = some (cLaws ad_6 ) := by rw [hF_29 3 (by decide) (by decide) (by decide) (by omega) (by omega) (by omega) (by omega) (by omega), h3]; simp only [cLaws, hAd_28 4 (by omega) (by omega) (by omega) (by omega) (by omega), hAd_28 5 (by omega) (by omega) (by omega) (by omega) (by omega), hAd_28 6 (by omega) (by omega) (by omega) (by omega) (by omega), hAd_28 7 (by omega) (by omega) (by omega) (by omega) (by omega)]
  have hm_36 : M_3 4 = some (aI G 36 (nF le)) := by rw [hF_29 4 (by decide) (by decide) (by decide) (by omega) (by omega) (by omega) (by omega) (by omega), h4]
  have hm_37 : M_3 5 = some (aI G 36 (nF mo)) := by rw [hF_29 5 (by decide) (by decide) (by decide) (by omega) (by omega) (by omega) (by omega) (by omega), h5]
  have hm_38 : M_3 6 = some (aI G 36 (nF al)) := by rw [hF_29 6 (by decide) (by decide) (by decide) (by omega) (by omega) (by omega) (by omega) (by omega), h6]
  have hm_39 : M_3 8 = some (cOnes ad_6 jn) := by rw [hF_29 8 (by decide) (by decide) (by decide) (by omega) (by omega) (by omega) (by omega) (by omega), h8]; simp only [cOnes, hAd_28 9 (by omega) (by omega) (by omega) (by omega) (by omega), hAd_28 10 (by omega) (by omega) (by omega) (by omega) (by omega), hAd_28 11 (by omega) (by omega) (by omega) (by omega) (by omega)]
  have hm_40 : M_3 10 = some (aI G 40 (nF lst)) := by rw [hF_29 10 (by decide) (by decide) (by decide) (by omega) (by omega) (by omega) (by omega) (by omega), h10]
  have hm_41 : M_3 99 = some (aJ G 1 of) := by rw [hF_29 99 (by decide) (by decide) (by decide) (by omega) (by omega) (by omega) (by omega) (by omega), h99]
  have hF_42 : ∀ j : Nat, j ≠ 12 → j ≠ 20 → j ≠ 21 → j ≠ (100 + 5 * n) → j ≠ (100 + 5 * n + 1) → j ≠ (100 + 5 * n + 2) → j ≠ (100 + 5 * n + 3) → j ≠ (100 + 5 * n + 4) → M_3 j = M j := fun j q0 q1 q2 q3 q4 q5 q6 q7 => (hF_29 j q0 q1 q2 q3 q4 q5 q6 q7)
  clear hF_16
  rw [hr_7]
  refine n_eqs (show ([.int (-(nI w)), .int (nI 0), .ref (ad 99)] : List Value) = [.int (-(nI w)), .int (nI 0), .ref (ad_6 99)] from by rw [hAd_28 99 (by omega) (by omega) (by omega) (by omega) (by omega)]) ?_
  refine lv_i2l (v := (-(nI w)).toInt64) hx hb dL_put_10 rfl ?_
  refine h_last (i := 0) (x := (-(nI w)).toInt64) hx hb hI hm_41 (by omega) (by decide) dL_put_11 (fun M_43 H_44 locs_45 eM_46 hI => ?_)
  have hm_47 : M_43 0 = some (cStore ad_6 qa qs fw) := by rw [eM_46, va_up_ne _ _ (by decide)]; exact hm_30
  have hm_48 : M_43 13 = some (aI G 6 (nF r0)) := by rw [eM_46, va_up_ne _ _ (by decide)]; exact hm_31
  have hm_49 : M_43 14 = some (aI G 6 (oF th)) := by rw [eM_46, va_up_ne _ _ (by decide)]; exact hm_32
  have hm_50 : M_43 15 = some (aI G 6 (oF ol)) := by rw [eM_46, va_up_ne _ _ (by decide)]; exact hm_33
  have hm_51 : M_43 16 = some (cLines ad_6 ) := by rw [eM_46, va_up_ne _ _ (by decide)]; exact hm_34
  have hm_52 : M_43 3 = some (cLaws ad_6 ) := by rw [eM_46, va_up_ne _ _ (by decide)]; exact hm_35
  have hm_53 : M_43 4 = some (aI G 36 (nF le)) := by rw [eM_46, va_up_ne _ _ (by decide)]; exact hm_36
  have hm_54 : M_43 5 = some (aI G 36 (nF mo)) := by rw [eM_46, va_up_ne _ _ (by decide)]; exact hm_37
  have hm_55 : M_43 6 = some (aI G 36 (nF al)) := by rw [eM_46, va_up_ne _ _ (by decide)]; exact hm_38
  have hm_56 : M_43 8 = some (cOnes ad_6 jn) := by rw [eM_46, va_up_ne _ _ (by decide)]; exact hm_39
  have hm_57 : M_43 10 = some (aI G 40 (nF lst)) := by rw [eM_46, va_up_ne _ _ (by decide)]; exact hm_40
  have hm_58 : M_43 99 = some (aJ G 1 (vp_updL of 0 ((-(nI w)).toInt64))) := by rw [eM_46]; exact va_up_self _ _ _
  have hm_59 : M_43 12 = some (cEnds ad_6 12 0) := by rw [eM_46, va_up_ne _ _ (by decide)]; exact hm_20
  have hm_60 : M_43 20 = some (aI G 120 ff2_18) := by rw [eM_46, va_up_ne _ _ (by decide)]; exact hm_21
  have hm_61 : M_43 21 = some (aI G 120 lq2_19) := by rw [eM_46, va_up_ne _ _ (by decide)]; exact hm_22
  have hm_62 : M_43 (100 + 5 * n) = some (cLine ad_6 (100 + 5 * n) y (nI f) (nI g)) := by rw [eM_46, va_up_ne _ _ (by omega)]; exact hm_23
  have hm_63 : M_43 (100 + 5 * n + 1) = some (cEnds ad_6 (100 + 5 * n + 1) s0) := by rw [eM_46, va_up_ne _ _ (by omega)]; exact hm_24
  have hm_64 : M_43 (100 + 5 * n + 2) = some (aI G 6 (nF (frs s0 r0))) := by rw [eM_46, va_up_ne _ _ (by omega)]; exact hm_25
  have hm_65 : M_43 (100 + 5 * n + 3) = some (aI G 6 (oF (thE (frsE s0 e0)))) := by rw [eM_46, va_up_ne _ _ (by omega)]; exact hm_26
  have hm_66 : M_43 (100 + 5 * n + 4) = some (aI G 6 (oF (olE (frsE s0 e0)))) := by rw [eM_46, va_up_ne _ _ (by omega)]; exact hm_27
  have hF_67 : ∀ j : Nat, j ≠ 12 → j ≠ 20 → j ≠ 21 → j ≠ (100 + 5 * n) → j ≠ (100 + 5 * n + 1) → j ≠ (100 + 5 * n + 2) → j ≠ (100 + 5 * n + 3) → j ≠ (100 + 5 * n + 4) → j ≠ 99 → M_43 j = M j := fun j q0 q1 q2 q3 q4 q5 q6 q7 q8 => by rw [eM_46, va_up_ne _ _ q8]; exact hF_42 j q0 q1 q2 q3 q4 q5 q6 q7
  clear hm_30 hm_31 hm_32 hm_33 hm_34 hm_35 hm_36 hm_37 hm_38 hm_39 hm_40 hm_41 hm_20 hm_21 hm_22 hm_23 hm_24 hm_25 hm_26 hm_27 hF_42
  refine lv_goto (tgt := 27) hx hb dL_put_12 (by decide) ?_
  refine lv_iconst (v := nI 0) hx hb dL_put_27 (by decide) ?_
  exact e_Ai hx hb hr rfl hlocks hI ⟨ff2_18, lq2_19, rfl, hm_59, hm_60, hm_61, hm_62, hm_63, hm_64, hm_65, hm_66, hm_58, (fun j q0 q1 q2 q3 q4 q5 q6 q7 q8 => hF_67 j q0 q1 q2 q3 q4 q5 q6 q7 q8), (fun j q0 q1 q2 q3 q4 => (by show ad_6 j = ad j; rw [hAd_28 j q0 q1 q2 q3 q4]))⟩ dL_put_28

/-- L_put -/
abbrev rm_c_L_put_k_0 : Room := { frames := 7, cells := 6, slots := 226, locals := 164 }
set_option maxHeartbeats 4000000 in
set_option maxRecDepth 100000 in
theorem c_L_put_k_0 (l : Launch) (hst : l.stackTraces = false) (G : GG) (z : Nat) (ad : Nat → Nat) (M : Mem) {kd : Nat → Nat} {fm : Nat → Int32} {to : Nat → Int32} {sz : Nat → Nat} {rl : Nat → Nat → Nat} {en : Nat → Nat → Nat} {qa : Nat} {qs : Nat} {fw : Int32} {s0 : Nat} {r0 : Nat → Nat} {th : Nat → Option Nat} {ol : Nat → Option Nat} {e0 : Nat → Nat} {le : Nat → Nat} {mo : Nat → Nat} {al : Nat → Nat} {jn : Nat} {lst : Nat → Nat} {ff : Nat → Int32} {lq : Nat → Int32} {y : Nat} {f : Nat} {g : Nat} {mcn : Int32} {of : Nat → Int64} (h0 : M 0 = some (cStore ad qa qs fw)) (h12 : M 12 = some (cEnds ad 12 s0)) (h13 : M 13 = some (aI G 6 (nF r0))) (h14 : M 14 = some (aI G 6 (oF th))) (h15 : M 15 = some (aI G 6 (oF ol))) (h16 : M 16 = some (cLines ad )) (h3 : M 3 = some (cLaws ad )) (h4 : M 4 = some (aI G 36 (nF le))) (h5 : M 5 = some (aI G 36 (nF mo))) (h6 : M 6 = some (aI G 36 (nF al))) (h8 : M 8 = some (cOnes ad jn)) (h10 : M 10 = some (aI G 40 (nF lst))) (h20 : M 20 = some (aI G 120 ff)) (h21 : M 21 = some (aI G 120 lq)) (h17 : M 17 = some (cList ad mcn G.2.2.2.2 0)) (h99 : M 99 = some (aJ G 1 of)) (hqa : 29 < qa ∧ qa < 51) (hqs : 29 < qs ∧ qs < 51) (hL : LSm G ad M 0 kd fm to sz rl en) (hw : LSw 0 kd sz rl en) (hs1 : 0 < s0) (hs0 : s0 ≤ 6) (hn1 : 0 < 120) (hr0 : ∀ j, j < s0 → r0 j < 6) (he0 : ∀ j, j < s0 → e0 j < 40 + 0) (hth : ∀ j, j < s0 → th j = thE e0 j) (hol : ∀ j, j < s0 → ol j = olE e0 j) (hlst : ∀ u, u < 40 → lst u < 40) (hy : y < 6) (hfg : f ≤ g ∧ g ≤ 1000) (hle : ∀ j, j < 36 → le j < 100) (hmo : ∀ j, j < 36 → mo j < 100) (hal : ∀ j, j < 36 → al j ≤ 100) (hok : alw le mo r0 s0 y 6 ∧ brs fm to e0 (nI f) (nI g) s0 ∧ ¬ crw 0 kd fm to sz rl en lst al y (nI f) (nI g) r0 e0 s0) (fre0 : M 100 = none) (fre1 : M 101 = none) (fre2 : M 102 = none) (fre3 : M 103 = none) (fre4 : M 104 = none) (fre5 : M 18 = none) : Met l yL_put wsL_put rm_c_L_put_k_0 (Pr G z ad M [.ref (ad 0), .int (nI y), .int (nI f), .int (nI g), .ref (ad 99)]) (Ai G z (fun (r : Int32) (u : (Nat → Nat) × Mem) => ∃ ff2 : Nat → Int32, ∃ lq2 : Nat → Int32, r = nI 0 ∧ u.2 12 = some (cEnds u.1 12 0) ∧ u.2 20 = some (aI G 120 ff2) ∧ u.2 21 = some (aI G 120 lq2) ∧ u.2 100 = some (cLine u.1 100 y (nI f) (nI g)) ∧ u.2 101 = some (cEnds u.1 101 s0) ∧ u.2 102 = some (aI G 6 (nF (frs s0 r0))) ∧ u.2 103 = some (aI G 6 (oF (thE (frsE s0 e0)))) ∧ u.2 104 = some (aI G 6 (oF (olE (frsE s0 e0)))) ∧ u.2 17 = some (cList u.1 (mcn + nI 1) (u.1 18) 1) ∧ u.2 18 = some (aO G 10 (va_up (fun _ => none) 0 (some (u.1 100)))) ∧ u.2 99 = some (aJ G 1 (vp_updL of 0 ((nI 0).toInt64))) ∧ (∀ j : Nat, j ≠ 12 → j ≠ 20 → j ≠ 21 → j ≠ 100 → j ≠ 101 → j ≠ 102 → j ≠ 103 → j ≠ 104 → j ≠ 17 → j ≠ 18 → j ≠ 99 → u.2 j = M j) ∧ (∀ j : Nat, j ≠ 100 → j ≠ 101 → j ≠ 102 → j ≠ 103 → j ≠ 104 → j ≠ 18 → u.1 j = ad j))) 6 226 (fr z) := by
  refine mt_ofWH (cc := cL_put) (maxL := 6) (ret := (some .int)) (hh := [(0, 12, 15, 13), (0, 12, 19, 15), (0, 12, 23, 33)]) (by decide) rfl ?_
  intro p e s m args below meth c s₁ B hml hv
  obtain ⟨rfl, hv⟩ := hv
  have hI := Iv.entry hv
  have hx := B.exec
  have hb := B.bytes
  have hr := B.returns
  have hts := atoms_spec (ws := wsL_put) B.pre
  have hown : s.vm.findClass RL = some m.cls := findClass_of_methodNamed B.named
  have hlocks := B.notSynchronized
  have htab := vx_table (x := yL_put) B (hts _ List.mem_cons_self)
  have hl := lv_entry ([.ref (ad 0), .int (nI y), .int (nI f), .int (nI g), .ref (ad 99)]) (n := 6) (Nat.le_of_ble_eq_true rfl)
  rw [lg_entry_eq]
  generalize (lg_sl ([.ref (ad 0), .int (nI y), .int (nI f), .int (nI g), .ref (ad 99)]) ++ List.replicate (6 - (lg_sl ([.ref (ad 0), .int (nI y), .int (nI f), .int (nI g), .ref (ad 99)])).length) Slot.unset).toArray = ls at hl ⊢
  have hl : lv_has ls 6 [(0, .ref (ad 0)), (1, .int (nI y)), (2, .int (nI f)), (3, .int (nI g)), (4, .ref (ad 99))] := hl
  refine lv_aload hx hb dL_put_0 (lv_at hl 4 rfl) ?_
  refine lv_iconst (v := nI 0) hx hb dL_put_2 (by decide) ?_
  refine lv_aload_n hx hb dL_put_3 rfl (lv_at hl 0 rfl) ?_
  refine lv_iload_n hx hb dL_put_4 rfl (lv_at hl 1 rfl) ?_
  refine lv_iload_n hx hb dL_put_5 rfl (lv_at hl 2 rfl) ?_
  refine lv_iload_n hx hb dL_put_6 rfl (lv_at hl 3 rfl) ?_
  refine k_Ai (va_runV (As := [.int (nI y), .int (nI f), .int (nI g)]) (rest := [.int (nI 0), .ref (ad 99)]) ⟨hx, hb, hml, hown, hts⟩ (c_X9_putk_0 l G z ad M (kd := kd) (fm := fm) (to := to) (sz := sz) (rl := rl) (en := en) (qa := qa) (qs := qs) (fw := fw) (s0 := s0) (r0 := r0) (th := th) (ol := ol) (e0 := e0) (le := le) (mo := mo) (al := al) (jn := jn) (lst := lst) (ff := ff) (lq := lq) (y := y) (f := f) (g := g) (mcn := mcn) h0 h12 h13 h14 h15 h16 h3 h4 h5 h6 h8 h10 h20 h21 h17 hqa hqs hL hw hs1 hs0 hn1 hr0 he0 hth hol hlst hy hfg hle hmo hal hok fre0 fre1 fre2 fre3 fre4 fre5) (cwV 3 hts (gV (lwg_of t_620 rfl) (lwg_of t_621 rfl) (lwg_of t_622 rfl) (lwg_of t_1 rfl) (lwg_of t_623 rfl)) rfl rfl rfl (by decide +kernel) ⟨Nat.le_of_ble_eq_true rfl, Nat.le_of_ble_eq_true rfl⟩) (hI.preV h0 rfl) rfl rfl hl.1 rfl (lv_room (Nat.le_of_ble_eq_true rfl)) dL_put_7 ⟨Nat.le_of_ble_eq_true rfl, Nat.le_of_ble_eq_true rfl⟩) hI (fun r_1 ad_6 M_3 H_4 locs_5 hp_2 hI => ?_)
  obtain ⟨ff2_20, lq2_21, hr_7, hm_8, hm_9, hm_10, hm_11, hm_12, hm_13, hm_14, hm_15, hm_16, hm_17, hF_18, hAd_19⟩ := hp_2
  have hm_22 : M_3 12 = some (cEnds ad_6 12 0) := hm_8
  have hm_23 : M_3 20 = some (aI G 120 ff2_20) := hm_9
  have hm_24 : M_3 21 = some (aI G 120 lq2_21) := hm_10
  have hm_25 : M_3 100 = some (cLine ad_6 100 y (nI f) (nI g)) := hm_11
  have hm_26 : M_3 101 = some (cEnds ad_6 101 s0) := hm_12
  have hm_27 : M_3 102 = some (aI G 6 (nF (frs s0 r0))) := hm_13
  have hm_28 : M_3 103 = some (aI G 6 (oF (thE (frsE s0 e0)))) := hm_14
  have hm_29 : M_3 104 = some (aI G 6 (oF (olE (frsE s0 e0)))) := hm_15
  have hm_30 : M_3 17 = some (cList ad_6 (mcn + nI 1) (ad_6 18) 1) := hm_16
  have hm_31 : M_3 18 = some (aO G 10 (va_up (fun _ => none) 0 (some (ad_6 100)))) := hm_17
  have hAd_32 : ∀ j : Nat, j ≠ 100 → j ≠ 101 → j ≠ 102 → j ≠ 103 → j ≠ 104 → j ≠ 18 → ad_6 j = ad j := hAd_19
  have hF_33 : ∀ j : Nat, j ≠ 12 → j ≠ 20 → j ≠ 21 → j ≠ 100 → j ≠ 101 → j ≠ 102 → j ≠ 103 → j ≠ 104 → j ≠ 17 → j ≠ 18 → M_3 j = M j := hF_18
  have hm_34 : M_3 0 = some (cStore ad_6 qa qs fw) := by rw [hF_33 0 (by decide) (by decide) (by decide) (by decide) (by decide) (by decide) (by decide) (by decide) (by decide) (by decide), h0]; simp only [cStore, hAd_32 1 (by decide) (by decide) (by decide) (by decide) (by decide) (by decide), hAd_32 3 (by decide) (by decide) (by decide) (by decide) (by decide) (by decide), hAd_32 8 (by decide) (by decide) (by decide) (by decide) (by decide) (by decide), hAd_32 12 (by decide) (by decide) (by decide) (by decide) (by decide) (by decide), hAd_32 16 (by decide) (by decide) (by decide) (by decide) (by decide) (by decide), hAd_32 22 (by decide) (by decide) (by decide) (by decide) (by decide) (by decide), hAd_32 23 (by decide) (by decide) (by decide) (by decide) (by decide) (by decide), hAd_32 qa (by omega) (by omega) (by omega) (by omega) (by omega) (by omega), hAd_32 qs (by omega) (by omega) (by omega) (by omega) (by omega) (by omega)]
  have hm_35 : M_3 13 = some (aI G 6 (nF r0)) := by rw [hF_33 13 (by decide) (by decide) (by decide) (by decide) (by decide) (by decide) (by decide) (by decide) (by decide) (by decide), h13]
  have hm_36 : M_3 14 = some (aI G 6 (oF th)) := by rw [hF_33 14 (by decide) (by decide) (by decide) (by decide) (by decide) (by decide) (by decide) (by decide) (by decide) (by decide), h14]
  have hm_37 : M_3 15 = some (aI G 6 (oF ol)) := by rw [hF_33 15 (by decide) (by decide) (by decide) (by decide) (by decide) (by decide) (by decide) (by decide) (by decide) (by decide), h15]
  have hm_38 : M_3 16 = some (cLines ad_6 ) := by rw [hF_33 16 (by decide) (by decide) (by decide) (by decide) (by decide) (by decide) (by decide) (by decide) (by decide) (by decide), h16]; simp only [cLines, hAd_32 17 (by decide) (by decide) (by decide) (by decide) (by decide) (by decide), hAd_32 19 (by decide) (by decide) (by decide) (by decide) (by decide) (by decide), hAd_32 20 (by decide) (by decide) (by decide) (by decide) (by decide) (by decide), hAd_32 21 (by decide) (by decide) (by decide) (by decide) (by decide) (by decide)]
  have hm_39 : M_3 3 = some (cLaws ad_6 ) := by rw [hF_33 3 (by decide) (by decide) (by decide) (by decide) (by decide) (by decide) (by decide) (by decide) (by decide) (by decide), h3]; simp only [cLaws, hAd_32 4 (by decide) (by decide) (by decide) (by decide) (by decide) (by decide), hAd_32 5 (by decide) (by decide) (by decide) (by decide) (by decide) (by decide), hAd_32 6 (by decide) (by decide) (by decide) (by decide) (by decide) (by decide), hAd_32 7 (by decide) (by decide) (by decide) (by decide) (by decide) (by decide)]
  have hm_40 : M_3 4 = some (aI G 36 (nF le)) := by rw [hF_33 4 (by decide) (by decide) (by decide) (by decide) (by decide) (by decide) (by decide) (by decide) (by decide) (by decide), h4]
  have hm_41 : M_3 5 = some (aI G 36 (nF mo)) := by rw [hF_33 5 (by decide) (by decide) (by decide) (by decide) (by decide) (by decide) (by decide) (by decide) (by decide) (by decide), h5]
  have hm_42 : M_3 6 = some (aI G 36 (nF al)) := by rw [hF_33 6 (by decide) (by decide) (by decide) (by decide) (by decide) (by decide) (by decide) (by decide) (by decide) (by decide), h6]
  have hm_43 : M_3 8 = some (cOnes ad_6 jn) := by rw [hF_33 8 (by decide) (by decide) (by decide) (by decide) (by decide) (by decide) (by decide) (by decide) (by decide) (by decide), h8]; simp only [cOnes, hAd_32 9 (by decide) (by decide) (by decide) (by decide) (by decide) (by decide), hAd_32 10 (by decide) (by decide) (by decide) (by decide) (by decide) (by decide), hAd_32 11 (by decide) (by decide) (by decide) (by decide) (by decide) (by decide)]
  have hm_44 : M_3 10 = some (aI G 40 (nF lst)) := by rw [hF_33 10 (by decide) (by decide) (by decide) (by decide) (by decide) (by decide) (by decide) (by decide) (by decide) (by decide), h10]
  have hm_45 : M_3 99 = some (aJ G 1 of) := by rw [hF_33 99 (by decide) (by decide) (by decide) (by decide) (by decide) (by decide) (by decide) (by decide) (by decide) (by decide), h99]
  have hF_46 : ∀ j : Nat, j ≠ 12 → j ≠ 20 → j ≠ 21 → j ≠ 100 → j ≠ 101 → j ≠ 102 → j ≠ 103 → j ≠ 104 → j ≠ 17 → j ≠ 18 → M_3 j = M j := fun j q0 q1 q2 q3 q4 q5 q6 q7 q8 q9 => (hF_33 j q0 q1 q2 q3 q4 q5 q6 q7 q8 q9)
  clear hF_18
  rw [hr_7]
  refine n_eqs (show ([.int (nI 0), .int (nI 0), .ref (ad 99)] : List Value) = [.int (nI 0), .int (nI 0), .ref (ad_6 99)] from by rw [hAd_32 99 (by decide) (by decide) (by decide) (by decide) (by decide) (by decide)]) ?_
  refine lv_i2l (v := (nI 0).toInt64) hx hb dL_put_10 rfl ?_
  refine h_last (i := 0) (x := (nI 0).toInt64) hx hb hI hm_45 (by omega) (by decide) dL_put_11 (fun M_47 H_48 locs_49 eM_50 hI => ?_)
  have hm_51 : M_47 0 = some (cStore ad_6 qa qs fw) := by rw [eM_50, va_up_ne _ _ (by decide)]; exact hm_34
  have hm_52 : M_47 13 = some (aI G 6 (nF r0)) := by rw [eM_50, va_up_ne _ _ (by decide)]; exact hm_35
  have hm_53 : M_47 14 = some (aI G 6 (oF th)) := by rw [eM_50, va_up_ne _ _ (by decide)]; exact hm_36
  have hm_54 : M_47 15 = some (aI G 6 (oF ol)) := by rw [eM_50, va_up_ne _ _ (by decide)]; exact hm_37
  have hm_55 : M_47 16 = some (cLines ad_6 ) := by rw [eM_50, va_up_ne _ _ (by decide)]; exact hm_38
  have hm_56 : M_47 3 = some (cLaws ad_6 ) := by rw [eM_50, va_up_ne _ _ (by decide)]; exact hm_39
  have hm_57 : M_47 4 = some (aI G 36 (nF le)) := by rw [eM_50, va_up_ne _ _ (by decide)]; exact hm_40
  have hm_58 : M_47 5 = some (aI G 36 (nF mo)) := by rw [eM_50, va_up_ne _ _ (by decide)]; exact hm_41
  have hm_59 : M_47 6 = some (aI G 36 (nF al)) := by rw [eM_50, va_up_ne _ _ (by decide)]; exact hm_42
  have hm_60 : M_47 8 = some (cOnes ad_6 jn) := by rw [eM_50, va_up_ne _ _ (by decide)]; exact hm_43
  have hm_61 : M_47 10 = some (aI G 40 (nF lst)) := by rw [eM_50, va_up_ne _ _ (by decide)]; exact hm_44
  have hm_62 : M_47 99 = some (aJ G 1 (vp_updL of 0 ((nI 0).toInt64))) := by rw [eM_50]; exact va_up_self _ _ _
  have hm_63 : M_47 12 = some (cEnds ad_6 12 0) := by rw [eM_50, va_up_ne _ _ (by decide)]; exact hm_22
  have hm_64 : M_47 20 = some (aI G 120 ff2_20) := by rw [eM_50, va_up_ne _ _ (by decide)]; exact hm_23
  have hm_65 : M_47 21 = some (aI G 120 lq2_21) := by rw [eM_50, va_up_ne _ _ (by decide)]; exact hm_24
  have hm_66 : M_47 100 = some (cLine ad_6 100 y (nI f) (nI g)) := by rw [eM_50, va_up_ne _ _ (by decide)]; exact hm_25
  have hm_67 : M_47 101 = some (cEnds ad_6 101 s0) := by rw [eM_50, va_up_ne _ _ (by decide)]; exact hm_26
  have hm_68 : M_47 102 = some (aI G 6 (nF (frs s0 r0))) := by rw [eM_50, va_up_ne _ _ (by decide)]; exact hm_27
  have hm_69 : M_47 103 = some (aI G 6 (oF (thE (frsE s0 e0)))) := by rw [eM_50, va_up_ne _ _ (by decide)]; exact hm_28
  have hm_70 : M_47 104 = some (aI G 6 (oF (olE (frsE s0 e0)))) := by rw [eM_50, va_up_ne _ _ (by decide)]; exact hm_29
  have hm_71 : M_47 17 = some (cList ad_6 (mcn + nI 1) (ad_6 18) 1) := by rw [eM_50, va_up_ne _ _ (by decide)]; exact hm_30
  have hm_72 : M_47 18 = some (aO G 10 (va_up (fun _ => none) 0 (some (ad_6 100)))) := by rw [eM_50, va_up_ne _ _ (by decide)]; exact hm_31
  have hF_73 : ∀ j : Nat, j ≠ 12 → j ≠ 20 → j ≠ 21 → j ≠ 100 → j ≠ 101 → j ≠ 102 → j ≠ 103 → j ≠ 104 → j ≠ 17 → j ≠ 18 → j ≠ 99 → M_47 j = M j := fun j q0 q1 q2 q3 q4 q5 q6 q7 q8 q9 q10 => by rw [eM_50, va_up_ne _ _ q10]; exact hF_46 j q0 q1 q2 q3 q4 q5 q6 q7 q8 q9
  clear hm_34 hm_35 hm_36 hm_37 hm_38 hm_39 hm_40 hm_41 hm_42 hm_43 hm_44 hm_45 hm_22 hm_23 hm_24 hm_25 hm_26 hm_27 hm_28 hm_29 hm_30 hm_31 hF_46
  refine lv_goto (tgt := 27) hx hb dL_put_12 (by decide) ?_
  refine lv_iconst (v := nI 0) hx hb dL_put_27 (by decide) ?_
  exact e_Ai hx hb hr rfl hlocks hI ⟨ff2_20, lq2_21, rfl, hm_63, hm_64, hm_65, hm_66, hm_67, hm_68, hm_69, hm_70, hm_71, hm_72, hm_62, (fun j q0 q1 q2 q3 q4 q5 q6 q7 q8 q9 q10 => hF_73 j q0 q1 q2 q3 q4 q5 q6 q7 q8 q9 q10), (fun j q0 q1 q2 q3 q4 q5 => (by show ad_6 j = ad j; rw [hAd_32 j q0 q1 q2 q3 q4 q5]))⟩ dL_put_28

/-- L_put -/
abbrev rm_c_L_put_k_b : Room := { frames := 7, cells := 5, slots := 26, locals := 164 }
set_option maxHeartbeats 4000000 in
set_option maxRecDepth 100000 in
theorem c_L_put_k_b (l : Launch) (hst : l.stackTraces = false) (G : GG) (z : Nat) (ad : Nat → Nat) (M : Mem) {n : Nat} {kd : Nat → Nat} {fm : Nat → Int32} {to : Nat → Int32} {sz : Nat → Nat} {rl : Nat → Nat → Nat} {en : Nat → Nat → Nat} {qa : Nat} {qs : Nat} {fw : Int32} {s0 : Nat} {r0 : Nat → Nat} {th : Nat → Option Nat} {ol : Nat → Option Nat} {e0 : Nat → Nat} {le : Nat → Nat} {mo : Nat → Nat} {al : Nat → Nat} {jn : Nat} {lst : Nat → Nat} {ff : Nat → Int32} {lq : Nat → Int32} {y : Nat} {f : Nat} {g : Nat} {mcn : Int32} {ed : Nat} {cap : Nat} {lf : Nat → Option Nat} {of : Nat → Int64} (h0 : M 0 = some (cStore ad qa qs fw)) (h12 : M 12 = some (cEnds ad 12 s0)) (h13 : M 13 = some (aI G 6 (nF r0))) (h14 : M 14 = some (aI G 6 (oF th))) (h15 : M 15 = some (aI G 6 (oF ol))) (h16 : M 16 = some (cLines ad )) (h3 : M 3 = some (cLaws ad )) (h4 : M 4 = some (aI G 36 (nF le))) (h5 : M 5 = some (aI G 36 (nF mo))) (h6 : M 6 = some (aI G 36 (nF al))) (h8 : M 8 = some (cOnes ad jn)) (h10 : M 10 = some (aI G 40 (nF lst))) (h20 : M 20 = some (aI G 120 ff)) (h21 : M 21 = some (aI G 120 lq)) (h17 : M 17 = some (cList ad mcn ed n)) (h18 : M 18 = some (aO G cap lf)) (h99 : M 99 = some (aJ G 1 of)) (hqa : 29 < qa ∧ qa < 51) (hqs : 29 < qs ∧ qs < 51) (hL : LSm G ad M n kd fm to sz rl en) (hw : LSw n kd sz rl en) (hs1 : 0 < s0) (hs0 : s0 ≤ 6) (hn1 : n < 120) (hr0 : ∀ j, j < s0 → r0 j < 6) (he0 : ∀ j, j < s0 → e0 j < 40 + n) (hth : ∀ j, j < s0 → th j = thE e0 j) (hol : ∀ j, j < s0 → ol j = olE e0 j) (hlst : ∀ u, u < 40 → lst u < 40) (hy : y < 6) (hfg : f ≤ g ∧ g ≤ 1000) (hle : ∀ j, j < 36 → le j < 100) (hmo : ∀ j, j < 36 → mo j < 100) (hal : ∀ j, j < 36 → al j ≤ 100) (hok : alw le mo r0 s0 y 6 ∧ brs fm to e0 (nI f) (nI g) s0 ∧ ¬ crw n kd fm to sz rl en lst al y (nI f) (nI g) r0 e0 s0) (hed : ed = ad 18) (hn : n < cap ∧ cap ≤ 1000) (fre0 : M (100 + 5 * n) = none) (fre1 : M (100 + 5 * n + 1) = none) (fre2 : M (100 + 5 * n + 2) = none) (fre3 : M (100 + 5 * n + 3) = none) (fre4 : M (100 + 5 * n + 4) = none) : Met l yL_put wsL_put rm_c_L_put_k_b (Pr G z ad M [.ref (ad 0), .int (nI y), .int (nI f), .int (nI g), .ref (ad 99)]) (Ai G z (fun (r : Int32) (u : (Nat → Nat) × Mem) => ∃ ff2 : Nat → Int32, ∃ lq2 : Nat → Int32, r = nI 0 ∧ u.2 12 = some (cEnds u.1 12 0) ∧ u.2 20 = some (aI G 120 ff2) ∧ u.2 21 = some (aI G 120 lq2) ∧ u.2 (100 + 5 * n) = some (cLine u.1 (100 + 5 * n) y (nI f) (nI g)) ∧ u.2 (100 + 5 * n + 1) = some (cEnds u.1 (100 + 5 * n + 1) s0) ∧ u.2 (100 + 5 * n + 2) = some (aI G 6 (nF (frs s0 r0))) ∧ u.2 (100 + 5 * n + 3) = some (aI G 6 (oF (thE (frsE s0 e0)))) ∧ u.2 (100 + 5 * n + 4) = some (aI G 6 (oF (olE (frsE s0 e0)))) ∧ u.2 17 = some (cList u.1 (mcn + nI 1) ed (n + 1)) ∧ u.2 18 = some (aO G cap (va_up lf n (some (u.1 (100 + 5 * n))))) ∧ u.2 99 = some (aJ G 1 (vp_updL of 0 ((nI n).toInt64))) ∧ (∀ j : Nat, j ≠ 12 → j ≠ 20 → j ≠ 21 → j ≠ (100 + 5 * n) → j ≠ (100 + 5 * n + 1) → j ≠ (100 + 5 * n + 2) → j ≠ (100 + 5 * n + 3) → j ≠ (100 + 5 * n + 4) → j ≠ 17 → j ≠ 18 → j ≠ 99 → u.2 j = M j) ∧ (∀ j : Nat, j ≠ (100 + 5 * n) → j ≠ (100 + 5 * n + 1) → j ≠ (100 + 5 * n + 2) → j ≠ (100 + 5 * n + 3) → j ≠ (100 + 5 * n + 4) → u.1 j = ad j))) 5 26 (fr z) := by
  refine mt_ofWH (cc := cL_put) (maxL := 6) (ret := (some .int)) (hh := [(0, 12, 15, 13), (0, 12, 19, 15), (0, 12, 23, 33)]) (by decide) rfl ?_
  intro p e s m args below meth c s₁ B hml hv
  obtain ⟨rfl, hv⟩ := hv
  have hI := Iv.entry hv
  have hx := B.exec
  have hb := B.bytes
  have hr := B.returns
  have hts := atoms_spec (ws := wsL_put) B.pre
  have hown : s.vm.findClass RL = some m.cls := findClass_of_methodNamed B.named
  have hlocks := B.notSynchronized
  have htab := vx_table (x := yL_put) B (hts _ List.mem_cons_self)
  have hl := lv_entry ([.ref (ad 0), .int (nI y), .int (nI f), .int (nI g), .ref (ad 99)]) (n := 6) (Nat.le_of_ble_eq_true rfl)
  rw [lg_entry_eq]
  generalize (lg_sl ([.ref (ad 0), .int (nI y), .int (nI f), .int (nI g), .ref (ad 99)]) ++ List.replicate (6 - (lg_sl ([.ref (ad 0), .int (nI y), .int (nI f), .int (nI g), .ref (ad 99)])).length) Slot.unset).toArray = ls at hl ⊢
  have hl : lv_has ls 6 [(0, .ref (ad 0)), (1, .int (nI y)), (2, .int (nI f)), (3, .int (nI g)), (4, .ref (ad 99))] := hl
  refine lv_aload hx hb dL_put_0 (lv_at hl 4 rfl) ?_
  refine lv_iconst (v := nI 0) hx hb dL_put_2 (by decide) ?_
  refine lv_aload_n hx hb dL_put_3 rfl (lv_at hl 0 rfl) ?_
  refine lv_iload_n hx hb dL_put_4 rfl (lv_at hl 1 rfl) ?_
  refine lv_iload_n hx hb dL_put_5 rfl (lv_at hl 2 rfl) ?_
  refine lv_iload_n hx hb dL_put_6 rfl (lv_at hl 3 rfl) ?_
  refine k_Ai (va_runV (As := [.int (nI y), .int (nI f), .int (nI g)]) (rest := [.int (nI 0), .ref (ad 99)]) ⟨hx, hb, hml, hown, hts⟩ (c_X9_putk_b l G z ad M (n := n) (kd := kd) (fm := fm) (to := to) (sz := sz) (rl := rl) (en := en) (qa := qa) (qs := qs) (fw := fw) (s0 := s0) (r0 := r0) (th := th) (ol := ol) (e0 := e0) (le := le) (mo := mo) (al := al) (jn := jn) (lst := lst) (ff := ff) (lq := lq) (y := y) (f := f) (g := g) (mcn := mcn) (ed := ed) (cap := cap) (lf := lf) h0 h12 h13 h14 h15 h16 h3 h4 h5 h6 h8 h10 h20 h21 h17 h18 hqa hqs hL hw hs1 hs0 hn1 hr0 he0 hth hol hlst hy hfg hle hmo hal hok hed hn fre0 fre1 fre2 fre3 fre4) (cwV 3 hts (gV (lwg_of t_620 rfl) (lwg_of t_621 rfl) (lwg_of t_622 rfl) (lwg_of t_1 rfl) (lwg_of t_623 rfl)) rfl rfl rfl (by decide +kernel) ⟨Nat.le_of_ble_eq_true rfl, Nat.le_of_ble_eq_true rfl⟩) (hI.preV h0 rfl) rfl rfl hl.1 rfl (lv_room (Nat.le_of_ble_eq_true rfl)) dL_put_7 ⟨Nat.le_of_ble_eq_true rfl, Nat.le_of_ble_eq_true rfl⟩) hI (fun r_1 ad_6 M_3 H_4 locs_5 hp_2 hI => ?_)
  obtain ⟨ff2_20, lq2_21, hr_7, hm_8, hm_9, hm_10, hm_11, hm_12, hm_13, hm_14, hm_15, hm_16, hm_17, hF_18, hAd_19⟩ := hp_2
  have hm_22 : M_3 12 = some (cEnds ad_6 12 0) := hm_8
  have hm_23 : M_3 20 = some (aI G 120 ff2_20) := hm_9
  have hm_24 : M_3 21 = some (aI G 120 lq2_21) := hm_10
  have hm_25 : M_3 (100 + 5 * n) = some (cLine ad_6 (100 + 5 * n) y (nI f) (nI g)) := hm_11
  have hm_26 : M_3 (100 + 5 * n + 1) = some (cEnds ad_6 (100 + 5 * n + 1) s0) := hm_12
  have hm_27 : M_3 (100 + 5 * n + 2) = some (aI G 6 (nF (frs s0 r0))) := hm_13
  have hm_28 : M_3 (100 + 5 * n + 3) = some (aI G 6 (oF (thE (frsE s0 e0)))) := hm_14
  have hm_29 : M_3 (100 + 5 * n + 4) = some (aI G 6 (oF (olE (frsE s0 e0)))) := hm_15
  have hm_30 : M_3 17 = some (cList ad_6 (mcn + nI 1) ed (n + 1)) := hm_16
  have hm_31 : M_3 18 = some (aO G cap (va_up lf n (some (ad_6 (100 + 5 * n))))) := hm_17
  have hAd_32 : ∀ j : Nat, j ≠ (100 + 5 * n) → j ≠ (100 + 5 * n + 1) → j ≠ (100 + 5 * n + 2) → j ≠ (100 + 5 * n + 3) → j ≠ (100 + 5 * n + 4) → ad_6 j = ad j := hAd_19
  have hF_33 : ∀ j : Nat, j ≠ 12 → j ≠ 20 → j ≠ 21 → j ≠ (100 + 5 * n) → j ≠ (100 + 5 * n + 1) → j ≠ (100 + 5 * n + 2) → j ≠ (100 + 5 * n + 3) → j ≠ (100 + 5 * n + 4) → j ≠ 17 → j ≠ 18 → M_3 j = M j := hF_18
  have hm_34 : M_3 0 = some (cStore ad_6 qa qs fw) := by rw [hF_33 0 (by decide) (by decide) (by decide) (by omega) (by omega) (by omega) (by omega) (by omega) (by decide) (by decide), h0]; simp only [cStore, hAd_32 1 (by omega) (by omega) (by omega) (by omega) (by omega), hAd_32 3 (by omega) (by omega) (by omega) (by omega) (by omega), hAd_32 8 (by omega) (by omega) (by omega) (by omega) (by omega), hAd_32 12 (by omega) (by omega) (by omega) (by omega) (by omega), hAd_32 16 (by omega) (by omega) (by omega) (by omega) (by omega), hAd_32 22 (by omega) (by omega) (by omega) (by omega) (by omega), hAd_32 23 (by omega) (by omega) (by omega) (by omega) (by omega), hAd_32 qa (by omega) (by omega) (by omega) (by omega) (by omega), hAd_32 qs (by omega) (by omega) (by omega) (by omega) (by omega)]
  have hm_35 : M_3 13 = some (aI G 6 (nF r0)) := by rw [hF_33 13 (by decide) (by decide) (by decide) (by omega) (by omega) (by omega) (by omega) (by omega) (by decide) (by decide), h13]
  have hm_36 : M_3 14 = some (aI G 6 (oF th)) := by rw [hF_33 14 (by decide) (by decide) (by decide) (by omega) (by omega) (by omega) (by omega) (by omega) (by decide) (by decide), h14]
  have hm_37 : M_3 15 = some (aI G 6 (oF ol)) := by rw [hF_33 15 (by decide) (by decide) (by decide) (by omega) (by omega) (by omega) (by omega) (by omega) (by decide) (by decide), h15]
  have hm_38 : M_3 16 = some (cLines ad_6 ) := by rw [hF_33 16 (by decide) (by decide) (by decide) (by omega) (by omega) (by omega) (by omega) (by omega) (by decide) (by decide), h16]; simp only [cLines, hAd_32 17 (by omega) (by omega) (by omega) (by omega) (by omega), hAd_32 19 (by omega) (by omega) (by omega) (by omega) (by omega), hAd_32 20 (by omega) (by omega) (by omega) (by omega) (by omega), hAd_32 21 (by omega) (by omega) (by omega) (by omega) (by omega)]
  have hm_39 : M_3 3 = some (cLaws ad_6 ) := by rw [hF_33 3 (by decide) (by decide) (by decide) (by omega) (by omega) (by omega) (by omega) (by omega) (by decide) (by decide), h3]; simp only [cLaws, hAd_32 4 (by omega) (by omega) (by omega) (by omega) (by omega), hAd_32 5 (by omega) (by omega) (by omega) (by omega) (by omega), hAd_32 6 (by omega) (by omega) (by omega) (by omega) (by omega), hAd_32 7 (by omega) (by omega) (by omega) (by omega) (by omega)]
  have hm_40 : M_3 4 = some (aI G 36 (nF le)) := by rw [hF_33 4 (by decide) (by decide) (by decide) (by omega) (by omega) (by omega) (by omega) (by omega) (by decide) (by decide), h4]
  have hm_41 : M_3 5 = some (aI G 36 (nF mo)) := by rw [hF_33 5 (by decide) (by decide) (by decide) (by omega) (by omega) (by omega) (by omega) (by omega) (by decide) (by decide), h5]
  have hm_42 : M_3 6 = some (aI G 36 (nF al)) := by rw [hF_33 6 (by decide) (by decide) (by decide) (by omega) (by omega) (by omega) (by omega) (by omega) (by decide) (by decide), h6]
  have hm_43 : M_3 8 = some (cOnes ad_6 jn) := by rw [hF_33 8 (by decide) (by decide) (by decide) (by omega) (by omega) (by omega) (by omega) (by omega) (by decide) (by decide), h8]; simp only [cOnes, hAd_32 9 (by omega) (by omega) (by omega) (by omega) (by omega), hAd_32 10 (by omega) (by omega) (by omega) (by omega) (by omega), hAd_32 11 (by omega) (by omega) (by omega) (by omega) (by omega)]
  have hm_44 : M_3 10 = some (aI G 40 (nF lst)) := by rw [hF_33 10 (by decide) (by decide) (by decide) (by omega) (by omega) (by omega) (by omega) (by omega) (by decide) (by decide), h10]
  have hm_45 : M_3 99 = some (aJ G 1 of) := by rw [hF_33 99 (by decide) (by decide) (by decide) (by omega) (by omega) (by omega) (by omega) (by omega) (by decide) (by decide), h99]
  have hF_46 : ∀ j : Nat, j ≠ 12 → j ≠ 20 → j ≠ 21 → j ≠ (100 + 5 * n) → j ≠ (100 + 5 * n + 1) → j ≠ (100 + 5 * n + 2) → j ≠ (100 + 5 * n + 3) → j ≠ (100 + 5 * n + 4) → j ≠ 17 → j ≠ 18 → M_3 j = M j := fun j q0 q1 q2 q3 q4 q5 q6 q7 q8 q9 => (hF_33 j q0 q1 q2 q3 q4 q5 q6 q7 q8 q9)
  clear hF_18
  rw [hr_7]
  refine n_eqs (show ([.int (nI n), .int (nI 0), .ref (ad 99)] : List Value) = [.int (nI n), .int (nI 0), .ref (ad_6 99)] from by rw [hAd_32 99 (by omega) (by omega) (by omega) (by omega) (by omega)]) ?_
  refine lv_i2l (v := (nI n).toInt64) hx hb dL_put_10 rfl ?_
  refine h_last (i := 0) (x := (nI n).toInt64) hx hb hI hm_45 (by omega) (by decide) dL_put_11 (fun M_47 H_48 locs_49 eM_50 hI => ?_)
  have hm_51 : M_47 0 = some (cStore ad_6 qa qs fw) := by rw [eM_50, va_up_ne _ _ (by decide)]; exact hm_34
  have hm_52 : M_47 13 = some (aI G 6 (nF r0)) := by rw [eM_50, va_up_ne _ _ (by decide)]; exact hm_35
  have hm_53 : M_47 14 = some (aI G 6 (oF th)) := by rw [eM_50, va_up_ne _ _ (by decide)]; exact hm_36
  have hm_54 : M_47 15 = some (aI G 6 (oF ol)) := by rw [eM_50, va_up_ne _ _ (by decide)]; exact hm_37
  have hm_55 : M_47 16 = some (cLines ad_6 ) := by rw [eM_50, va_up_ne _ _ (by decide)]; exact hm_38
  have hm_56 : M_47 3 = some (cLaws ad_6 ) := by rw [eM_50, va_up_ne _ _ (by decide)]; exact hm_39
  have hm_57 : M_47 4 = some (aI G 36 (nF le)) := by rw [eM_50, va_up_ne _ _ (by decide)]; exact hm_40
  have hm_58 : M_47 5 = some (aI G 36 (nF mo)) := by rw [eM_50, va_up_ne _ _ (by decide)]; exact hm_41
  have hm_59 : M_47 6 = some (aI G 36 (nF al)) := by rw [eM_50, va_up_ne _ _ (by decide)]; exact hm_42
  have hm_60 : M_47 8 = some (cOnes ad_6 jn) := by rw [eM_50, va_up_ne _ _ (by decide)]; exact hm_43
  have hm_61 : M_47 10 = some (aI G 40 (nF lst)) := by rw [eM_50, va_up_ne _ _ (by decide)]; exact hm_44
  have hm_62 : M_47 99 = some (aJ G 1 (vp_updL of 0 ((nI n).toInt64))) := by rw [eM_50]; exact va_up_self _ _ _
  have hm_63 : M_47 12 = some (cEnds ad_6 12 0) := by rw [eM_50, va_up_ne _ _ (by decide)]; exact hm_22
  have hm_64 : M_47 20 = some (aI G 120 ff2_20) := by rw [eM_50, va_up_ne _ _ (by decide)]; exact hm_23
  have hm_65 : M_47 21 = some (aI G 120 lq2_21) := by rw [eM_50, va_up_ne _ _ (by decide)]; exact hm_24
  have hm_66 : M_47 (100 + 5 * n) = some (cLine ad_6 (100 + 5 * n) y (nI f) (nI g)) := by rw [eM_50, va_up_ne _ _ (by omega)]; exact hm_25
  have hm_67 : M_47 (100 + 5 * n + 1) = some (cEnds ad_6 (100 + 5 * n + 1) s0) := by rw [eM_50, va_up_ne _ _ (by omega)]; exact hm_26
  have hm_68 : M_47 (100 + 5 * n + 2) = some (aI G 6 (nF (frs s0 r0))) := by rw [eM_50, va_up_ne _ _ (by omega)]; exact hm_27
  have hm_69 : M_47 (100 + 5 * n + 3) = some (aI G 6 (oF (thE (frsE s0 e0)))) := by rw [eM_50, va_up_ne _ _ (by omega)]; exact hm_28
  have hm_70 : M_47 (100 + 5 * n + 4) = some (aI G 6 (oF (olE (frsE s0 e0)))) := by rw [eM_50, va_up_ne _ _ (by omega)]; exact hm_29
  have hm_71 : M_47 17 = some (cList ad_6 (mcn + nI 1) ed (n + 1)) := by rw [eM_50, va_up_ne _ _ (by decide)]; exact hm_30
  have hm_72 : M_47 18 = some (aO G cap (va_up lf n (some (ad_6 (100 + 5 * n))))) := by rw [eM_50, va_up_ne _ _ (by decide)]; exact hm_31
  have hF_73 : ∀ j : Nat, j ≠ 12 → j ≠ 20 → j ≠ 21 → j ≠ (100 + 5 * n) → j ≠ (100 + 5 * n + 1) → j ≠ (100 + 5 * n + 2) → j ≠ (100 + 5 * n + 3) → j ≠ (100 + 5 * n + 4) → j ≠ 17 → j ≠ 18 → j ≠ 99 → M_47 j = M j := fun j q0 q1 q2 q3 q4 q5 q6 q7 q8 q9 q10 => by rw [eM_50, va_up_ne _ _ q10]; exact hF_46 j q0 q1 q2 q3 q4 q5 q6 q7 q8 q9
  clear hm_34 hm_35 hm_36 hm_37 hm_38 hm_39 hm_40 hm_41 hm_42 hm_43 hm_44 hm_45 hm_22 hm_23 hm_24 hm_25 hm_26 hm_27 hm_28 hm_29 hm_30 hm_31 hF_46
  refine lv_goto (tgt := 27) hx hb dL_put_12 (by decide) ?_
  refine lv_iconst (v := nI 0) hx hb dL_put_27 (by decide) ?_
  exact e_Ai hx hb hr rfl hlocks hI ⟨ff2_20, lq2_21, rfl, hm_63, hm_64, hm_65, hm_66, hm_67, hm_68, hm_69, hm_70, hm_71, hm_72, hm_62, (fun j q0 q1 q2 q3 q4 q5 q6 q7 q8 q9 q10 => hF_73 j q0 q1 q2 q3 q4 q5 q6 q7 q8 q9 q10), (fun j q0 q1 q2 q3 q4 => (by show ad_6 j = ad j; rw [hAd_32 j q0 q1 q2 q3 q4]))⟩ dL_put_28

/-- L_put -/
abbrev rm_c_L_put_k_1 : Room := { frames := 9, cells := 6, slots := 226, locals := 237 }
set_option maxHeartbeats 4000000 in
set_option maxRecDepth 100000 in
theorem c_L_put_k_1 (l : Launch) (hst : l.stackTraces = false) (G : GG) (z : Nat) (ad : Nat → Nat) (M : Mem) {n : Nat} {kd : Nat → Nat} {fm : Nat → Int32} {to : Nat → Int32} {sz : Nat → Nat} {rl : Nat → Nat → Nat} {en : Nat → Nat → Nat} {qa : Nat} {qs : Nat} {fw : Int32} {s0 : Nat} {r0 : Nat → Nat} {th : Nat → Option Nat} {ol : Nat → Option Nat} {e0 : Nat → Nat} {le : Nat → Nat} {mo : Nat → Nat} {al : Nat → Nat} {jn : Nat} {lst : Nat → Nat} {ff : Nat → Int32} {lq : Nat → Int32} {y : Nat} {f : Nat} {g : Nat} {mcn : Int32} {ed : Nat} {lf : Nat → Option Nat} {of : Nat → Int64} (h0 : M 0 = some (cStore ad qa qs fw)) (h12 : M 12 = some (cEnds ad 12 s0)) (h13 : M 13 = some (aI G 6 (nF r0))) (h14 : M 14 = some (aI G 6 (oF th))) (h15 : M 15 = some (aI G 6 (oF ol))) (h16 : M 16 = some (cLines ad )) (h3 : M 3 = some (cLaws ad )) (h4 : M 4 = some (aI G 36 (nF le))) (h5 : M 5 = some (aI G 36 (nF mo))) (h6 : M 6 = some (aI G 36 (nF al))) (h8 : M 8 = some (cOnes ad jn)) (h10 : M 10 = some (aI G 40 (nF lst))) (h20 : M 20 = some (aI G 120 ff)) (h21 : M 21 = some (aI G 120 lq)) (h17 : M 17 = some (cList ad mcn ed n)) (h18 : M 18 = some (aO G n lf)) (h99 : M 99 = some (aJ G 1 of)) (hqa : 29 < qa ∧ qa < 51) (hqs : 29 < qs ∧ qs < 51) (hL : LSm G ad M n kd fm to sz rl en) (hw : LSw n kd sz rl en) (hs1 : 0 < s0) (hs0 : s0 ≤ 6) (hn1 : n < 120) (hr0 : ∀ j, j < s0 → r0 j < 6) (he0 : ∀ j, j < s0 → e0 j < 40 + n) (hth : ∀ j, j < s0 → th j = thE e0 j) (hol : ∀ j, j < s0 → ol j = olE e0 j) (hlst : ∀ u, u < 40 → lst u < 40) (hy : y < 6) (hfg : f ≤ g ∧ g ≤ 1000) (hle : ∀ j, j < 36 → le j < 100) (hmo : ∀ j, j < 36 → mo j < 100) (hal : ∀ j, j < 36 → al j ≤ 100) (hok : alw le mo r0 s0 y 6 ∧ brs fm to e0 (nI f) (nI g) s0 ∧ ¬ crw n kd fm to sz rl en lst al y (nI f) (nI g) r0 e0 s0) (hed : ed = ad 18) (hn : 0 < n) (hlf : ∀ i, i < n → lf i = some (ad (100 + 5 * i))) (fre0 : M (100 + 5 * n) = none) (fre1 : M (100 + 5 * n + 1) = none) (fre2 : M (100 + 5 * n + 2) = none) (fre3 : M (100 + 5 * n + 3) = none) (fre4 : M (100 + 5 * n + 4) = none) (fre5 : M 29 = none) : Met l yL_put wsL_put rm_c_L_put_k_1 (Pr G z ad M [.ref (ad 0), .int (nI y), .int (nI f), .int (nI g), .ref (ad 99)]) (Ai G z (fun (r : Int32) (u : (Nat → Nat) × Mem) => ∃ ff2 : Nat → Int32, ∃ lq2 : Nat → Int32, r = nI 0 ∧ u.2 12 = some (cEnds u.1 12 0) ∧ u.2 20 = some (aI G 120 ff2) ∧ u.2 21 = some (aI G 120 lq2) ∧ u.2 (100 + 5 * n) = some (cLine u.1 (100 + 5 * n) y (nI f) (nI g)) ∧ u.2 (100 + 5 * n + 1) = some (cEnds u.1 (100 + 5 * n + 1) s0) ∧ u.2 (100 + 5 * n + 2) = some (aI G 6 (nF (frs s0 r0))) ∧ u.2 (100 + 5 * n + 3) = some (aI G 6 (oF (thE (frsE s0 e0)))) ∧ u.2 (100 + 5 * n + 4) = some (aI G 6 (oF (olE (frsE s0 e0)))) ∧ u.2 17 = some (cList u.1 (mcn + nI 1) (u.1 18) (n + 1)) ∧ u.2 18 = some (aO G (n + max 1 (n / 2)) (va_up (va_cpy lf (fun _ => none) 0 0 n) n (some (u.1 (100 + 5 * n))))) ∧ u.2 99 = some (aJ G 1 (vp_updL of 0 ((nI n).toInt64))) ∧ (∀ j : Nat, j ≠ 12 → j ≠ 20 → j ≠ 21 → j ≠ (100 + 5 * n) → j ≠ (100 + 5 * n + 1) → j ≠ (100 + 5 * n + 2) → j ≠ (100 + 5 * n + 3) → j ≠ (100 + 5 * n + 4) → j ≠ 17 → j ≠ 18 → j ≠ 99 → u.2 j = M j) ∧ (∀ j : Nat, j ≠ (100 + 5 * n) → j ≠ (100 + 5 * n + 1) → j ≠ (100 + 5 * n + 2) → j ≠ (100 + 5 * n + 3) → j ≠ (100 + 5 * n + 4) → j ≠ 18 → u.1 j = ad j))) 6 226 (fr z) := by
  refine mt_ofWH (cc := cL_put) (maxL := 6) (ret := (some .int)) (hh := [(0, 12, 15, 13), (0, 12, 19, 15), (0, 12, 23, 33)]) (by decide) rfl ?_
  intro p e s m args below meth c s₁ B hml hv
  obtain ⟨rfl, hv⟩ := hv
  have hI := Iv.entry hv
  have hx := B.exec
  have hb := B.bytes
  have hr := B.returns
  have hts := atoms_spec (ws := wsL_put) B.pre
  have hown : s.vm.findClass RL = some m.cls := findClass_of_methodNamed B.named
  have hlocks := B.notSynchronized
  have htab := vx_table (x := yL_put) B (hts _ List.mem_cons_self)
  have hl := lv_entry ([.ref (ad 0), .int (nI y), .int (nI f), .int (nI g), .ref (ad 99)]) (n := 6) (Nat.le_of_ble_eq_true rfl)
  rw [lg_entry_eq]
  generalize (lg_sl ([.ref (ad 0), .int (nI y), .int (nI f), .int (nI g), .ref (ad 99)]) ++ List.replicate (6 - (lg_sl ([.ref (ad 0), .int (nI y), .int (nI f), .int (nI g), .ref (ad 99)])).length) Slot.unset).toArray = ls at hl ⊢
  have hl : lv_has ls 6 [(0, .ref (ad 0)), (1, .int (nI y)), (2, .int (nI f)), (3, .int (nI g)), (4, .ref (ad 99))] := hl
  refine lv_aload hx hb dL_put_0 (lv_at hl 4 rfl) ?_
  refine lv_iconst (v := nI 0) hx hb dL_put_2 (by decide) ?_
  refine lv_aload_n hx hb dL_put_3 rfl (lv_at hl 0 rfl) ?_
  refine lv_iload_n hx hb dL_put_4 rfl (lv_at hl 1 rfl) ?_
  refine lv_iload_n hx hb dL_put_5 rfl (lv_at hl 2 rfl) ?_
  refine lv_iload_n hx hb dL_put_6 rfl (lv_at hl 3 rfl) ?_
  refine k_Ai (va_runV (As := [.int (nI y), .int (nI f), .int (nI g)]) (rest := [.int (nI 0), .ref (ad 99)]) ⟨hx, hb, hml, hown, hts⟩ (c_X9_putk_1 l G z ad M (n := n) (kd := kd) (fm := fm) (to := to) (sz := sz) (rl := rl) (en := en) (qa := qa) (qs := qs) (fw := fw) (s0 := s0) (r0 := r0) (th := th) (ol := ol) (e0 := e0) (le := le) (mo := mo) (al := al) (jn := jn) (lst := lst) (ff := ff) (lq := lq) (y := y) (f := f) (g := g) (mcn := mcn) (ed := ed) (lf := lf) h0 h12 h13 h14 h15 h16 h3 h4 h5 h6 h8 h10 h20 h21 h17 h18 hqa hqs hL hw hs1 hs0 hn1 hr0 he0 hth hol hlst hy hfg hle hmo hal hok hed hn hlf fre0 fre1 fre2 fre3 fre4 fre5) (cwV 3 hts (gV (lwg_of t_620 rfl) (lwg_of t_621 rfl) (lwg_of t_622 rfl) (lwg_of t_1 rfl) (lwg_of t_623 rfl)) rfl rfl rfl (by decide +kernel) ⟨Nat.le_of_ble_eq_true rfl, Nat.le_of_ble_eq_true rfl⟩) (hI.preV h0 rfl) rfl rfl hl.1 rfl (lv_room (Nat.le_of_ble_eq_true rfl)) dL_put_7 ⟨Nat.le_of_ble_eq_true rfl, Nat.le_of_ble_eq_true rfl⟩) hI (fun r_1 ad_6 M_3 H_4 locs_5 hp_2 hI => ?_)
  obtain ⟨ff2_20, lq2_21, hr_7, hm_8, hm_9, hm_10, hm_11, hm_12, hm_13, hm_14, hm_15, hm_16, hm_17, hF_18, hAd_19⟩ := hp_2
  have hm_22 : M_3 12 = some (cEnds ad_6 12 0) := hm_8
  have hm_23 : M_3 20 = some (aI G 120 ff2_20) := hm_9
  have hm_24 : M_3 21 = some (aI G 120 lq2_21) := hm_10
  have hm_25 : M_3 (100 + 5 * n) = some (cLine ad_6 (100 + 5 * n) y (nI f) (nI g)) := hm_11
  have hm_26 : M_3 (100 + 5 * n + 1) = some (cEnds ad_6 (100 + 5 * n + 1) s0) := hm_12
  have hm_27 : M_3 (100 + 5 * n + 2) = some (aI G 6 (nF (frs s0 r0))) := hm_13
  have hm_28 : M_3 (100 + 5 * n + 3) = some (aI G 6 (oF (thE (frsE s0 e0)))) := hm_14
  have hm_29 : M_3 (100 + 5 * n + 4) = some (aI G 6 (oF (olE (frsE s0 e0)))) := hm_15
  have hm_30 : M_3 17 = some (cList ad_6 (mcn + nI 1) (ad_6 18) (n + 1)) := hm_16
  have hm_31 : M_3 18 = some (aO G (n + max 1 (n / 2)) (va_up (va_cpy lf (fun _ => none) 0 0 n) n (some (ad_6 (100 + 5 * n))))) := hm_17
  have hAd_32 : ∀ j : Nat, j ≠ (100 + 5 * n) → j ≠ (100 + 5 * n + 1) → j ≠ (100 + 5 * n + 2) → j ≠ (100 + 5 * n + 3) → j ≠ (100 + 5 * n + 4) → j ≠ 18 → ad_6 j = ad j := hAd_19
  have hF_33 : ∀ j : Nat, j ≠ 12 → j ≠ 20 → j ≠ 21 → j ≠ (100 + 5 * n) → j ≠ (100 + 5 * n + 1) → j ≠ (100 + 5 * n + 2) → j ≠ (100 + 5 * n + 3) → j ≠ (100 + 5 * n + 4) → j ≠ 17 → j ≠ 18 → M_3 j = M j := hF_18
  have hm_34 : M_3 0 = some (cStore ad_6 qa qs fw) := by rw [hF_33 0 (by decide) (by decide) (by decide) (by omega) (by omega) (by omega) (by omega) (by omega) (by decide) (by decide), h0]; simp only [cStore, hAd_32 1 (by omega) (by omega) (by omega) (by omega) (by omega) (by decide), hAd_32 3 (by omega) (by omega) (by omega) (by omega) (by omega) (by decide), hAd_32 8 (by omega) (by omega) (by omega) (by omega) (by omega) (by decide), hAd_32 12 (by omega) (by omega) (by omega) (by omega) (by omega) (by decide), hAd_32 16 (by omega) (by omega) (by omega) (by omega) (by omega) (by decide), hAd_32 22 (by omega) (by omega) (by omega) (by omega) (by omega) (by decide), hAd_32 23 (by omega) (by omega) (by omega) (by omega) (by omega) (by decide), hAd_32 qa (by omega) (by omega) (by omega) (by omega) (by omega) (by omega), hAd_32 qs (by omega) (by omega) (by omega) (by omega) (by omega) (by omega)]
  have hm_35 : M_3 13 = some (aI G 6 (nF r0)) := by rw [hF_33 13 (by decide) (by decide) (by decide) (by omega) (by omega) (by omega) (by omega) (by omega) (by decide) (by decide), h13]
  have hm_36 : M_3 14 = some (aI G 6 (oF th)) := by rw [hF_33 14 (by decide) (by decide) (by decide) (by omega) (by omega) (by omega) (by omega) (by omega) (by decide) (by decide), h14]
  have hm_37 : M_3 15 = some (aI G 6 (oF ol)) := by rw [hF_33 15 (by decide) (by decide) (by decide) (by omega) (by omega) (by omega) (by omega) (by omega) (by decide) (by decide), h15]
  have hm_38 : M_3 16 = some (cLines ad_6 ) := by rw [hF_33 16 (by decide) (by decide) (by decide) (by omega) (by omega) (by omega) (by omega) (by omega) (by decide) (by decide), h16]; simp only [cLines, hAd_32 17 (by omega) (by omega) (by omega) (by omega) (by omega) (by decide), hAd_32 19 (by omega) (by omega) (by omega) (by omega) (by omega) (by decide), hAd_32 20 (by omega) (by omega) (by omega) (by omega) (by omega) (by decide), hAd_32 21 (by omega) (by omega) (by omega) (by omega) (by omega) (by decide)]
  have hm_39 : M_3 3 = some (cLaws ad_6 ) := by rw [hF_33 3 (by decide) (by decide) (by decide) (by omega) (by omega) (by omega) (by omega) (by omega) (by decide) (by decide), h3]; simp only [cLaws, hAd_32 4 (by omega) (by omega) (by omega) (by omega) (by omega) (by decide), hAd_32 5 (by omega) (by omega) (by omega) (by omega) (by omega) (by decide), hAd_32 6 (by omega) (by omega) (by omega) (by omega) (by omega) (by decide), hAd_32 7 (by omega) (by omega) (by omega) (by omega) (by omega) (by decide)]
  have hm_40 : M_3 4 = some (aI G 36 (nF le)) := by rw [hF_33 4 (by decide) (by decide) (by decide) (by omega) (by omega) (by omega) (by omega) (by omega) (by decide) (by decide), h4]
  have hm_41 : M_3 5 = some (aI G 36 (nF mo)) := by rw [hF_33 5 (by decide) (by decide) (by decide) (by omega) (by omega) (by omega) (by omega) (by omega) (by decide) (by decide), h5]
  have hm_42 : M_3 6 = some (aI G 36 (nF al)) := by rw [hF_33 6 (by decide) (by decide) (by decide) (by omega) (by omega) (by omega) (by omega) (by omega) (by decide) (by decide), h6]
  have hm_43 : M_3 8 = some (cOnes ad_6 jn) := by rw [hF_33 8 (by decide) (by decide) (by decide) (by omega) (by omega) (by omega) (by omega) (by omega) (by decide) (by decide), h8]; simp only [cOnes, hAd_32 9 (by omega) (by omega) (by omega) (by omega) (by omega) (by decide), hAd_32 10 (by omega) (by omega) (by omega) (by omega) (by omega) (by decide), hAd_32 11 (by omega) (by omega) (by omega) (by omega) (by omega) (by decide)]
  have hm_44 : M_3 10 = some (aI G 40 (nF lst)) := by rw [hF_33 10 (by decide) (by decide) (by decide) (by omega) (by omega) (by omega) (by omega) (by omega) (by decide) (by decide), h10]
  have hm_45 : M_3 99 = some (aJ G 1 of) := by rw [hF_33 99 (by decide) (by decide) (by decide) (by omega) (by omega) (by omega) (by omega) (by omega) (by decide) (by decide), h99]
  have fr_46 : M_3 29 = none := by rw [hF_33 29 (by decide) (by decide) (by decide) (by omega) (by omega) (by omega) (by omega) (by omega) (by decide) (by decide)]; exact fre5
  have hF_47 : ∀ j : Nat, j ≠ 12 → j ≠ 20 → j ≠ 21 → j ≠ (100 + 5 * n) → j ≠ (100 + 5 * n + 1) → j ≠ (100 + 5 * n + 2) → j ≠ (100 + 5 * n + 3) → j ≠ (100 + 5 * n + 4) → j ≠ 17 → j ≠ 18 → M_3 j = M j := fun j q0 q1 q2 q3 q4 q5 q6 q7 q8 q9 => (hF_33 j q0 q1 q2 q3 q4 q5 q6 q7 q8 q9)
  clear hF_18
  rw [hr_7]
  refine n_eqs (show ([.int (nI n), .int (nI 0), .ref (ad 99)] : List Value) = [.int (nI n), .int (nI 0), .ref (ad_6 99)] from by rw [hAd_32 99 (by omega) (by omega) (by omega) (by omega) (by omega) (by decide)]) ?_
  refine lv_i2l (v := (nI n).toInt64) hx hb dL_put_10 rfl ?_
  refine h_last (i := 0) (x := (nI n).toInt64) hx hb hI hm_45 (by omega) (by decide) dL_put_11 (fun M_48 H_49 locs_50 eM_51 hI => ?_)
  have hm_52 : M_48 0 = some (cStore ad_6 qa qs fw) := by rw [eM_51, va_up_ne _ _ (by decide)]; exact hm_34
  have hm_53 : M_48 13 = some (aI G 6 (nF r0)) := by rw [eM_51, va_up_ne _ _ (by decide)]; exact hm_35
  have hm_54 : M_48 14 = some (aI G 6 (oF th)) := by rw [eM_51, va_up_ne _ _ (by decide)]; exact hm_36
  have hm_55 : M_48 15 = some (aI G 6 (oF ol)) := by rw [eM_51, va_up_ne _ _ (by decide)]; exact hm_37
  have hm_56 : M_48 16 = some (cLines ad_6 ) := by rw [eM_51, va_up_ne _ _ (by decide)]; exact hm_38
  have hm_57 : M_48 3 = some (cLaws ad_6 ) := by rw [eM_51, va_up_ne _ _ (by decide)]; exact hm_39
  have hm_58 : M_48 4 = some (aI G 36 (nF le)) := by rw [eM_51, va_up_ne _ _ (by decide)]; exact hm_40
  have hm_59 : M_48 5 = some (aI G 36 (nF mo)) := by rw [eM_51, va_up_ne _ _ (by decide)]; exact hm_41
  have hm_60 : M_48 6 = some (aI G 36 (nF al)) := by rw [eM_51, va_up_ne _ _ (by decide)]; exact hm_42
  have hm_61 : M_48 8 = some (cOnes ad_6 jn) := by rw [eM_51, va_up_ne _ _ (by decide)]; exact hm_43
  have hm_62 : M_48 10 = some (aI G 40 (nF lst)) := by rw [eM_51, va_up_ne _ _ (by decide)]; exact hm_44
  have hm_63 : M_48 99 = some (aJ G 1 (vp_updL of 0 ((nI n).toInt64))) := by rw [eM_51]; exact va_up_self _ _ _
  have hm_64 : M_48 12 = some (cEnds ad_6 12 0) := by rw [eM_51, va_up_ne _ _ (by decide)]; exact hm_22
  have hm_65 : M_48 20 = some (aI G 120 ff2_20) := by rw [eM_51, va_up_ne _ _ (by decide)]; exact hm_23
  have hm_66 : M_48 21 = some (aI G 120 lq2_21) := by rw [eM_51, va_up_ne _ _ (by decide)]; exact hm_24
  have hm_67 : M_48 (100 + 5 * n) = some (cLine ad_6 (100 + 5 * n) y (nI f) (nI g)) := by rw [eM_51, va_up_ne _ _ (by omega)]; exact hm_25
  have hm_68 : M_48 (100 + 5 * n + 1) = some (cEnds ad_6 (100 + 5 * n + 1) s0) := by rw [eM_51, va_up_ne _ _ (by omega)]; exact hm_26
  have hm_69 : M_48 (100 + 5 * n + 2) = some (aI G 6 (nF (frs s0 r0))) := by rw [eM_51, va_up_ne _ _ (by omega)]; exact hm_27
  have hm_70 : M_48 (100 + 5 * n + 3) = some (aI G 6 (oF (thE (frsE s0 e0)))) := by rw [eM_51, va_up_ne _ _ (by omega)]; exact hm_28
  have hm_71 : M_48 (100 + 5 * n + 4) = some (aI G 6 (oF (olE (frsE s0 e0)))) := by rw [eM_51, va_up_ne _ _ (by omega)]; exact hm_29
  have hm_72 : M_48 17 = some (cList ad_6 (mcn + nI 1) (ad_6 18) (n + 1)) := by rw [eM_51, va_up_ne _ _ (by decide)]; exact hm_30
  have hm_73 : M_48 18 = some (aO G (n + max 1 (n / 2)) (va_up (va_cpy lf (fun _ => none) 0 0 n) n (some (ad_6 (100 + 5 * n))))) := by rw [eM_51, va_up_ne _ _ (by decide)]; exact hm_31
  have fr_74 : M_48 29 = none := by rw [eM_51, va_up_ne _ _ (by decide)]; exact fr_46
  have hF_75 : ∀ j : Nat, j ≠ 12 → j ≠ 20 → j ≠ 21 → j ≠ (100 + 5 * n) → j ≠ (100 + 5 * n + 1) → j ≠ (100 + 5 * n + 2) → j ≠ (100 + 5 * n + 3) → j ≠ (100 + 5 * n + 4) → j ≠ 17 → j ≠ 18 → j ≠ 99 → M_48 j = M j := fun j q0 q1 q2 q3 q4 q5 q6 q7 q8 q9 q10 => by rw [eM_51, va_up_ne _ _ q10]; exact hF_47 j q0 q1 q2 q3 q4 q5 q6 q7 q8 q9
  clear hm_34 hm_35 hm_36 hm_37 hm_38 hm_39 hm_40 hm_41 hm_42 hm_43 hm_44 hm_45 hm_22 hm_23 hm_24 hm_25 hm_26 hm_27 hm_28 hm_29 hm_30 hm_31 fr_46 hF_47
  refine lv_goto (tgt := 27) hx hb dL_put_12 (by decide) ?_
  refine lv_iconst (v := nI 0) hx hb dL_put_27 (by decide) ?_
  exact e_Ai hx hb hr rfl hlocks hI ⟨ff2_20, lq2_21, rfl, hm_64, hm_65, hm_66, hm_67, hm_68, hm_69, hm_70, hm_71, hm_72, hm_73, hm_63, (fun j q0 q1 q2 q3 q4 q5 q6 q7 q8 q9 q10 => hF_75 j q0 q1 q2 q3 q4 q5 q6 q7 q8 q9 q10), (fun j q0 q1 q2 q3 q4 q5 => (by show ad_6 j = ad j; rw [hAd_32 j q0 q1 q2 q3 q4 q5]))⟩ dL_put_28

/-- L_put -/
abbrev rm_c_L_put_a : Room := { frames := 8, cells := 1, slots := 6, locals := 135 }
set_option maxHeartbeats 4000000 in
set_option maxRecDepth 100000 in
theorem c_L_put_a (l : Launch) (hst : l.stackTraces = false) (G : GG) (z : Nat) (ad : Nat → Nat) (M : Mem) {qa : Nat} {qs : Nat} {fw : Int32} {x0 : Int32} {x1 : Int32} {x2 : Int32} (h0 : M 0 = some (cStore ad qa qs fw)) (hbad : x0 < 0 ∨ ¬ x0 < nI 6) : Met l yL_put wsL_put rm_c_L_put_a (Pr G z ad M [.ref (ad 0), .int x0, .int x1, .int x2, .ref (ad 99)]) (Ni G z ad (fun (r : Int32) (M' : Mem) => r = nI 1 ∧ (∀ j : Nat,  M' j = M j))) 1 6 (fr z) := by
  refine mt_ofWH (cc := cL_put) (maxL := 6) (ret := (some .int)) (hh := [(0, 12, 15, 13), (0, 12, 19, 15), (0, 12, 23, 33)]) (by decide) rfl ?_
  intro p e s m args below meth c s₁ B hml hv
  obtain ⟨rfl, hv⟩ := hv
  have hI := Iv.entry hv
  have hx := B.exec
  have hb := B.bytes
  have hr := B.returns
  have hts := atoms_spec (ws := wsL_put) B.pre
  have hown : s.vm.findClass RL = some m.cls := findClass_of_methodNamed B.named
  have hlocks := B.notSynchronized
  have htab := vx_table (x := yL_put) B (hts _ List.mem_cons_self)
  have cl_13 := hts _ (List.mem_cons_of_mem _ (lwg_of t_471 rfl))
  have hl := lv_entry ([.ref (ad 0), .int x0, .int x1, .int x2, .ref (ad 99)]) (n := 6) (Nat.le_of_ble_eq_true rfl)
  rw [lg_entry_eq]
  generalize (lg_sl ([.ref (ad 0), .int x0, .int x1, .int x2, .ref (ad 99)]) ++ List.replicate (6 - (lg_sl ([.ref (ad 0), .int x0, .int x1, .int x2, .ref (ad 99)])).length) Slot.unset).toArray = ls at hl ⊢
  have hl : lv_has ls 6 [(0, .ref (ad 0)), (1, .int x0), (2, .int x1), (3, .int x2), (4, .ref (ad 99))] := hl
  refine lv_aload hx hb dL_put_0 (lv_at hl 4 rfl) ?_
  refine lv_iconst (v := nI 0) hx hb dL_put_2 (by decide) ?_
  refine lv_aload_n hx hb dL_put_3 rfl (lv_at hl 0 rfl) ?_
  refine lv_iload_n hx hb dL_put_4 rfl (lv_at hl 1 rfl) ?_
  refine lv_iload_n hx hb dL_put_5 rfl (lv_at hl 2 rfl) ?_
  refine lv_iload_n hx hb dL_put_6 rfl (lv_at hl 3 rfl) ?_
  refine k_T (vx_runV (As := [.int x0, .int x1, .int x2]) (rest := [.int (nI 0), .ref (ad 99)]) ⟨hx, hb, hml, hown, hts⟩ (c_X9_put_a l hst G z ad M (x0 := x0) (x1 := x1) (x2 := x2) hbad) (cwV 3 hts (gV (lwg_of t_620 rfl) (lwg_of t_621 rfl) (lwg_of t_622 rfl) (lwg_of t_1 rfl) (lwg_of t_623 rfl)) rfl rfl rfl (by decide +kernel) ⟨Nat.le_of_ble_eq_true rfl, Nat.le_of_ble_eq_true rfl⟩) (hI.preV h0 rfl) rfl rfl hl.1 rfl (lv_room (Nat.le_of_ble_eq_true rfl)) dL_put_7 ⟨Nat.le_of_ble_eq_true rfl, Nat.le_of_ble_eq_true rfl⟩) hI (fun ce q9 H_3 locs_4 hI hce hcv hcl => ?_)
  refine vx_catch (name := "java/lang/IndexOutOfBoundsException") hown [] ⟨0, 12, 15, 13⟩ [⟨0, 12, 19, 15⟩, ⟨0, 12, 23, 33⟩] (htab.trans rfl) (fun z9 h9 => nomatch h9) (by decide) (by decide) cl_13 (va_Nw.use rfl (hI.1.2.1.2.2 ("java/lang/IndexOutOfBoundsException", "java/lang/IndexOutOfBoundsException") (List.mem_of_getElem? (i := 1) rfl))) hce hcv hcl ?_
  refine lv_astore (lv' := [(5, .ref q9), (0, .ref (ad 0)), (1, .int x0), (2, .int x1), (3, .int x2), (4, .ref (ad 99))]) hx hb dL_put_15 hl (by decide) rfl (fun ls hl => ?_)
  refine lv_iconst (v := nI 1) hx hb dL_put_17 (by decide) ?_
  exact e_Ni hx hb hr rfl hlocks hI ⟨rfl, (fun j  => rfl)⟩ dL_put_18

/-- L_put -/
abbrev rm_c_L_put_b : Room := { frames := 7, cells := 1, slots := 6, locals := 115 }
set_option maxHeartbeats 4000000 in
set_option maxRecDepth 100000 in
theorem c_L_put_b (l : Launch) (hst : l.stackTraces = false) (G : GG) (z : Nat) (ad : Nat → Nat) (M : Mem) {qa : Nat} {qs : Nat} {fw : Int32} {kd : Nat} {x1 : Int32} {x2 : Int32} (h0 : M 0 = some (cStore ad qa qs fw)) (hkd : kd < 6) (hbad : x1 < 0 ∨ x2 < x1 ∨ nI 1000 < x2) : Met l yL_put wsL_put rm_c_L_put_b (Pr G z ad M [.ref (ad 0), .int (nI kd), .int x1, .int x2, .ref (ad 99)]) (Ni G z ad (fun (r : Int32) (M' : Mem) => r = nI 2 ∧ (∀ j : Nat,  M' j = M j))) 1 6 (fr z) := by
  refine mt_ofWH (cc := cL_put) (maxL := 6) (ret := (some .int)) (hh := [(0, 12, 15, 13), (0, 12, 19, 15), (0, 12, 23, 33)]) (by decide) rfl ?_
  intro p e s m args below meth c s₁ B hml hv
  obtain ⟨rfl, hv⟩ := hv
  have hI := Iv.entry hv
  have hx := B.exec
  have hb := B.bytes
  have hr := B.returns
  have hts := atoms_spec (ws := wsL_put) B.pre
  have hown : s.vm.findClass RL = some m.cls := findClass_of_methodNamed B.named
  have hlocks := B.notSynchronized
  have htab := vx_table (x := yL_put) B (hts _ List.mem_cons_self)
  have cl_13 := hts _ (List.mem_cons_of_mem _ (lwg_of t_471 rfl))
  have cl_15 := hts _ (List.mem_cons_of_mem _ (lwg_of t_472 rfl))
  have hl := lv_entry ([.ref (ad 0), .int (nI kd), .int x1, .int x2, .ref (ad 99)]) (n := 6) (Nat.le_of_ble_eq_true rfl)
  rw [lg_entry_eq]
  generalize (lg_sl ([.ref (ad 0), .int (nI kd), .int x1, .int x2, .ref (ad 99)]) ++ List.replicate (6 - (lg_sl ([.ref (ad 0), .int (nI kd), .int x1, .int x2, .ref (ad 99)])).length) Slot.unset).toArray = ls at hl ⊢
  have hl : lv_has ls 6 [(0, .ref (ad 0)), (1, .int (nI kd)), (2, .int x1), (3, .int x2), (4, .ref (ad 99))] := hl
  refine lv_aload hx hb dL_put_0 (lv_at hl 4 rfl) ?_
  refine lv_iconst (v := nI 0) hx hb dL_put_2 (by decide) ?_
  refine lv_aload_n hx hb dL_put_3 rfl (lv_at hl 0 rfl) ?_
  refine lv_iload_n hx hb dL_put_4 rfl (lv_at hl 1 rfl) ?_
  refine lv_iload_n hx hb dL_put_5 rfl (lv_at hl 2 rfl) ?_
  refine lv_iload_n hx hb dL_put_6 rfl (lv_at hl 3 rfl) ?_
  refine k_T (vx_runV (As := [.int (nI kd), .int x1, .int x2]) (rest := [.int (nI 0), .ref (ad 99)]) ⟨hx, hb, hml, hown, hts⟩ (c_X9_put_b l hst G z ad M (kd := kd) (x1 := x1) (x2 := x2) hkd hbad) (cwV 3 hts (gV (lwg_of t_620 rfl) (lwg_of t_621 rfl) (lwg_of t_622 rfl) (lwg_of t_1 rfl) (lwg_of t_623 rfl)) rfl rfl rfl (by decide +kernel) ⟨Nat.le_of_ble_eq_true rfl, Nat.le_of_ble_eq_true rfl⟩) (hI.preV h0 rfl) rfl rfl hl.1 rfl (lv_room (Nat.le_of_ble_eq_true rfl)) dL_put_7 ⟨Nat.le_of_ble_eq_true rfl, Nat.le_of_ble_eq_true rfl⟩) hI (fun ce q9 H_3 locs_4 hI hce hcv hcl => ?_)
  refine vx_catch (name := "java/lang/IllegalArgumentException") hown [⟨0, 12, 15, 13⟩] ⟨0, 12, 19, 15⟩ [⟨0, 12, 23, 33⟩] (htab.trans rfl) (fun z9 h9 => by rcases List.mem_singleton.mp h9 with rfl; exact Or.inr ⟨by decide, "java/lang/IndexOutOfBoundsException", cl_13, (iv_ex hI).2.1 ("java/lang/IllegalArgumentException", "java/lang/IndexOutOfBoundsException") (List.mem_of_getElem? (i := 0) rfl)⟩) (by decide) (by decide) cl_15 (va_Nw.use rfl (hI.1.2.1.2.2 ("java/lang/IllegalArgumentException", "java/lang/IllegalArgumentException") (List.mem_of_getElem? (i := 2) rfl))) hce hcv hcl ?_
  refine lv_astore (lv' := [(5, .ref q9), (0, .ref (ad 0)), (1, .int (nI kd)), (2, .int x1), (3, .int x2), (4, .ref (ad 99))]) hx hb dL_put_19 hl (by decide) rfl (fun ls hl => ?_)
  refine lv_iconst (v := nI 2) hx hb dL_put_21 (by decide) ?_
  exact e_Ni hx hb hr rfl hlocks hI ⟨rfl, (fun j  => rfl)⟩ dL_put_22

/-- L_put -/
abbrev rm_c_L_put_c : Room := { frames := 7, cells := 1, slots := 6, locals := 115 }
set_option maxHeartbeats 4000000 in
set_option maxRecDepth 100000 in
theorem c_L_put_c (l : Launch) (hst : l.stackTraces = false) (G : GG) (z : Nat) (ad : Nat → Nat) (M : Mem) {qa : Nat} {qs : Nat} {fw : Int32} {s0 : Nat} {kd : Nat} {f : Nat} {t : Nat} (h0 : M 0 = some (cStore ad qa qs fw)) (h12 : M 12 = some (cEnds ad 12 s0)) (hkd : kd < 6) (hft : f ≤ t ∧ t ≤ 1000) (hs0 : s0 = 0) : Met l yL_put wsL_put rm_c_L_put_c (Pr G z ad M [.ref (ad 0), .int (nI kd), .int (nI f), .int (nI t), .ref (ad 99)]) (Ni G z ad (fun (r : Int32) (M' : Mem) => r = nI 2 ∧ (∀ j : Nat,  M' j = M j))) 1 6 (fr z) := by
  refine mt_ofWH (cc := cL_put) (maxL := 6) (ret := (some .int)) (hh := [(0, 12, 15, 13), (0, 12, 19, 15), (0, 12, 23, 33)]) (by decide) rfl ?_
  intro p e s m args below meth c s₁ B hml hv
  obtain ⟨rfl, hv⟩ := hv
  have hI := Iv.entry hv
  have hx := B.exec
  have hb := B.bytes
  have hr := B.returns
  have hts := atoms_spec (ws := wsL_put) B.pre
  have hown : s.vm.findClass RL = some m.cls := findClass_of_methodNamed B.named
  have hlocks := B.notSynchronized
  have htab := vx_table (x := yL_put) B (hts _ List.mem_cons_self)
  have cl_13 := hts _ (List.mem_cons_of_mem _ (lwg_of t_471 rfl))
  have cl_15 := hts _ (List.mem_cons_of_mem _ (lwg_of t_472 rfl))
  have hl := lv_entry ([.ref (ad 0), .int (nI kd), .int (nI f), .int (nI t), .ref (ad 99)]) (n := 6) (Nat.le_of_ble_eq_true rfl)
  rw [lg_entry_eq]
  generalize (lg_sl ([.ref (ad 0), .int (nI kd), .int (nI f), .int (nI t), .ref (ad 99)]) ++ List.replicate (6 - (lg_sl ([.ref (ad 0), .int (nI kd), .int (nI f), .int (nI t), .ref (ad 99)])).length) Slot.unset).toArray = ls at hl ⊢
  have hl : lv_has ls 6 [(0, .ref (ad 0)), (1, .int (nI kd)), (2, .int (nI f)), (3, .int (nI t)), (4, .ref (ad 99))] := hl
  refine lv_aload hx hb dL_put_0 (lv_at hl 4 rfl) ?_
  refine lv_iconst (v := nI 0) hx hb dL_put_2 (by decide) ?_
  refine lv_aload_n hx hb dL_put_3 rfl (lv_at hl 0 rfl) ?_
  refine lv_iload_n hx hb dL_put_4 rfl (lv_at hl 1 rfl) ?_
  refine lv_iload_n hx hb dL_put_5 rfl (lv_at hl 2 rfl) ?_
  refine lv_iload_n hx hb dL_put_6 rfl (lv_at hl 3 rfl) ?_
  refine k_T (vx_runV (As := [.int (nI kd), .int (nI f), .int (nI t)]) (rest := [.int (nI 0), .ref (ad 99)]) ⟨hx, hb, hml, hown, hts⟩ (c_X9_put_c l hst G z ad M (qa := qa) (qs := qs) (fw := fw) (s0 := s0) (kd := kd) (f := f) (t := t) h0 h12 hkd hft hs0) (cwV 3 hts (gV (lwg_of t_620 rfl) (lwg_of t_621 rfl) (lwg_of t_622 rfl) (lwg_of t_1 rfl) (lwg_of t_623 rfl)) rfl rfl rfl (by decide +kernel) ⟨Nat.le_of_ble_eq_true rfl, Nat.le_of_ble_eq_true rfl⟩) (hI.preV h0 rfl) rfl rfl hl.1 rfl (lv_room (Nat.le_of_ble_eq_true rfl)) dL_put_7 ⟨Nat.le_of_ble_eq_true rfl, Nat.le_of_ble_eq_true rfl⟩) hI (fun ce q9 H_3 locs_4 hI hce hcv hcl => ?_)
  refine vx_catch (name := "java/lang/IllegalArgumentException") hown [⟨0, 12, 15, 13⟩] ⟨0, 12, 19, 15⟩ [⟨0, 12, 23, 33⟩] (htab.trans rfl) (fun z9 h9 => by rcases List.mem_singleton.mp h9 with rfl; exact Or.inr ⟨by decide, "java/lang/IndexOutOfBoundsException", cl_13, (iv_ex hI).2.1 ("java/lang/IllegalArgumentException", "java/lang/IndexOutOfBoundsException") (List.mem_of_getElem? (i := 0) rfl)⟩) (by decide) (by decide) cl_15 (va_Nw.use rfl (hI.1.2.1.2.2 ("java/lang/IllegalArgumentException", "java/lang/IllegalArgumentException") (List.mem_of_getElem? (i := 2) rfl))) hce hcv hcl ?_
  refine lv_astore (lv' := [(5, .ref q9), (0, .ref (ad 0)), (1, .int (nI kd)), (2, .int (nI f)), (3, .int (nI t)), (4, .ref (ad 99))]) hx hb dL_put_19 hl (by decide) rfl (fun ls hl => ?_)
  refine lv_iconst (v := nI 2) hx hb dL_put_21 (by decide) ?_
  exact e_Ni hx hb hr rfl hlocks hI ⟨rfl, (fun j  => rfl)⟩ dL_put_22

/-- L_put -/
abbrev rm_c_L_put_d : Room := { frames := 7, cells := 1, slots := 6, locals := 115 }
set_option maxHeartbeats 4000000 in
set_option maxRecDepth 100000 in
theorem c_L_put_d (l : Launch) (hst : l.stackTraces = false) (G : GG) (z : Nat) (ad : Nat → Nat) (M : Mem) {n : Nat} {kd : Nat → Nat} {fm : Nat → Int32} {to : Nat → Int32} {sz : Nat → Nat} {rl : Nat → Nat → Nat} {en : Nat → Nat → Nat} {qa : Nat} {qs : Nat} {fw : Int32} {s0 : Nat} {f : Nat} {t : Nat} {q : Nat} (hL : LSm G ad M n kd fm to sz rl en) (h0 : M 0 = some (cStore ad qa qs fw)) (h12 : M 12 = some (cEnds ad 12 s0)) (hkd : q < 6) (hft : f ≤ t ∧ t ≤ 1000) (hs0 : 0 < s0 ∧ s0 ≤ 6) (hn : n = 120) : Met l yL_put wsL_put rm_c_L_put_d (Pr G z ad M [.ref (ad 0), .int (nI q), .int (nI f), .int (nI t), .ref (ad 99)]) (Ni G z ad (fun (r : Int32) (M' : Mem) => r = nI 3 ∧ (∀ j : Nat,  M' j = M j))) 1 6 (fr z) := by
  refine mt_ofWH (cc := cL_put) (maxL := 6) (ret := (some .int)) (hh := [(0, 12, 15, 13), (0, 12, 19, 15), (0, 12, 23, 33)]) (by decide) rfl ?_
  intro p e s m args below meth c s₁ B hml hv
  obtain ⟨rfl, hv⟩ := hv
  have hI := Iv.entry hv
  have hx := B.exec
  have hb := B.bytes
  have hr := B.returns
  have hts := atoms_spec (ws := wsL_put) B.pre
  have hown : s.vm.findClass RL = some m.cls := findClass_of_methodNamed B.named
  have hlocks := B.notSynchronized
  have htab := vx_table (x := yL_put) B (hts _ List.mem_cons_self)
  have cl_13 := hts _ (List.mem_cons_of_mem _ (lwg_of t_471 rfl))
  have cl_15 := hts _ (List.mem_cons_of_mem _ (lwg_of t_472 rfl))
  have cl_33 := hts _ (List.mem_cons_of_mem _ (lwg_of t_619 rfl))
  have hl := lv_entry ([.ref (ad 0), .int (nI q), .int (nI f), .int (nI t), .ref (ad 99)]) (n := 6) (Nat.le_of_ble_eq_true rfl)
  rw [lg_entry_eq]
  generalize (lg_sl ([.ref (ad 0), .int (nI q), .int (nI f), .int (nI t), .ref (ad 99)]) ++ List.replicate (6 - (lg_sl ([.ref (ad 0), .int (nI q), .int (nI f), .int (nI t), .ref (ad 99)])).length) Slot.unset).toArray = ls at hl ⊢
  have hl : lv_has ls 6 [(0, .ref (ad 0)), (1, .int (nI q)), (2, .int (nI f)), (3, .int (nI t)), (4, .ref (ad 99))] := hl
  have h16 := hL.1
  obtain ⟨mcn, ed, h17, hed⟩ := id hL.2.1
  refine lv_aload hx hb dL_put_0 (lv_at hl 4 rfl) ?_
  refine lv_iconst (v := nI 0) hx hb dL_put_2 (by decide) ?_
  refine lv_aload_n hx hb dL_put_3 rfl (lv_at hl 0 rfl) ?_
  refine lv_iload_n hx hb dL_put_4 rfl (lv_at hl 1 rfl) ?_
  refine lv_iload_n hx hb dL_put_5 rfl (lv_at hl 2 rfl) ?_
  refine lv_iload_n hx hb dL_put_6 rfl (lv_at hl 3 rfl) ?_
  refine k_T (vx_runV (As := [.int (nI q), .int (nI f), .int (nI t)]) (rest := [.int (nI 0), .ref (ad 99)]) ⟨hx, hb, hml, hown, hts⟩ (c_X9_put_d l hst G z ad M (n := n) (kd := kd) (fm := fm) (to := to) (sz := sz) (rl := rl) (en := en) (qa := qa) (qs := qs) (fw := fw) (s0 := s0) (f := f) (t := t) (q := q) hL h0 h12 hkd hft hs0 hn) (cwV 3 hts (gV (lwg_of t_620 rfl) (lwg_of t_621 rfl) (lwg_of t_622 rfl) (lwg_of t_1 rfl) (lwg_of t_623 rfl)) rfl rfl rfl (by decide +kernel) ⟨Nat.le_of_ble_eq_true rfl, Nat.le_of_ble_eq_true rfl⟩) (hI.preV h0 rfl) rfl rfl hl.1 rfl (lv_room (Nat.le_of_ble_eq_true rfl)) dL_put_7 ⟨Nat.le_of_ble_eq_true rfl, Nat.le_of_ble_eq_true rfl⟩) hI (fun ce q9 H_3 locs_4 hI hce hcv hcl => ?_)
  refine vx_catch (name := "java/lang/UnsupportedOperationException") hown [⟨0, 12, 15, 13⟩, ⟨0, 12, 19, 15⟩] ⟨0, 12, 23, 33⟩ [] (htab.trans rfl) (fun z9 h9 => by
      rcases List.mem_cons.mp h9 with rfl | h9
      · exact Or.inr ⟨by decide, "java/lang/IndexOutOfBoundsException", cl_13, (iv_ex hI).2.1 ("java/lang/UnsupportedOperationException", "java/lang/IndexOutOfBoundsException") (List.mem_of_getElem? (i := 1) rfl)⟩
      · rcases List.mem_singleton.mp h9 with rfl; exact Or.inr ⟨by decide, "java/lang/IllegalArgumentException", cl_15, (iv_ex hI).2.1 ("java/lang/UnsupportedOperationException", "java/lang/IllegalArgumentException") (List.mem_of_getElem? (i := 2) rfl)⟩) (by decide) (by decide) cl_33 (va_Nw.use rfl (hI.1.2.1.2.2 ("java/lang/UnsupportedOperationException", "java/lang/UnsupportedOperationException") (List.mem_of_getElem? (i := 3) rfl))) hce hcv hcl ?_
  refine lv_astore (lv' := [(5, .ref q9), (0, .ref (ad 0)), (1, .int (nI q)), (2, .int (nI f)), (3, .int (nI t)), (4, .ref (ad 99))]) hx hb dL_put_23 hl (by decide) rfl (fun ls hl => ?_)
  refine lv_iconst (v := nI 3) hx hb dL_put_25 (by decide) ?_
  exact e_Ni hx hb hr rfl hlocks hI ⟨rfl, (fun j  => rfl)⟩ dL_put_26

/-- L_strike -/
abbrev rm_c_L_strike : Room := { frames := 6, cells := 0, slots := 0, locals := 139 }
set_option maxHeartbeats 4000000 in
set_option maxRecDepth 100000 in
theorem c_L_strike (l : Launch) (hst : l.stackTraces = false) (G : GG) (z : Nat) (ad : Nat → Nat) (M : Mem) {n : Nat} {kd : Nat → Nat} {fm : Nat → Int32} {to : Nat → Int32} {sz : Nat → Nat} {rl : Nat → Nat → Nat} {en : Nat → Nat → Nat} {qa : Nat} {qs : Nat} {fw : Int32} {ho : Nat → Bool} {mk : Nat → Bool} {q : Nat} {d : Int32} {of : Nat → Int64} (hL : LSm G ad M n kd fm to sz rl en) (h0 : M 0 = some (cStore ad qa qs fw)) (h3 : M 3 = some (cLaws ad )) (h7 : M 7 = some (aZ G 6 (bF ho))) (h19 : M 19 = some (aZ G 120 (bF mk))) (h99 : M 99 = some (aJ G 1 of)) (hw : LSw n kd sz rl en) (hq : q < n) : Met l yL_strike wsL_strike rm_c_L_strike (Pr G z ad M [.ref (ad 0), .int (nI q), .int d, .ref (ad 99)]) (Ni G z ad (fun (r : Int32) (M' : Mem) => ∃ v : Nat, ∃ tn : Nat → Int32, ∃ mk2 : Nat → Bool, r = nI 0 ∧ M' 19 = some (aZ G 120 (bF mk2)) ∧ M' 99 = some (aJ G 1 (vp_updL of 0 ((nI v).toInt64))) ∧ (∀ j : Nat, j ≠ 19 → j ≠ 99 → j < 100 → M' j = M j) ∧ LSm G ad M' n kd fm tn sz rl en ∧ ((sOK n kd ho fm to sz en q d → v = cntB (pQ fm to sz en q d) n ∧ ∀ l, tn l = toS fm to sz en q d n l) ∧ (¬ sOK n kd ho fm to sz en q d → v = 0 ∧ tn = to)))) 0 0 (fr z) := by
  refine mt_ofWH (cc := cL_strike) (maxL := 5) (ret := (some .int)) (hh := [(0, 10, 13, 13)]) (by decide) rfl ?_
  intro p e s m args below meth c s₁ B hml hv
  obtain ⟨rfl, hv⟩ := hv
  have hI := Iv.entry hv
  have hx := B.exec
  have hb := B.bytes
  have hr := B.returns
  have hts := atoms_spec (ws := wsL_strike) B.pre
  have hown : s.vm.findClass RL = some m.cls := findClass_of_methodNamed B.named
  have hlocks := B.notSynchronized
  have htab := vx_table (x := yL_strike) B (hts _ List.mem_cons_self)
  have hl := lv_entry ([.ref (ad 0), .int (nI q), .int d, .ref (ad 99)]) (n := 5) (Nat.le_of_ble_eq_true rfl)
  rw [lg_entry_eq]
  generalize (lg_sl ([.ref (ad 0), .int (nI q), .int d, .ref (ad 99)]) ++ List.replicate (5 - (lg_sl ([.ref (ad 0), .int (nI q), .int d, .ref (ad 99)])).length) Slot.unset).toArray = ls at hl ⊢
  have hl : lv_has ls 5 [(0, .ref (ad 0)), (1, .int (nI q)), (2, .int d), (3, .ref (ad 99))] := hl
  have h16 := hL.1
  obtain ⟨mcn, ed, h17, hed⟩ := id hL.2.1
  refine lv_aload_n hx hb dL_strike_0 rfl (lv_at hl 3 rfl) ?_
  refine lv_iconst (v := nI 0) hx hb dL_strike_1 (by decide) ?_
  refine lv_aload_n hx hb dL_strike_2 rfl (lv_at hl 0 rfl) ?_
  refine lv_iload_n hx hb dL_strike_3 rfl (lv_at hl 1 rfl) ?_
  refine lv_iload_n hx hb dL_strike_4 rfl (lv_at hl 2 rfl) ?_
  refine k_Ni (va_runV (As := [.int (nI q), .int d]) (rest := [.int (nI 0), .ref (ad 99)]) ⟨hx, hb, hml, hown, hts⟩ (c_X9_strike l G z ad M (n := n) (kd := kd) (fm := fm) (to := to) (sz := sz) (rl := rl) (en := en) (qa := qa) (qs := qs) (fw := fw) (ho := ho) (mk := mk) (q := q) (d := d) hL h0 h3 h7 h19 hw hq) (cwV 2 hts (gV (lwg_of t_813 rfl) (lwg_of t_814 rfl) (lwg_of t_815 rfl) (lwg_of t_1 rfl) (lwg_of t_816 rfl)) rfl rfl rfl (by decide +kernel) ⟨Nat.le_of_ble_eq_true rfl, Nat.le_of_ble_eq_true rfl⟩) (hI.preV h0 rfl) rfl rfl hl.1 rfl (lv_room (Nat.le_of_ble_eq_true rfl)) dL_strike_5 ⟨Nat.le_of_ble_eq_true rfl, Nat.le_of_ble_eq_true rfl⟩) hI (fun r_1 M_3 H_4 locs_5 hp_2 hI => ?_)
  obtain ⟨v_11, tn_12, mk2_13, hr_6, hm_7, hF_8, hL_9, hP_10⟩ := hp_2
  have hm_14 : M_3 0 = some (cStore ad qa qs fw) := by rw [hF_8 0 (by omega) (by omega)]; exact h0
  have hm_15 : M_3 3 = some (cLaws ad ) := by rw [hF_8 3 (by omega) (by omega)]; exact h3
  have hm_16 : M_3 7 = some (aZ G 6 (bF ho)) := by rw [hF_8 7 (by omega) (by omega)]; exact h7
  have hm_17 : M_3 99 = some (aJ G 1 of) := by rw [hF_8 99 (by omega) (by omega)]; exact h99
  have hm_18 : M_3 16 = some (cLines ad ) := by rw [hF_8 16 (by omega) (by omega)]; exact h16
  have hm_19 : M_3 17 = some (cList ad mcn ed n) := by rw [hF_8 17 (by omega) (by omega)]; exact h17
  have hF_20 : ∀ j : Nat, j ≠ 19 → j < 100 → M_3 j = M j := fun j q0 q1 => (hF_8 j q0 q1)
  rw [hr_6]
  refine lv_i2l (v := (nI v_11).toInt64) hx hb dL_strike_8 rfl ?_
  refine h_last (i := 0) (x := (nI v_11).toInt64) hx hb hI hm_17 (by omega) (by decide) dL_strike_9 (fun M_21 H_22 locs_23 eM_24 hI => ?_)
  have hm_25 : M_21 0 = some (cStore ad qa qs fw) := by rw [eM_24, va_up_ne _ _ (by decide)]; exact hm_14
  have hm_26 : M_21 3 = some (cLaws ad ) := by rw [eM_24, va_up_ne _ _ (by decide)]; exact hm_15
  have hm_27 : M_21 7 = some (aZ G 6 (bF ho)) := by rw [eM_24, va_up_ne _ _ (by decide)]; exact hm_16
  have hm_28 : M_21 19 = some (aZ G 120 (bF mk2_13)) := by rw [eM_24, va_up_ne _ _ (by decide)]; exact hm_7
  have hm_29 : M_21 99 = some (aJ G 1 (vp_updL of 0 ((nI v_11).toInt64))) := by rw [eM_24]; exact va_up_self _ _ _
  have hm_30 : M_21 16 = some (cLines ad ) := by rw [eM_24, va_up_ne _ _ (by decide)]; exact hm_18
  have hm_31 : M_21 17 = some (cList ad mcn ed n) := by rw [eM_24, va_up_ne _ _ (by decide)]; exact hm_19
  have hL_32 : LSm G ad M_21 n kd fm tn_12 sz rl en := hL_9.keep (fun j hj => by rw [eM_24, va_up_ne _ _ (by omega)])
  have hF_33 : ∀ j : Nat, j ≠ 19 → j < 100 → j ≠ 99 → M_21 j = M j := fun j q0 q1 q2 => by rw [eM_24, va_up_ne _ _ q2]; exact hF_20 j q0 q1
  refine lv_goto (tgt := 17) hx hb dL_strike_10 (by decide) ?_
  refine lv_iconst (v := nI 0) hx hb dL_strike_17 (by decide) ?_
  exact e_Ni hx hb hr rfl hlocks hI ⟨v_11, tn_12, mk2_13, rfl, hm_28, hm_29, (fun j q0 q1 q2 => hF_33 j q0 q2 q1), hL_32, hP_10⟩ dL_strike_18

/-- L_strike -/
abbrev rm_c_L_strike_a : Room := { frames := 8, cells := 1, slots := 6, locals := 133 }
set_option maxHeartbeats 4000000 in
set_option maxRecDepth 100000 in
theorem c_L_strike_a (l : Launch) (hst : l.stackTraces = false) (G : GG) (z : Nat) (ad : Nat → Nat) (M : Mem) {n : Nat} {kd : Nat → Nat} {fm : Nat → Int32} {to : Nat → Int32} {sz : Nat → Nat} {rl : Nat → Nat → Nat} {en : Nat → Nat → Nat} {qa : Nat} {qs : Nat} {fw : Int32} {x0 : Int32} {x1 : Int32} (hL : LSm G ad M n kd fm to sz rl en) (h0 : M 0 = some (cStore ad qa qs fw)) (hbad : x0 < 0 ∨ ¬ x0 < nI n) : Met l yL_strike wsL_strike rm_c_L_strike_a (Pr G z ad M [.ref (ad 0), .int x0, .int x1, .ref (ad 99)]) (Ni G z ad (fun (r : Int32) (M' : Mem) => r = nI 1 ∧ (∀ j : Nat,  M' j = M j))) 1 6 (fr z) := by
  refine mt_ofWH (cc := cL_strike) (maxL := 5) (ret := (some .int)) (hh := [(0, 10, 13, 13)]) (by decide) rfl ?_
  intro p e s m args below meth c s₁ B hml hv
  obtain ⟨rfl, hv⟩ := hv
  have hI := Iv.entry hv
  have hx := B.exec
  have hb := B.bytes
  have hr := B.returns
  have hts := atoms_spec (ws := wsL_strike) B.pre
  have hown : s.vm.findClass RL = some m.cls := findClass_of_methodNamed B.named
  have hlocks := B.notSynchronized
  have htab := vx_table (x := yL_strike) B (hts _ List.mem_cons_self)
  have cl_13 := hts _ (List.mem_cons_of_mem _ (lwg_of t_471 rfl))
  have hl := lv_entry ([.ref (ad 0), .int x0, .int x1, .ref (ad 99)]) (n := 5) (Nat.le_of_ble_eq_true rfl)
  rw [lg_entry_eq]
  generalize (lg_sl ([.ref (ad 0), .int x0, .int x1, .ref (ad 99)]) ++ List.replicate (5 - (lg_sl ([.ref (ad 0), .int x0, .int x1, .ref (ad 99)])).length) Slot.unset).toArray = ls at hl ⊢
  have hl : lv_has ls 5 [(0, .ref (ad 0)), (1, .int x0), (2, .int x1), (3, .ref (ad 99))] := hl
  have h16 := hL.1
  obtain ⟨mcn, ed, h17, hed⟩ := id hL.2.1
  refine lv_aload_n hx hb dL_strike_0 rfl (lv_at hl 3 rfl) ?_
  refine lv_iconst (v := nI 0) hx hb dL_strike_1 (by decide) ?_
  refine lv_aload_n hx hb dL_strike_2 rfl (lv_at hl 0 rfl) ?_
  refine lv_iload_n hx hb dL_strike_3 rfl (lv_at hl 1 rfl) ?_
  refine lv_iload_n hx hb dL_strike_4 rfl (lv_at hl 2 rfl) ?_
  refine k_T (vx_runV (As := [.int x0, .int x1]) (rest := [.int (nI 0), .ref (ad 99)]) ⟨hx, hb, hml, hown, hts⟩ (c_X9_strike_a l hst G z ad M (n := n) (kd := kd) (fm := fm) (to := to) (sz := sz) (rl := rl) (en := en) (qa := qa) (qs := qs) (fw := fw) (x0 := x0) (x1 := x1) hL h0 hbad) (cwV 2 hts (gV (lwg_of t_813 rfl) (lwg_of t_814 rfl) (lwg_of t_815 rfl) (lwg_of t_1 rfl) (lwg_of t_816 rfl)) rfl rfl rfl (by decide +kernel) ⟨Nat.le_of_ble_eq_true rfl, Nat.le_of_ble_eq_true rfl⟩) (hI.preV h0 rfl) rfl rfl hl.1 rfl (lv_room (Nat.le_of_ble_eq_true rfl)) dL_strike_5 ⟨Nat.le_of_ble_eq_true rfl, Nat.le_of_ble_eq_true rfl⟩) hI (fun ce q9 H_3 locs_4 hI hce hcv hcl => ?_)
  refine vx_catch (name := "java/lang/IndexOutOfBoundsException") hown [] ⟨0, 10, 13, 13⟩ [] (htab.trans rfl) (fun z9 h9 => nomatch h9) (by decide) (by decide) cl_13 (va_Nw.use rfl (hI.1.2.1.2.2 ("java/lang/IndexOutOfBoundsException", "java/lang/IndexOutOfBoundsException") (List.mem_of_getElem? (i := 1) rfl))) hce hcv hcl ?_
  refine lv_astore (lv' := [(4, .ref q9), (0, .ref (ad 0)), (1, .int x0), (2, .int x1), (3, .ref (ad 99))]) hx hb dL_strike_13 hl (by decide) rfl (fun ls hl => ?_)
  refine lv_iconst (v := nI 1) hx hb dL_strike_15 (by decide) ?_
  exact e_Ni hx hb hr rfl hlocks hI ⟨rfl, (fun j  => rfl)⟩ dL_strike_16

/-- L_one -/
abbrev rm_c_L_one : Room := { frames := 3, cells := 0, slots := 0, locals := 76 }
set_option maxHeartbeats 4000000 in
set_option maxRecDepth 100000 in
theorem c_L_one (l : Launch) (hst : l.stackTraces = false) (G : GG) (z : Nat) (ad : Nat → Nat) (M : Mem) {qa : Nat} {qs : Nat} {fw : Int32} {jn : Nat} {hg : Nat → Nat} {lst : Nat → Nat} {jd : Nat → Nat} {a : Nat} {b : Nat} {of : Nat → Int64} (h0 : M 0 = some (cStore ad qa qs fw)) (h8 : M 8 = some (cOnes ad jn)) (h9 : M 9 = some (aI G 40 (nF hg))) (h10 : M 10 = some (aI G 40 (nF lst))) (h11 : M 11 = some (aI G 40 (nF jd))) (h99 : M 99 = some (aJ G 1 of)) (ha : a < 40) (hb4 : b < 40) (hlst : ∀ t, t < 40 → lst t < 40) (hne : lst a ≠ lst b) (hjn : jn < 40) (hhg : ∀ t, t < 40 → hg t ≤ t) : Met l yL_one wsL_one rm_c_L_one (Pr G z ad M [.ref (ad 0), .int (nI a), .int (nI b), .ref (ad 99)]) (Ni G z ad (fun (r : Int32) (M' : Mem) => ∃ l2 : Nat → Nat, r = nI 0 ∧ M' 8 = some (cOnes ad (jn + 1)) ∧ M' 9 = some (aI G 40 (nF (va_up hg (max (lst a) (lst b)) (min (lst a) (lst b))))) ∧ M' 10 = some (aI G 40 (nF l2)) ∧ M' 11 = some (aI G 40 (nF (va_up jd jn (max (lst a) (lst b))))) ∧ M' 99 = some (aJ G 1 (vp_updL of 0 ((1 : Int64)))) ∧ (∀ j : Nat, j ≠ 8 → j ≠ 9 → j ≠ 10 → j ≠ 11 → j ≠ 99 → M' j = M j) ∧ isRt (va_up hg (max (lst a) (lst b)) (min (lst a) (lst b))) l2 40)) 0 0 (fr z) := by
  refine mt_ofWH (cc := cL_one) (maxL := 5) (ret := (some .int)) (hh := [(0, 17, 20, 13)]) (by decide) rfl ?_
  intro p e s m args below meth c s₁ B hml hv
  obtain ⟨rfl, hv⟩ := hv
  have hI := Iv.entry hv
  have hx := B.exec
  have hb := B.bytes
  have hr := B.returns
  have hts := atoms_spec (ws := wsL_one) B.pre
  have hown : s.vm.findClass RL = some m.cls := findClass_of_methodNamed B.named
  have hlocks := B.notSynchronized
  have htab := vx_table (x := yL_one) B (hts _ List.mem_cons_self)
  have hl := lv_entry ([.ref (ad 0), .int (nI a), .int (nI b), .ref (ad 99)]) (n := 5) (Nat.le_of_ble_eq_true rfl)
  rw [lg_entry_eq]
  generalize (lg_sl ([.ref (ad 0), .int (nI a), .int (nI b), .ref (ad 99)]) ++ List.replicate (5 - (lg_sl ([.ref (ad 0), .int (nI a), .int (nI b), .ref (ad 99)])).length) Slot.unset).toArray = ls at hl ⊢
  have hl : lv_has ls 5 [(0, .ref (ad 0)), (1, .int (nI a)), (2, .int (nI b)), (3, .ref (ad 99))] := hl
  refine lv_aload_n hx hb dL_one_0 rfl (lv_at hl 3 rfl) ?_
  refine lv_iconst (v := nI 0) hx hb dL_one_1 (by decide) ?_
  refine lv_aload_n hx hb dL_one_2 rfl (lv_at hl 0 rfl) ?_
  refine lv_iload_n hx hb dL_one_3 rfl (lv_at hl 1 rfl) ?_
  refine lv_iload_n hx hb dL_one_4 rfl (lv_at hl 2 rfl) ?_
  refine k_Ni (va_runV (As := [.int (nI a), .int (nI b)]) (rest := [.int (nI 0), .ref (ad 99)]) ⟨hx, hb, hml, hown, hts⟩ (c_X9_one l G z ad M (qa := qa) (qs := qs) (fw := fw) (jn := jn) (hg := hg) (lst := lst) (jd := jd) (a := a) (b := b) h0 h8 h9 h10 h11 ha hb4 hlst hne hjn hhg) (cwV 2 hts (gV (lwg_of t_837 rfl) (lwg_of t_838 rfl) (lwg_of t_839 rfl) (lwg_of t_1 rfl) (lwg_of t_840 rfl)) rfl rfl rfl (by decide +kernel) ⟨Nat.le_of_ble_eq_true rfl, Nat.le_of_ble_eq_true rfl⟩) (hI.preV h0 rfl) rfl rfl hl.1 rfl (lv_room (Nat.le_of_ble_eq_true rfl)) dL_one_5 ⟨Nat.le_of_ble_eq_true rfl, Nat.le_of_ble_eq_true rfl⟩) hI (fun r_1 M_3 H_4 locs_5 hp_2 hI => ?_)
  obtain ⟨l2_13, hr_6, hm_7, hm_8, hm_9, hm_10, hF_11, hP_12⟩ := hp_2
  have hm_14 : M_3 0 = some (cStore ad qa qs fw) := by rw [hF_11 0 (by omega) (by omega) (by omega) (by omega)]; exact h0
  have hm_15 : M_3 99 = some (aJ G 1 of) := by rw [hF_11 99 (by omega) (by omega) (by omega) (by omega)]; exact h99
  have hF_16 : ∀ j : Nat, j ≠ 8 → j ≠ 9 → j ≠ 10 → j ≠ 11 → M_3 j = M j := fun j q0 q1 q2 q3 => (hF_11 j q0 q1 q2 q3)
  rw [hr_6]
  refine lv_if_eq (tgt := 15) hx hb dL_one_8 (by decide) (fun c_17 => ?_) (fun c_17 => ?_)
  · -- 8: nI 1 eq
    exact absurd c_17 (by decide)
  · -- 8: nI 1 ne
    refine lv_lconst (v := 1) hx hb dL_one_11 (by decide) ?_
    refine lv_goto (tgt := 16) hx hb dL_one_12 (by decide) ?_
    refine h_last (i := 0) (x := (1 : Int64)) hx hb hI hm_15 (by omega) (by decide) dL_one_16 (fun M_18 H_19 locs_20 eM_21 hI => ?_)
    have hm_22 : M_18 0 = some (cStore ad qa qs fw) := by rw [eM_21, va_up_ne _ _ (by decide)]; exact hm_14
    have hm_23 : M_18 8 = some (cOnes ad (jn + 1)) := by rw [eM_21, va_up_ne _ _ (by decide)]; exact hm_7
    have hm_24 : M_18 9 = some (aI G 40 (nF (va_up hg (max (lst a) (lst b)) (min (lst a) (lst b))))) := by rw [eM_21, va_up_ne _ _ (by decide)]; exact hm_8
    have hm_25 : M_18 10 = some (aI G 40 (nF l2_13)) := by rw [eM_21, va_up_ne _ _ (by decide)]; exact hm_9
    have hm_26 : M_18 11 = some (aI G 40 (nF (va_up jd jn (max (lst a) (lst b))))) := by rw [eM_21, va_up_ne _ _ (by decide)]; exact hm_10
    have hm_27 : M_18 99 = some (aJ G 1 (vp_updL of 0 (1 : Int64))) := by rw [eM_21]; exact va_up_self _ _ _
    have hF_28 : ∀ j : Nat, j ≠ 8 → j ≠ 9 → j ≠ 10 → j ≠ 11 → j ≠ 99 → M_18 j = M j := fun j q0 q1 q2 q3 q4 => by rw [eM_21, va_up_ne _ _ q4]; exact hF_16 j q0 q1 q2 q3
    refine lv_goto (tgt := 24) hx hb dL_one_17 (by decide) ?_
    refine lv_iconst (v := nI 0) hx hb dL_one_24 (by decide) ?_
    exact e_Ni hx hb hr rfl hlocks hI ⟨l2_13, rfl, hm_23, hm_24, hm_25, hm_26, hm_27, (fun j q0 q1 q2 q3 q4 => hF_28 j q0 q1 q2 q3 q4), hP_12⟩ dL_one_25

/-- L_one -/
abbrev rm_c_L_one_same : Room := { frames := 3, cells := 0, slots := 0, locals := 76 }
set_option maxHeartbeats 4000000 in
set_option maxRecDepth 100000 in
theorem c_L_one_same (l : Launch) (hst : l.stackTraces = false) (G : GG) (z : Nat) (ad : Nat → Nat) (M : Mem) {qa : Nat} {qs : Nat} {fw : Int32} {jn : Nat} {lst : Nat → Nat} {a : Nat} {b : Nat} {of : Nat → Int64} (h0 : M 0 = some (cStore ad qa qs fw)) (h8 : M 8 = some (cOnes ad jn)) (h10 : M 10 = some (aI G 40 (nF lst))) (h99 : M 99 = some (aJ G 1 of)) (ha : a < 40) (hb4 : b < 40) (hlst : ∀ t, t < 40 → lst t < 40) (hne : lst a = lst b) : Met l yL_one wsL_one rm_c_L_one_same (Pr G z ad M [.ref (ad 0), .int (nI a), .int (nI b), .ref (ad 99)]) (Ni G z ad (fun (r : Int32) (M' : Mem) => r = nI 0 ∧ M' 99 = some (aJ G 1 (vp_updL of 0 ((0 : Int64)))) ∧ (∀ j : Nat, j ≠ 99 → M' j = M j))) 0 0 (fr z) := by
  refine mt_ofWH (cc := cL_one) (maxL := 5) (ret := (some .int)) (hh := [(0, 17, 20, 13)]) (by decide) rfl ?_
  intro p e s m args below meth c s₁ B hml hv
  obtain ⟨rfl, hv⟩ := hv
  have hI := Iv.entry hv
  have hx := B.exec
  have hb := B.bytes
  have hr := B.returns
  have hts := atoms_spec (ws := wsL_one) B.pre
  have hown : s.vm.findClass RL = some m.cls := findClass_of_methodNamed B.named
  have hlocks := B.notSynchronized
  have htab := vx_table (x := yL_one) B (hts _ List.mem_cons_self)
  have hl := lv_entry ([.ref (ad 0), .int (nI a), .int (nI b), .ref (ad 99)]) (n := 5) (Nat.le_of_ble_eq_true rfl)
  rw [lg_entry_eq]
  generalize (lg_sl ([.ref (ad 0), .int (nI a), .int (nI b), .ref (ad 99)]) ++ List.replicate (5 - (lg_sl ([.ref (ad 0), .int (nI a), .int (nI b), .ref (ad 99)])).length) Slot.unset).toArray = ls at hl ⊢
  have hl : lv_has ls 5 [(0, .ref (ad 0)), (1, .int (nI a)), (2, .int (nI b)), (3, .ref (ad 99))] := hl
  refine lv_aload_n hx hb dL_one_0 rfl (lv_at hl 3 rfl) ?_
  refine lv_iconst (v := nI 0) hx hb dL_one_1 (by decide) ?_
  refine lv_aload_n hx hb dL_one_2 rfl (lv_at hl 0 rfl) ?_
  refine lv_iload_n hx hb dL_one_3 rfl (lv_at hl 1 rfl) ?_
  refine lv_iload_n hx hb dL_one_4 rfl (lv_at hl 2 rfl) ?_
  refine k_Ni (va_runV (As := [.int (nI a), .int (nI b)]) (rest := [.int (nI 0), .ref (ad 99)]) ⟨hx, hb, hml, hown, hts⟩ (c_X9_one_same l G z ad M (qa := qa) (qs := qs) (fw := fw) (jn := jn) (lst := lst) (a := a) (b := b) h0 h8 h10 ha hb4 hlst hne) (cwV 2 hts (gV (lwg_of t_837 rfl) (lwg_of t_838 rfl) (lwg_of t_839 rfl) (lwg_of t_1 rfl) (lwg_of t_840 rfl)) rfl rfl rfl (by decide +kernel) ⟨Nat.le_of_ble_eq_true rfl, Nat.le_of_ble_eq_true rfl⟩) (hI.preV h0 rfl) rfl rfl hl.1 rfl (lv_room (Nat.le_of_ble_eq_true rfl)) dL_one_5 ⟨Nat.le_of_ble_eq_true rfl, Nat.le_of_ble_eq_true rfl⟩) hI (fun r_1 M_3 H_4 locs_5 hp_2 hI => ?_)
  obtain ⟨hr_6, hF_7⟩ := hp_2
  have hm_8 : M_3 0 = some (cStore ad qa qs fw) := by rw [hF_7 0 ]; exact h0
  have hm_9 : M_3 8 = some (cOnes ad jn) := by rw [hF_7 8 ]; exact h8
  have hm_10 : M_3 10 = some (aI G 40 (nF lst)) := by rw [hF_7 10 ]; exact h10
  have hm_11 : M_3 99 = some (aJ G 1 of) := by rw [hF_7 99 ]; exact h99
  rw [hr_6]
  refine lv_if_eq (tgt := 15) hx hb dL_one_8 (by decide) (fun c_12 => ?_) (fun c_12 => ?_)
  · -- 8: nI 0 eq
    refine lv_lconst (v := 0) hx hb dL_one_15 (by decide) ?_
    refine h_last (i := 0) (x := (0 : Int64)) hx hb hI hm_11 (by omega) (by decide) dL_one_16 (fun M_13 H_14 locs_15 eM_16 hI => ?_)
    have hm_17 : M_13 0 = some (cStore ad qa qs fw) := by rw [eM_16, va_up_ne _ _ (by decide)]; exact hm_8
    have hm_18 : M_13 8 = some (cOnes ad jn) := by rw [eM_16, va_up_ne _ _ (by decide)]; exact hm_9
    have hm_19 : M_13 10 = some (aI G 40 (nF lst)) := by rw [eM_16, va_up_ne _ _ (by decide)]; exact hm_10
    have hm_20 : M_13 99 = some (aJ G 1 (vp_updL of 0 (0 : Int64))) := by rw [eM_16]; exact va_up_self _ _ _
    have hF_21 : ∀ j : Nat, j ≠ 99 → M_13 j = M j := fun j q0 => by rw [eM_16, va_up_ne _ _ q0]; exact hF_7 j 
    refine lv_goto (tgt := 24) hx hb dL_one_17 (by decide) ?_
    refine lv_iconst (v := nI 0) hx hb dL_one_24 (by decide) ?_
    exact e_Ni hx hb hr rfl hlocks hI ⟨rfl, hm_20, (fun j q0 => hF_21 j q0)⟩ dL_one_25
  · -- 8: nI 0 ne
    exact absurd (by decide) c_12

/-- L_one -/
abbrev rm_c_L_one_a : Room := { frames := 8, cells := 1, slots := 6, locals := 132 }
set_option maxHeartbeats 4000000 in
set_option maxRecDepth 100000 in
theorem c_L_one_a (l : Launch) (hst : l.stackTraces = false) (G : GG) (z : Nat) (ad : Nat → Nat) (M : Mem) {qa : Nat} {qs : Nat} {fw : Int32} {x0 : Int32} {x1 : Int32} (h0 : M 0 = some (cStore ad qa qs fw)) (hbad : x0 < 0 ∨ ¬ x0 < nI 40) : Met l yL_one wsL_one rm_c_L_one_a (Pr G z ad M [.ref (ad 0), .int x0, .int x1, .ref (ad 99)]) (Ni G z ad (fun (r : Int32) (M' : Mem) => r = nI 1 ∧ (∀ j : Nat,  M' j = M j))) 1 6 (fr z) := by
  refine mt_ofWH (cc := cL_one) (maxL := 5) (ret := (some .int)) (hh := [(0, 17, 20, 13)]) (by decide) rfl ?_
  intro p e s m args below meth c s₁ B hml hv
  obtain ⟨rfl, hv⟩ := hv
  have hI := Iv.entry hv
  have hx := B.exec
  have hb := B.bytes
  have hr := B.returns
  have hts := atoms_spec (ws := wsL_one) B.pre
  have hown : s.vm.findClass RL = some m.cls := findClass_of_methodNamed B.named
  have hlocks := B.notSynchronized
  have htab := vx_table (x := yL_one) B (hts _ List.mem_cons_self)
  have cl_13 := hts _ (List.mem_cons_of_mem _ (lwg_of t_471 rfl))
  have hl := lv_entry ([.ref (ad 0), .int x0, .int x1, .ref (ad 99)]) (n := 5) (Nat.le_of_ble_eq_true rfl)
  rw [lg_entry_eq]
  generalize (lg_sl ([.ref (ad 0), .int x0, .int x1, .ref (ad 99)]) ++ List.replicate (5 - (lg_sl ([.ref (ad 0), .int x0, .int x1, .ref (ad 99)])).length) Slot.unset).toArray = ls at hl ⊢
  have hl : lv_has ls 5 [(0, .ref (ad 0)), (1, .int x0), (2, .int x1), (3, .ref (ad 99))] := hl
  refine lv_aload_n hx hb dL_one_0 rfl (lv_at hl 3 rfl) ?_
  refine lv_iconst (v := nI 0) hx hb dL_one_1 (by decide) ?_
  refine lv_aload_n hx hb dL_one_2 rfl (lv_at hl 0 rfl) ?_
  refine lv_iload_n hx hb dL_one_3 rfl (lv_at hl 1 rfl) ?_
  refine lv_iload_n hx hb dL_one_4 rfl (lv_at hl 2 rfl) ?_
  refine k_T (vx_runV (As := [.int x0, .int x1]) (rest := [.int (nI 0), .ref (ad 99)]) ⟨hx, hb, hml, hown, hts⟩ (c_X9_one_a l hst G z ad M (x0 := x0) (x1 := x1) hbad) (cwV 2 hts (gV (lwg_of t_837 rfl) (lwg_of t_838 rfl) (lwg_of t_839 rfl) (lwg_of t_1 rfl) (lwg_of t_840 rfl)) rfl rfl rfl (by decide +kernel) ⟨Nat.le_of_ble_eq_true rfl, Nat.le_of_ble_eq_true rfl⟩) (hI.preV h0 rfl) rfl rfl hl.1 rfl (lv_room (Nat.le_of_ble_eq_true rfl)) dL_one_5 ⟨Nat.le_of_ble_eq_true rfl, Nat.le_of_ble_eq_true rfl⟩) hI (fun ce q9 H_3 locs_4 hI hce hcv hcl => ?_)
  refine vx_catch (name := "java/lang/IndexOutOfBoundsException") hown [] ⟨0, 17, 20, 13⟩ [] (htab.trans rfl) (fun z9 h9 => nomatch h9) (by decide) (by decide) cl_13 (va_Nw.use rfl (hI.1.2.1.2.2 ("java/lang/IndexOutOfBoundsException", "java/lang/IndexOutOfBoundsException") (List.mem_of_getElem? (i := 1) rfl))) hce hcv hcl ?_
  refine lv_astore (lv' := [(4, .ref q9), (0, .ref (ad 0)), (1, .int x0), (2, .int x1), (3, .ref (ad 99))]) hx hb dL_one_20 hl (by decide) rfl (fun ls hl => ?_)
  refine lv_iconst (v := nI 1) hx hb dL_one_22 (by decide) ?_
  exact e_Ni hx hb hr rfl hlocks hI ⟨rfl, (fun j  => rfl)⟩ dL_one_23

/-- L_one -/
abbrev rm_c_L_one_b : Room := { frames := 8, cells := 1, slots := 6, locals := 132 }
set_option maxHeartbeats 4000000 in
set_option maxRecDepth 100000 in
theorem c_L_one_b (l : Launch) (hst : l.stackTraces = false) (G : GG) (z : Nat) (ad : Nat → Nat) (M : Mem) {qa : Nat} {qs : Nat} {fw : Int32} {a : Nat} {x1 : Int32} (h0 : M 0 = some (cStore ad qa qs fw)) (ha : a < 40) (hbad : x1 < 0 ∨ ¬ x1 < nI 40) : Met l yL_one wsL_one rm_c_L_one_b (Pr G z ad M [.ref (ad 0), .int (nI a), .int x1, .ref (ad 99)]) (Ni G z ad (fun (r : Int32) (M' : Mem) => r = nI 1 ∧ (∀ j : Nat,  M' j = M j))) 1 6 (fr z) := by
  refine mt_ofWH (cc := cL_one) (maxL := 5) (ret := (some .int)) (hh := [(0, 17, 20, 13)]) (by decide) rfl ?_
  intro p e s m args below meth c s₁ B hml hv
  obtain ⟨rfl, hv⟩ := hv
  have hI := Iv.entry hv
  have hx := B.exec
  have hb := B.bytes
  have hr := B.returns
  have hts := atoms_spec (ws := wsL_one) B.pre
  have hown : s.vm.findClass RL = some m.cls := findClass_of_methodNamed B.named
  have hlocks := B.notSynchronized
  have htab := vx_table (x := yL_one) B (hts _ List.mem_cons_self)
  have cl_13 := hts _ (List.mem_cons_of_mem _ (lwg_of t_471 rfl))
  have hl := lv_entry ([.ref (ad 0), .int (nI a), .int x1, .ref (ad 99)]) (n := 5) (Nat.le_of_ble_eq_true rfl)
  rw [lg_entry_eq]
  generalize (lg_sl ([.ref (ad 0), .int (nI a), .int x1, .ref (ad 99)]) ++ List.replicate (5 - (lg_sl ([.ref (ad 0), .int (nI a), .int x1, .ref (ad 99)])).length) Slot.unset).toArray = ls at hl ⊢
  have hl : lv_has ls 5 [(0, .ref (ad 0)), (1, .int (nI a)), (2, .int x1), (3, .ref (ad 99))] := hl
  refine lv_aload_n hx hb dL_one_0 rfl (lv_at hl 3 rfl) ?_
  refine lv_iconst (v := nI 0) hx hb dL_one_1 (by decide) ?_
  refine lv_aload_n hx hb dL_one_2 rfl (lv_at hl 0 rfl) ?_
  refine lv_iload_n hx hb dL_one_3 rfl (lv_at hl 1 rfl) ?_
  refine lv_iload_n hx hb dL_one_4 rfl (lv_at hl 2 rfl) ?_
  refine k_T (vx_runV (As := [.int (nI a), .int x1]) (rest := [.int (nI 0), .ref (ad 99)]) ⟨hx, hb, hml, hown, hts⟩ (c_X9_one_b l hst G z ad M (a := a) (x1 := x1) ha hbad) (cwV 2 hts (gV (lwg_of t_837 rfl) (lwg_of t_838 rfl) (lwg_of t_839 rfl) (lwg_of t_1 rfl) (lwg_of t_840 rfl)) rfl rfl rfl (by decide +kernel) ⟨Nat.le_of_ble_eq_true rfl, Nat.le_of_ble_eq_true rfl⟩) (hI.preV h0 rfl) rfl rfl hl.1 rfl (lv_room (Nat.le_of_ble_eq_true rfl)) dL_one_5 ⟨Nat.le_of_ble_eq_true rfl, Nat.le_of_ble_eq_true rfl⟩) hI (fun ce q9 H_3 locs_4 hI hce hcv hcl => ?_)
  refine vx_catch (name := "java/lang/IndexOutOfBoundsException") hown [] ⟨0, 17, 20, 13⟩ [] (htab.trans rfl) (fun z9 h9 => nomatch h9) (by decide) (by decide) cl_13 (va_Nw.use rfl (hI.1.2.1.2.2 ("java/lang/IndexOutOfBoundsException", "java/lang/IndexOutOfBoundsException") (List.mem_of_getElem? (i := 1) rfl))) hce hcv hcl ?_
  refine lv_astore (lv' := [(4, .ref q9), (0, .ref (ad 0)), (1, .int (nI a)), (2, .int x1), (3, .ref (ad 99))]) hx hb dL_one_20 hl (by decide) rfl (fun ls hl => ?_)
  refine lv_iconst (v := nI 1) hx hb dL_one_22 (by decide) ?_
  exact e_Ni hx hb hr rfl hlocks hI ⟨rfl, (fun j  => rfl)⟩ dL_one_23

/-- L_as -/
abbrev rm_c_L_as : Room := { frames := 2, cells := 0, slots := 0, locals := 42 }
set_option maxHeartbeats 4000000 in
set_option maxRecDepth 100000 in
theorem c_L_as (l : Launch) (hst : l.stackTraces = false) (G : GG) (z : Nat) (ad : Nat → Nat) (M : Mem) {qa : Nat} {qs : Nat} {fw : Int32} {jn : Nat} {lst : Nat → Nat} {t : Nat} {of : Nat → Int64} (h0 : M 0 = some (cStore ad qa qs fw)) (h8 : M 8 = some (cOnes ad jn)) (h10 : M 10 = some (aI G 40 (nF lst))) (h99 : M 99 = some (aJ G 1 of)) (ht : t < 40) : Met l yL_as wsL_as rm_c_L_as (Pr G z ad M [.ref (ad 0), .int (nI t), .ref (ad 99)]) (Ni G z ad (fun (r : Int32) (M' : Mem) => r = nI 0 ∧ M' 99 = some (aJ G 1 (vp_updL of 0 ((nI (lst t)).toInt64))) ∧ (∀ j : Nat, j ≠ 99 → M' j = M j))) 0 0 (fr z) := by
  refine mt_ofWH (cc := cL_as) (maxL := 4) (ret := (some .int)) (hh := [(0, 9, 12, 13)]) (by decide) rfl ?_
  intro p e s m args below meth c s₁ B hml hv
  obtain ⟨rfl, hv⟩ := hv
  have hI := Iv.entry hv
  have hx := B.exec
  have hb := B.bytes
  have hr := B.returns
  have hts := atoms_spec (ws := wsL_as) B.pre
  have hown : s.vm.findClass RL = some m.cls := findClass_of_methodNamed B.named
  have hlocks := B.notSynchronized
  have htab := vx_table (x := yL_as) B (hts _ List.mem_cons_self)
  have hl := lv_entry ([.ref (ad 0), .int (nI t), .ref (ad 99)]) (n := 4) (Nat.le_of_ble_eq_true rfl)
  rw [lg_entry_eq]
  generalize (lg_sl ([.ref (ad 0), .int (nI t), .ref (ad 99)]) ++ List.replicate (4 - (lg_sl ([.ref (ad 0), .int (nI t), .ref (ad 99)])).length) Slot.unset).toArray = ls at hl ⊢
  have hl : lv_has ls 4 [(0, .ref (ad 0)), (1, .int (nI t)), (2, .ref (ad 99))] := hl
  refine lv_aload_n hx hb dL_as_0 rfl (lv_at hl 2 rfl) ?_
  refine lv_iconst (v := nI 0) hx hb dL_as_1 (by decide) ?_
  refine lv_aload_n hx hb dL_as_2 rfl (lv_at hl 0 rfl) ?_
  refine lv_iload_n hx hb dL_as_3 rfl (lv_at hl 1 rfl) ?_
  refine k_Ni (va_runV (As := [.int (nI t)]) (rest := [.int (nI 0), .ref (ad 99)]) ⟨hx, hb, hml, hown, hts⟩ (c_X9_as l G z ad M (qa := qa) (qs := qs) (fw := fw) (jn := jn) (lst := lst) (t := t) h0 h8 h10 ht) (cwV 1 hts (gV (lwg_of t_850 rfl) (lwg_of t_851 rfl) (lwg_of t_852 rfl) (lwg_of t_1 rfl) (lwg_of t_853 rfl)) rfl rfl rfl (by decide +kernel) ⟨Nat.le_of_ble_eq_true rfl, Nat.le_of_ble_eq_true rfl⟩) (hI.preV h0 rfl) rfl rfl hl.1 rfl (lv_room (Nat.le_of_ble_eq_true rfl)) dL_as_4 ⟨Nat.le_of_ble_eq_true rfl, Nat.le_of_ble_eq_true rfl⟩) hI (fun r_1 M_3 H_4 locs_5 hp_2 hI => ?_)
  obtain ⟨hr_6, hF_7⟩ := hp_2
  have hm_8 : M_3 0 = some (cStore ad qa qs fw) := by rw [hF_7 0 ]; exact h0
  have hm_9 : M_3 8 = some (cOnes ad jn) := by rw [hF_7 8 ]; exact h8
  have hm_10 : M_3 10 = some (aI G 40 (nF lst)) := by rw [hF_7 10 ]; exact h10
  have hm_11 : M_3 99 = some (aJ G 1 of) := by rw [hF_7 99 ]; exact h99
  rw [hr_6]
  refine lv_i2l (v := (nI (lst t)).toInt64) hx hb dL_as_7 rfl ?_
  refine h_last (i := 0) (x := (nI (lst t)).toInt64) hx hb hI hm_11 (by omega) (by decide) dL_as_8 (fun M_12 H_13 locs_14 eM_15 hI => ?_)
  have hm_16 : M_12 0 = some (cStore ad qa qs fw) := by rw [eM_15, va_up_ne _ _ (by decide)]; exact hm_8
  have hm_17 : M_12 8 = some (cOnes ad jn) := by rw [eM_15, va_up_ne _ _ (by decide)]; exact hm_9
  have hm_18 : M_12 10 = some (aI G 40 (nF lst)) := by rw [eM_15, va_up_ne _ _ (by decide)]; exact hm_10
  have hm_19 : M_12 99 = some (aJ G 1 (vp_updL of 0 ((nI (lst t)).toInt64))) := by rw [eM_15]; exact va_up_self _ _ _
  have hF_20 : ∀ j : Nat, j ≠ 99 → M_12 j = M j := fun j q0 => by rw [eM_15, va_up_ne _ _ q0]; exact hF_7 j 
  refine lv_goto (tgt := 15) hx hb dL_as_9 (by decide) ?_
  refine lv_iconst (v := nI 0) hx hb dL_as_15 (by decide) ?_
  exact e_Ni hx hb hr rfl hlocks hI ⟨rfl, hm_19, (fun j q0 => hF_20 j q0)⟩ dL_as_16

/-- L_as -/
abbrev rm_c_L_as_a : Room := { frames := 8, cells := 1, slots := 6, locals := 131 }
set_option maxHeartbeats 4000000 in
set_option maxRecDepth 100000 in
theorem c_L_as_a (l : Launch) (hst : l.stackTraces = false) (G : GG) (z : Nat) (ad : Nat → Nat) (M : Mem) {qa : Nat} {qs : Nat} {fw : Int32} {x0 : Int32} (h0 : M 0 = some (cStore ad qa qs fw)) (hbad : x0 < 0 ∨ ¬ x0 < nI 40) : Met l yL_as wsL_as rm_c_L_as_a (Pr G z ad M [.ref (ad 0), .int x0, .ref (ad 99)]) (Ni G z ad (fun (r : Int32) (M' : Mem) => r = nI 1 ∧ (∀ j : Nat,  M' j = M j))) 1 6 (fr z) := by
  refine mt_ofWH (cc := cL_as) (maxL := 4) (ret := (some .int)) (hh := [(0, 9, 12, 13)]) (by decide) rfl ?_
  intro p e s m args below meth c s₁ B hml hv
  obtain ⟨rfl, hv⟩ := hv
  have hI := Iv.entry hv
  have hx := B.exec
  have hb := B.bytes
  have hr := B.returns
  have hts := atoms_spec (ws := wsL_as) B.pre
  have hown : s.vm.findClass RL = some m.cls := findClass_of_methodNamed B.named
  have hlocks := B.notSynchronized
  have htab := vx_table (x := yL_as) B (hts _ List.mem_cons_self)
  have cl_13 := hts _ (List.mem_cons_of_mem _ (lwg_of t_471 rfl))
  have hl := lv_entry ([.ref (ad 0), .int x0, .ref (ad 99)]) (n := 4) (Nat.le_of_ble_eq_true rfl)
  rw [lg_entry_eq]
  generalize (lg_sl ([.ref (ad 0), .int x0, .ref (ad 99)]) ++ List.replicate (4 - (lg_sl ([.ref (ad 0), .int x0, .ref (ad 99)])).length) Slot.unset).toArray = ls at hl ⊢
  have hl : lv_has ls 4 [(0, .ref (ad 0)), (1, .int x0), (2, .ref (ad 99))] := hl
  refine lv_aload_n hx hb dL_as_0 rfl (lv_at hl 2 rfl) ?_
  refine lv_iconst (v := nI 0) hx hb dL_as_1 (by decide) ?_
  refine lv_aload_n hx hb dL_as_2 rfl (lv_at hl 0 rfl) ?_
  refine lv_iload_n hx hb dL_as_3 rfl (lv_at hl 1 rfl) ?_
  refine k_T (vx_runV (As := [.int x0]) (rest := [.int (nI 0), .ref (ad 99)]) ⟨hx, hb, hml, hown, hts⟩ (c_X9_as_a l hst G z ad M (x0 := x0) hbad) (cwV 1 hts (gV (lwg_of t_850 rfl) (lwg_of t_851 rfl) (lwg_of t_852 rfl) (lwg_of t_1 rfl) (lwg_of t_853 rfl)) rfl rfl rfl (by decide +kernel) ⟨Nat.le_of_ble_eq_true rfl, Nat.le_of_ble_eq_true rfl⟩) (hI.preV h0 rfl) rfl rfl hl.1 rfl (lv_room (Nat.le_of_ble_eq_true rfl)) dL_as_4 ⟨Nat.le_of_ble_eq_true rfl, Nat.le_of_ble_eq_true rfl⟩) hI (fun ce q9 H_3 locs_4 hI hce hcv hcl => ?_)
  refine vx_catch (name := "java/lang/IndexOutOfBoundsException") hown [] ⟨0, 9, 12, 13⟩ [] (htab.trans rfl) (fun z9 h9 => nomatch h9) (by decide) (by decide) cl_13 (va_Nw.use rfl (hI.1.2.1.2.2 ("java/lang/IndexOutOfBoundsException", "java/lang/IndexOutOfBoundsException") (List.mem_of_getElem? (i := 1) rfl))) hce hcv hcl ?_
  refine lv_astore_n (lv' := [(3, .ref q9), (0, .ref (ad 0)), (1, .int x0), (2, .ref (ad 99))]) hx hb dL_as_12 rfl hl (by decide) rfl (fun ls hl => ?_)
  refine lv_iconst (v := nI 1) hx hb dL_as_13 (by decide) ?_
  exact e_Ni hx hb hr rfl hlocks hI ⟨rfl, (fun j  => rfl)⟩ dL_as_14

/-- L_look -/
abbrev rm_c_L_look_0 : Room := { frames := 5, cells := 0, slots := 0, locals := 108 }
set_option maxHeartbeats 4000000 in
set_option maxRecDepth 100000 in
theorem c_L_look_0 (l : Launch) (hst : l.stackTraces = false) (G : GG) (z : Nat) (ad : Nat → Nat) (M : Mem) {n : Nat} {kd : Nat → Nat} {fm : Nat → Int32} {to : Nat → Int32} {sz : Nat → Nat} {rl : Nat → Nat → Nat} {en : Nat → Nat → Nat} {qa : Nat} {qs : Nat} {fw : Int32} {q : Nat} {of : Nat → Int64} (hL : LSm G ad M n kd fm to sz rl en) (h0 : M 0 = some (cStore ad qa qs fw)) (h99 : M 99 = some (aJ G 1 of)) (hw : LSw n kd sz rl en) (hq : q < n) : Met l yL_look wsL_look rm_c_L_look_0 (Pr G z ad M [.ref (ad 0), .int (nI q), .int (nI 0), .ref (ad 99)]) (Ni G z ad (fun (r : Int32) (M' : Mem) => r = nI 0 ∧ M' 99 = some (aJ G 1 (vp_updL of 0 ((nI (kd q)).toInt64))) ∧ (∀ j : Nat, j ≠ 99 → M' j = M j))) 0 0 (fr z) := by
  refine mt_ofWH (cc := cL_look) (maxL := 5) (ret := (some .int)) (hh := [(0, 10, 13, 13), (0, 10, 17, 50)]) (by decide) rfl ?_
  intro p e s m args below meth c s₁ B hml hv
  obtain ⟨rfl, hv⟩ := hv
  have hI := Iv.entry hv
  have hx := B.exec
  have hb := B.bytes
  have hr := B.returns
  have hts := atoms_spec (ws := wsL_look) B.pre
  have hown : s.vm.findClass RL = some m.cls := findClass_of_methodNamed B.named
  have hlocks := B.notSynchronized
  have htab := vx_table (x := yL_look) B (hts _ List.mem_cons_self)
  have hl := lv_entry ([.ref (ad 0), .int (nI q), .int (nI 0), .ref (ad 99)]) (n := 5) (Nat.le_of_ble_eq_true rfl)
  rw [lg_entry_eq]
  generalize (lg_sl ([.ref (ad 0), .int (nI q), .int (nI 0), .ref (ad 99)]) ++ List.replicate (5 - (lg_sl ([.ref (ad 0), .int (nI q), .int (nI 0), .ref (ad 99)])).length) Slot.unset).toArray = ls at hl ⊢
  have hl : lv_has ls 5 [(0, .ref (ad 0)), (1, .int (nI q)), (2, .int (nI 0)), (3, .ref (ad 99))] := hl
  have h16 := hL.1
  obtain ⟨mcn, ed, h17, hed⟩ := id hL.2.1
  refine lv_aload_n hx hb dL_look_0 rfl (lv_at hl 3 rfl) ?_
  refine lv_iconst (v := nI 0) hx hb dL_look_1 (by decide) ?_
  refine lv_aload_n hx hb dL_look_2 rfl (lv_at hl 0 rfl) ?_
  refine lv_iload_n hx hb dL_look_3 rfl (lv_at hl 1 rfl) ?_
  refine lv_iload_n hx hb dL_look_4 rfl (lv_at hl 2 rfl) ?_
  refine k_Ni (va_runV (As := [.int (nI q), .int (nI 0)]) (rest := [.int (nI 0), .ref (ad 99)]) ⟨hx, hb, hml, hown, hts⟩ (c_X9_look_0 l G z ad M (n := n) (kd := kd) (fm := fm) (to := to) (sz := sz) (rl := rl) (en := en) (qa := qa) (qs := qs) (fw := fw) (q := q) hL h0 hw hq) (cwV 2 hts (gV (lwg_of t_859 rfl) (lwg_of t_860 rfl) (lwg_of t_861 rfl) (lwg_of t_1 rfl) (lwg_of t_862 rfl)) rfl rfl rfl (by decide +kernel) ⟨Nat.le_of_ble_eq_true rfl, Nat.le_of_ble_eq_true rfl⟩) (hI.preV h0 rfl) rfl rfl hl.1 rfl (lv_room (Nat.le_of_ble_eq_true rfl)) dL_look_5 ⟨Nat.le_of_ble_eq_true rfl, Nat.le_of_ble_eq_true rfl⟩) hI (fun r_1 M_3 H_4 locs_5 hp_2 hI => ?_)
  obtain ⟨hr_6, hF_7⟩ := hp_2
  have hm_8 : M_3 0 = some (cStore ad qa qs fw) := by rw [hF_7 0 ]; exact h0
  have hm_9 : M_3 99 = some (aJ G 1 of) := by rw [hF_7 99 ]; exact h99
  have hm_10 : M_3 16 = some (cLines ad ) := by rw [hF_7 16 ]; exact h16
  have hm_11 : M_3 17 = some (cList ad mcn ed n) := by rw [hF_7 17 ]; exact h17
  have hL_12 : LSm G ad M_3 n kd fm to sz rl en := hL.keep (fun j hj => hF_7 j )
  rw [hr_6]
  refine lv_i2l (v := (nI (kd q)).toInt64) hx hb dL_look_8 rfl ?_
  refine h_last (i := 0) (x := (nI (kd q)).toInt64) hx hb hI hm_9 (by omega) (by decide) dL_look_9 (fun M_13 H_14 locs_15 eM_16 hI => ?_)
  have hm_17 : M_13 0 = some (cStore ad qa qs fw) := by rw [eM_16, va_up_ne _ _ (by decide)]; exact hm_8
  have hm_18 : M_13 99 = some (aJ G 1 (vp_updL of 0 ((nI (kd q)).toInt64))) := by rw [eM_16]; exact va_up_self _ _ _
  have hm_19 : M_13 16 = some (cLines ad ) := by rw [eM_16, va_up_ne _ _ (by decide)]; exact hm_10
  have hm_20 : M_13 17 = some (cList ad mcn ed n) := by rw [eM_16, va_up_ne _ _ (by decide)]; exact hm_11
  have hL_21 : LSm G ad M_13 n kd fm to sz rl en := hL_12.keep (fun j hj => by rw [eM_16, va_up_ne _ _ (by omega)])
  have hF_22 : ∀ j : Nat, j ≠ 99 → M_13 j = M j := fun j q0 => by rw [eM_16, va_up_ne _ _ q0]; exact hF_7 j 
  refine lv_goto (tgt := 21) hx hb dL_look_10 (by decide) ?_
  refine lv_iconst (v := nI 0) hx hb dL_look_21 (by decide) ?_
  exact e_Ni hx hb hr rfl hlocks hI ⟨rfl, hm_18, (fun j q0 => hF_22 j q0)⟩ dL_look_22

/-- L_look -/
abbrev rm_c_L_look_1 : Room := { frames := 5, cells := 0, slots := 0, locals := 108 }
set_option maxHeartbeats 4000000 in
set_option maxRecDepth 100000 in
theorem c_L_look_1 (l : Launch) (hst : l.stackTraces = false) (G : GG) (z : Nat) (ad : Nat → Nat) (M : Mem) {n : Nat} {kd : Nat → Nat} {fm : Nat → Int32} {to : Nat → Int32} {sz : Nat → Nat} {rl : Nat → Nat → Nat} {en : Nat → Nat → Nat} {qa : Nat} {qs : Nat} {fw : Int32} {q : Nat} {of : Nat → Int64} (hL : LSm G ad M n kd fm to sz rl en) (h0 : M 0 = some (cStore ad qa qs fw)) (h99 : M 99 = some (aJ G 1 of)) (hw : LSw n kd sz rl en) (hq : q < n) : Met l yL_look wsL_look rm_c_L_look_1 (Pr G z ad M [.ref (ad 0), .int (nI q), .int (nI 1), .ref (ad 99)]) (Ni G z ad (fun (r : Int32) (M' : Mem) => r = nI 0 ∧ M' 99 = some (aJ G 1 (vp_updL of 0 ((fm q).toInt64))) ∧ (∀ j : Nat, j ≠ 99 → M' j = M j))) 0 0 (fr z) := by
  refine mt_ofWH (cc := cL_look) (maxL := 5) (ret := (some .int)) (hh := [(0, 10, 13, 13), (0, 10, 17, 50)]) (by decide) rfl ?_
  intro p e s m args below meth c s₁ B hml hv
  obtain ⟨rfl, hv⟩ := hv
  have hI := Iv.entry hv
  have hx := B.exec
  have hb := B.bytes
  have hr := B.returns
  have hts := atoms_spec (ws := wsL_look) B.pre
  have hown : s.vm.findClass RL = some m.cls := findClass_of_methodNamed B.named
  have hlocks := B.notSynchronized
  have htab := vx_table (x := yL_look) B (hts _ List.mem_cons_self)
  have hl := lv_entry ([.ref (ad 0), .int (nI q), .int (nI 1), .ref (ad 99)]) (n := 5) (Nat.le_of_ble_eq_true rfl)
  rw [lg_entry_eq]
  generalize (lg_sl ([.ref (ad 0), .int (nI q), .int (nI 1), .ref (ad 99)]) ++ List.replicate (5 - (lg_sl ([.ref (ad 0), .int (nI q), .int (nI 1), .ref (ad 99)])).length) Slot.unset).toArray = ls at hl ⊢
  have hl : lv_has ls 5 [(0, .ref (ad 0)), (1, .int (nI q)), (2, .int (nI 1)), (3, .ref (ad 99))] := hl
  have h16 := hL.1
  obtain ⟨mcn, ed, h17, hed⟩ := id hL.2.1
  refine lv_aload_n hx hb dL_look_0 rfl (lv_at hl 3 rfl) ?_
  refine lv_iconst (v := nI 0) hx hb dL_look_1 (by decide) ?_
  refine lv_aload_n hx hb dL_look_2 rfl (lv_at hl 0 rfl) ?_
  refine lv_iload_n hx hb dL_look_3 rfl (lv_at hl 1 rfl) ?_
  refine lv_iload_n hx hb dL_look_4 rfl (lv_at hl 2 rfl) ?_
  refine k_Ni (va_runV (As := [.int (nI q), .int (nI 1)]) (rest := [.int (nI 0), .ref (ad 99)]) ⟨hx, hb, hml, hown, hts⟩ (c_X9_look_1 l G z ad M (n := n) (kd := kd) (fm := fm) (to := to) (sz := sz) (rl := rl) (en := en) (qa := qa) (qs := qs) (fw := fw) (q := q) hL h0 hw hq) (cwV 2 hts (gV (lwg_of t_859 rfl) (lwg_of t_860 rfl) (lwg_of t_861 rfl) (lwg_of t_1 rfl) (lwg_of t_862 rfl)) rfl rfl rfl (by decide +kernel) ⟨Nat.le_of_ble_eq_true rfl, Nat.le_of_ble_eq_true rfl⟩) (hI.preV h0 rfl) rfl rfl hl.1 rfl (lv_room (Nat.le_of_ble_eq_true rfl)) dL_look_5 ⟨Nat.le_of_ble_eq_true rfl, Nat.le_of_ble_eq_true rfl⟩) hI (fun r_1 M_3 H_4 locs_5 hp_2 hI => ?_)
  obtain ⟨hr_6, hF_7⟩ := hp_2
  have hm_8 : M_3 0 = some (cStore ad qa qs fw) := by rw [hF_7 0 ]; exact h0
  have hm_9 : M_3 99 = some (aJ G 1 of) := by rw [hF_7 99 ]; exact h99
  have hm_10 : M_3 16 = some (cLines ad ) := by rw [hF_7 16 ]; exact h16
  have hm_11 : M_3 17 = some (cList ad mcn ed n) := by rw [hF_7 17 ]; exact h17
  have hL_12 : LSm G ad M_3 n kd fm to sz rl en := hL.keep (fun j hj => hF_7 j )
  rw [hr_6]
  refine lv_i2l (v := (fm q).toInt64) hx hb dL_look_8 rfl ?_
  refine h_last (i := 0) (x := (fm q).toInt64) hx hb hI hm_9 (by omega) (by decide) dL_look_9 (fun M_13 H_14 locs_15 eM_16 hI => ?_)
  have hm_17 : M_13 0 = some (cStore ad qa qs fw) := by rw [eM_16, va_up_ne _ _ (by decide)]; exact hm_8
  have hm_18 : M_13 99 = some (aJ G 1 (vp_updL of 0 ((fm q).toInt64))) := by rw [eM_16]; exact va_up_self _ _ _
  have hm_19 : M_13 16 = some (cLines ad ) := by rw [eM_16, va_up_ne _ _ (by decide)]; exact hm_10
  have hm_20 : M_13 17 = some (cList ad mcn ed n) := by rw [eM_16, va_up_ne _ _ (by decide)]; exact hm_11
  have hL_21 : LSm G ad M_13 n kd fm to sz rl en := hL_12.keep (fun j hj => by rw [eM_16, va_up_ne _ _ (by omega)])
  have hF_22 : ∀ j : Nat, j ≠ 99 → M_13 j = M j := fun j q0 => by rw [eM_16, va_up_ne _ _ q0]; exact hF_7 j 
  refine lv_goto (tgt := 21) hx hb dL_look_10 (by decide) ?_
  refine lv_iconst (v := nI 0) hx hb dL_look_21 (by decide) ?_
  exact e_Ni hx hb hr rfl hlocks hI ⟨rfl, hm_18, (fun j q0 => hF_22 j q0)⟩ dL_look_22

/-- L_look -/
abbrev rm_c_L_look_2 : Room := { frames := 5, cells := 0, slots := 0, locals := 108 }
set_option maxHeartbeats 4000000 in
set_option maxRecDepth 100000 in
theorem c_L_look_2 (l : Launch) (hst : l.stackTraces = false) (G : GG) (z : Nat) (ad : Nat → Nat) (M : Mem) {n : Nat} {kd : Nat → Nat} {fm : Nat → Int32} {to : Nat → Int32} {sz : Nat → Nat} {rl : Nat → Nat → Nat} {en : Nat → Nat → Nat} {qa : Nat} {qs : Nat} {fw : Int32} {q : Nat} {of : Nat → Int64} (hL : LSm G ad M n kd fm to sz rl en) (h0 : M 0 = some (cStore ad qa qs fw)) (h99 : M 99 = some (aJ G 1 of)) (hw : LSw n kd sz rl en) (hq : q < n) : Met l yL_look wsL_look rm_c_L_look_2 (Pr G z ad M [.ref (ad 0), .int (nI q), .int (nI 2), .ref (ad 99)]) (Ni G z ad (fun (r : Int32) (M' : Mem) => r = nI 0 ∧ M' 99 = some (aJ G 1 (vp_updL of 0 ((to q).toInt64))) ∧ (∀ j : Nat, j ≠ 99 → M' j = M j))) 0 0 (fr z) := by
  refine mt_ofWH (cc := cL_look) (maxL := 5) (ret := (some .int)) (hh := [(0, 10, 13, 13), (0, 10, 17, 50)]) (by decide) rfl ?_
  intro p e s m args below meth c s₁ B hml hv
  obtain ⟨rfl, hv⟩ := hv
  have hI := Iv.entry hv
  have hx := B.exec
  have hb := B.bytes
  have hr := B.returns
  have hts := atoms_spec (ws := wsL_look) B.pre
  have hown : s.vm.findClass RL = some m.cls := findClass_of_methodNamed B.named
  have hlocks := B.notSynchronized
  have htab := vx_table (x := yL_look) B (hts _ List.mem_cons_self)
  have hl := lv_entry ([.ref (ad 0), .int (nI q), .int (nI 2), .ref (ad 99)]) (n := 5) (Nat.le_of_ble_eq_true rfl)
  rw [lg_entry_eq]
  generalize (lg_sl ([.ref (ad 0), .int (nI q), .int (nI 2), .ref (ad 99)]) ++ List.replicate (5 - (lg_sl ([.ref (ad 0), .int (nI q), .int (nI 2), .ref (ad 99)])).length) Slot.unset).toArray = ls at hl ⊢
  have hl : lv_has ls 5 [(0, .ref (ad 0)), (1, .int (nI q)), (2, .int (nI 2)), (3, .ref (ad 99))] := hl
  have h16 := hL.1
  obtain ⟨mcn, ed, h17, hed⟩ := id hL.2.1
  refine lv_aload_n hx hb dL_look_0 rfl (lv_at hl 3 rfl) ?_
  refine lv_iconst (v := nI 0) hx hb dL_look_1 (by decide) ?_
  refine lv_aload_n hx hb dL_look_2 rfl (lv_at hl 0 rfl) ?_
  refine lv_iload_n hx hb dL_look_3 rfl (lv_at hl 1 rfl) ?_
  refine lv_iload_n hx hb dL_look_4 rfl (lv_at hl 2 rfl) ?_
  refine k_Ni (va_runV (As := [.int (nI q), .int (nI 2)]) (rest := [.int (nI 0), .ref (ad 99)]) ⟨hx, hb, hml, hown, hts⟩ (c_X9_look_2 l G z ad M (n := n) (kd := kd) (fm := fm) (to := to) (sz := sz) (rl := rl) (en := en) (qa := qa) (qs := qs) (fw := fw) (q := q) hL h0 hw hq) (cwV 2 hts (gV (lwg_of t_859 rfl) (lwg_of t_860 rfl) (lwg_of t_861 rfl) (lwg_of t_1 rfl) (lwg_of t_862 rfl)) rfl rfl rfl (by decide +kernel) ⟨Nat.le_of_ble_eq_true rfl, Nat.le_of_ble_eq_true rfl⟩) (hI.preV h0 rfl) rfl rfl hl.1 rfl (lv_room (Nat.le_of_ble_eq_true rfl)) dL_look_5 ⟨Nat.le_of_ble_eq_true rfl, Nat.le_of_ble_eq_true rfl⟩) hI (fun r_1 M_3 H_4 locs_5 hp_2 hI => ?_)
  obtain ⟨hr_6, hF_7⟩ := hp_2
  have hm_8 : M_3 0 = some (cStore ad qa qs fw) := by rw [hF_7 0 ]; exact h0
  have hm_9 : M_3 99 = some (aJ G 1 of) := by rw [hF_7 99 ]; exact h99
  have hm_10 : M_3 16 = some (cLines ad ) := by rw [hF_7 16 ]; exact h16
  have hm_11 : M_3 17 = some (cList ad mcn ed n) := by rw [hF_7 17 ]; exact h17
  have hL_12 : LSm G ad M_3 n kd fm to sz rl en := hL.keep (fun j hj => hF_7 j )
  rw [hr_6]
  refine lv_i2l (v := (to q).toInt64) hx hb dL_look_8 rfl ?_
  refine h_last (i := 0) (x := (to q).toInt64) hx hb hI hm_9 (by omega) (by decide) dL_look_9 (fun M_13 H_14 locs_15 eM_16 hI => ?_)
  have hm_17 : M_13 0 = some (cStore ad qa qs fw) := by rw [eM_16, va_up_ne _ _ (by decide)]; exact hm_8
  have hm_18 : M_13 99 = some (aJ G 1 (vp_updL of 0 ((to q).toInt64))) := by rw [eM_16]; exact va_up_self _ _ _
  have hm_19 : M_13 16 = some (cLines ad ) := by rw [eM_16, va_up_ne _ _ (by decide)]; exact hm_10
  have hm_20 : M_13 17 = some (cList ad mcn ed n) := by rw [eM_16, va_up_ne _ _ (by decide)]; exact hm_11
  have hL_21 : LSm G ad M_13 n kd fm to sz rl en := hL_12.keep (fun j hj => by rw [eM_16, va_up_ne _ _ (by omega)])
  have hF_22 : ∀ j : Nat, j ≠ 99 → M_13 j = M j := fun j q0 => by rw [eM_16, va_up_ne _ _ q0]; exact hF_7 j 
  refine lv_goto (tgt := 21) hx hb dL_look_10 (by decide) ?_
  refine lv_iconst (v := nI 0) hx hb dL_look_21 (by decide) ?_
  exact e_Ni hx hb hr rfl hlocks hI ⟨rfl, hm_18, (fun j q0 => hF_22 j q0)⟩ dL_look_22

/-- L_look -/
abbrev rm_c_L_look_3 : Room := { frames := 5, cells := 0, slots := 0, locals := 108 }
set_option maxHeartbeats 4000000 in
set_option maxRecDepth 100000 in
theorem c_L_look_3 (l : Launch) (hst : l.stackTraces = false) (G : GG) (z : Nat) (ad : Nat → Nat) (M : Mem) {n : Nat} {kd : Nat → Nat} {fm : Nat → Int32} {to : Nat → Int32} {sz : Nat → Nat} {rl : Nat → Nat → Nat} {en : Nat → Nat → Nat} {qa : Nat} {qs : Nat} {fw : Int32} {q : Nat} {of : Nat → Int64} (hL : LSm G ad M n kd fm to sz rl en) (h0 : M 0 = some (cStore ad qa qs fw)) (h99 : M 99 = some (aJ G 1 of)) (hw : LSw n kd sz rl en) (hq : q < n) : Met l yL_look wsL_look rm_c_L_look_3 (Pr G z ad M [.ref (ad 0), .int (nI q), .int (nI 3), .ref (ad 99)]) (Ni G z ad (fun (r : Int32) (M' : Mem) => r = nI 0 ∧ M' 99 = some (aJ G 1 (vp_updL of 0 ((nI (sz q)).toInt64))) ∧ (∀ j : Nat, j ≠ 99 → M' j = M j))) 0 0 (fr z) := by
  refine mt_ofWH (cc := cL_look) (maxL := 5) (ret := (some .int)) (hh := [(0, 10, 13, 13), (0, 10, 17, 50)]) (by decide) rfl ?_
  intro p e s m args below meth c s₁ B hml hv
  obtain ⟨rfl, hv⟩ := hv
  have hI := Iv.entry hv
  have hx := B.exec
  have hb := B.bytes
  have hr := B.returns
  have hts := atoms_spec (ws := wsL_look) B.pre
  have hown : s.vm.findClass RL = some m.cls := findClass_of_methodNamed B.named
  have hlocks := B.notSynchronized
  have htab := vx_table (x := yL_look) B (hts _ List.mem_cons_self)
  have hl := lv_entry ([.ref (ad 0), .int (nI q), .int (nI 3), .ref (ad 99)]) (n := 5) (Nat.le_of_ble_eq_true rfl)
  rw [lg_entry_eq]
  generalize (lg_sl ([.ref (ad 0), .int (nI q), .int (nI 3), .ref (ad 99)]) ++ List.replicate (5 - (lg_sl ([.ref (ad 0), .int (nI q), .int (nI 3), .ref (ad 99)])).length) Slot.unset).toArray = ls at hl ⊢
  have hl : lv_has ls 5 [(0, .ref (ad 0)), (1, .int (nI q)), (2, .int (nI 3)), (3, .ref (ad 99))] := hl
  have h16 := hL.1
  obtain ⟨mcn, ed, h17, hed⟩ := id hL.2.1
  refine lv_aload_n hx hb dL_look_0 rfl (lv_at hl 3 rfl) ?_
  refine lv_iconst (v := nI 0) hx hb dL_look_1 (by decide) ?_
  refine lv_aload_n hx hb dL_look_2 rfl (lv_at hl 0 rfl) ?_
  refine lv_iload_n hx hb dL_look_3 rfl (lv_at hl 1 rfl) ?_
  refine lv_iload_n hx hb dL_look_4 rfl (lv_at hl 2 rfl) ?_
  refine k_Ni (va_runV (As := [.int (nI q), .int (nI 3)]) (rest := [.int (nI 0), .ref (ad 99)]) ⟨hx, hb, hml, hown, hts⟩ (c_X9_look_3 l G z ad M (n := n) (kd := kd) (fm := fm) (to := to) (sz := sz) (rl := rl) (en := en) (qa := qa) (qs := qs) (fw := fw) (q := q) hL h0 hw hq) (cwV 2 hts (gV (lwg_of t_859 rfl) (lwg_of t_860 rfl) (lwg_of t_861 rfl) (lwg_of t_1 rfl) (lwg_of t_862 rfl)) rfl rfl rfl (by decide +kernel) ⟨Nat.le_of_ble_eq_true rfl, Nat.le_of_ble_eq_true rfl⟩) (hI.preV h0 rfl) rfl rfl hl.1 rfl (lv_room (Nat.le_of_ble_eq_true rfl)) dL_look_5 ⟨Nat.le_of_ble_eq_true rfl, Nat.le_of_ble_eq_true rfl⟩) hI (fun r_1 M_3 H_4 locs_5 hp_2 hI => ?_)
  obtain ⟨hr_6, hF_7⟩ := hp_2
  have hm_8 : M_3 0 = some (cStore ad qa qs fw) := by rw [hF_7 0 ]; exact h0
  have hm_9 : M_3 99 = some (aJ G 1 of) := by rw [hF_7 99 ]; exact h99
  have hm_10 : M_3 16 = some (cLines ad ) := by rw [hF_7 16 ]; exact h16
  have hm_11 : M_3 17 = some (cList ad mcn ed n) := by rw [hF_7 17 ]; exact h17
  have hL_12 : LSm G ad M_3 n kd fm to sz rl en := hL.keep (fun j hj => hF_7 j )
  rw [hr_6]
  refine lv_i2l (v := (nI (sz q)).toInt64) hx hb dL_look_8 rfl ?_
  refine h_last (i := 0) (x := (nI (sz q)).toInt64) hx hb hI hm_9 (by omega) (by decide) dL_look_9 (fun M_13 H_14 locs_15 eM_16 hI => ?_)
  have hm_17 : M_13 0 = some (cStore ad qa qs fw) := by rw [eM_16, va_up_ne _ _ (by decide)]; exact hm_8
  have hm_18 : M_13 99 = some (aJ G 1 (vp_updL of 0 ((nI (sz q)).toInt64))) := by rw [eM_16]; exact va_up_self _ _ _
  have hm_19 : M_13 16 = some (cLines ad ) := by rw [eM_16, va_up_ne _ _ (by decide)]; exact hm_10
  have hm_20 : M_13 17 = some (cList ad mcn ed n) := by rw [eM_16, va_up_ne _ _ (by decide)]; exact hm_11
  have hL_21 : LSm G ad M_13 n kd fm to sz rl en := hL_12.keep (fun j hj => by rw [eM_16, va_up_ne _ _ (by omega)])
  have hF_22 : ∀ j : Nat, j ≠ 99 → M_13 j = M j := fun j q0 => by rw [eM_16, va_up_ne _ _ q0]; exact hF_7 j 
  refine lv_goto (tgt := 21) hx hb dL_look_10 (by decide) ?_
  refine lv_iconst (v := nI 0) hx hb dL_look_21 (by decide) ?_
  exact e_Ni hx hb hr rfl hlocks hI ⟨rfl, hm_18, (fun j q0 => hF_22 j q0)⟩ dL_look_22

/-- L_look -/
abbrev rm_c_L_look_4 : Room := { frames := 5, cells := 0, slots := 0, locals := 110 }
set_option maxHeartbeats 4000000 in
set_option maxRecDepth 100000 in
theorem c_L_look_4 (l : Launch) (hst : l.stackTraces = false) (G : GG) (z : Nat) (ad : Nat → Nat) (M : Mem) {n : Nat} {kd : Nat → Nat} {fm : Nat → Int32} {to : Nat → Int32} {sz : Nat → Nat} {rl : Nat → Nat → Nat} {en : Nat → Nat → Nat} {qa : Nat} {qs : Nat} {fw : Int32} {q : Nat} {of : Nat → Int64} (hL : LSm G ad M n kd fm to sz rl en) (h0 : M 0 = some (cStore ad qa qs fw)) (h99 : M 99 = some (aJ G 1 of)) (hw : LSw n kd sz rl en) (hq : q < n) : Met l yL_look wsL_look rm_c_L_look_4 (Pr G z ad M [.ref (ad 0), .int (nI q), .int (nI 4), .ref (ad 99)]) (Ni G z ad (fun (r : Int32) (M' : Mem) => r = nI 0 ∧ M' 99 = some (aJ G 1 (vp_updL of 0 ((nI (cntB (hgO sz en q) n)).toInt64))) ∧ (∀ j : Nat, j ≠ 99 → M' j = M j))) 0 0 (fr z) := by
  refine mt_ofWH (cc := cL_look) (maxL := 5) (ret := (some .int)) (hh := [(0, 10, 13, 13), (0, 10, 17, 50)]) (by decide) rfl ?_
  intro p e s m args below meth c s₁ B hml hv
  obtain ⟨rfl, hv⟩ := hv
  have hI := Iv.entry hv
  have hx := B.exec
  have hb := B.bytes
  have hr := B.returns
  have hts := atoms_spec (ws := wsL_look) B.pre
  have hown : s.vm.findClass RL = some m.cls := findClass_of_methodNamed B.named
  have hlocks := B.notSynchronized
  have htab := vx_table (x := yL_look) B (hts _ List.mem_cons_self)
  have hl := lv_entry ([.ref (ad 0), .int (nI q), .int (nI 4), .ref (ad 99)]) (n := 5) (Nat.le_of_ble_eq_true rfl)
  rw [lg_entry_eq]
  generalize (lg_sl ([.ref (ad 0), .int (nI q), .int (nI 4), .ref (ad 99)]) ++ List.replicate (5 - (lg_sl ([.ref (ad 0), .int (nI q), .int (nI 4), .ref (ad 99)])).length) Slot.unset).toArray = ls at hl ⊢
  have hl : lv_has ls 5 [(0, .ref (ad 0)), (1, .int (nI q)), (2, .int (nI 4)), (3, .ref (ad 99))] := hl
  have h16 := hL.1
  obtain ⟨mcn, ed, h17, hed⟩ := id hL.2.1
  refine lv_aload_n hx hb dL_look_0 rfl (lv_at hl 3 rfl) ?_
  refine lv_iconst (v := nI 0) hx hb dL_look_1 (by decide) ?_
  refine lv_aload_n hx hb dL_look_2 rfl (lv_at hl 0 rfl) ?_
  refine lv_iload_n hx hb dL_look_3 rfl (lv_at hl 1 rfl) ?_
  refine lv_iload_n hx hb dL_look_4 rfl (lv_at hl 2 rfl) ?_
  refine k_Ni (va_runV (As := [.int (nI q), .int (nI 4)]) (rest := [.int (nI 0), .ref (ad 99)]) ⟨hx, hb, hml, hown, hts⟩ (c_X9_look_4 l G z ad M (n := n) (kd := kd) (fm := fm) (to := to) (sz := sz) (rl := rl) (en := en) (qa := qa) (qs := qs) (fw := fw) (q := q) hL h0 hw hq) (cwV 2 hts (gV (lwg_of t_859 rfl) (lwg_of t_860 rfl) (lwg_of t_861 rfl) (lwg_of t_1 rfl) (lwg_of t_862 rfl)) rfl rfl rfl (by decide +kernel) ⟨Nat.le_of_ble_eq_true rfl, Nat.le_of_ble_eq_true rfl⟩) (hI.preV h0 rfl) rfl rfl hl.1 rfl (lv_room (Nat.le_of_ble_eq_true rfl)) dL_look_5 ⟨Nat.le_of_ble_eq_true rfl, Nat.le_of_ble_eq_true rfl⟩) hI (fun r_1 M_3 H_4 locs_5 hp_2 hI => ?_)
  obtain ⟨hr_6, hF_7⟩ := hp_2
  have hm_8 : M_3 0 = some (cStore ad qa qs fw) := by rw [hF_7 0 ]; exact h0
  have hm_9 : M_3 99 = some (aJ G 1 of) := by rw [hF_7 99 ]; exact h99
  have hm_10 : M_3 16 = some (cLines ad ) := by rw [hF_7 16 ]; exact h16
  have hm_11 : M_3 17 = some (cList ad mcn ed n) := by rw [hF_7 17 ]; exact h17
  have hL_12 : LSm G ad M_3 n kd fm to sz rl en := hL.keep (fun j hj => hF_7 j )
  rw [hr_6]
  refine lv_i2l (v := (nI (cntB (hgO sz en q) n)).toInt64) hx hb dL_look_8 rfl ?_
  refine h_last (i := 0) (x := (nI (cntB (hgO sz en q) n)).toInt64) hx hb hI hm_9 (by omega) (by decide) dL_look_9 (fun M_13 H_14 locs_15 eM_16 hI => ?_)
  have hm_17 : M_13 0 = some (cStore ad qa qs fw) := by rw [eM_16, va_up_ne _ _ (by decide)]; exact hm_8
  have hm_18 : M_13 99 = some (aJ G 1 (vp_updL of 0 ((nI (cntB (hgO sz en q) n)).toInt64))) := by rw [eM_16]; exact va_up_self _ _ _
  have hm_19 : M_13 16 = some (cLines ad ) := by rw [eM_16, va_up_ne _ _ (by decide)]; exact hm_10
  have hm_20 : M_13 17 = some (cList ad mcn ed n) := by rw [eM_16, va_up_ne _ _ (by decide)]; exact hm_11
  have hL_21 : LSm G ad M_13 n kd fm to sz rl en := hL_12.keep (fun j hj => by rw [eM_16, va_up_ne _ _ (by omega)])
  have hF_22 : ∀ j : Nat, j ≠ 99 → M_13 j = M j := fun j q0 => by rw [eM_16, va_up_ne _ _ q0]; exact hF_7 j 
  refine lv_goto (tgt := 21) hx hb dL_look_10 (by decide) ?_
  refine lv_iconst (v := nI 0) hx hb dL_look_21 (by decide) ?_
  exact e_Ni hx hb hr rfl hlocks hI ⟨rfl, hm_18, (fun j q0 => hF_22 j q0)⟩ dL_look_22

/-- L_look -/
abbrev rm_c_L_look_a : Room := { frames := 8, cells := 1, slots := 6, locals := 134 }
set_option maxHeartbeats 4000000 in
set_option maxRecDepth 100000 in
theorem c_L_look_a (l : Launch) (hst : l.stackTraces = false) (G : GG) (z : Nat) (ad : Nat → Nat) (M : Mem) {n : Nat} {kd : Nat → Nat} {fm : Nat → Int32} {to : Nat → Int32} {sz : Nat → Nat} {rl : Nat → Nat → Nat} {en : Nat → Nat → Nat} {qa : Nat} {qs : Nat} {fw : Int32} {x0 : Int32} {x1 : Int32} (hL : LSm G ad M n kd fm to sz rl en) (h0 : M 0 = some (cStore ad qa qs fw)) (hbad : x0 < 0 ∨ ¬ x0 < nI n) : Met l yL_look wsL_look rm_c_L_look_a (Pr G z ad M [.ref (ad 0), .int x0, .int x1, .ref (ad 99)]) (Ni G z ad (fun (r : Int32) (M' : Mem) => r = nI 1 ∧ (∀ j : Nat,  M' j = M j))) 1 6 (fr z) := by
  refine mt_ofWH (cc := cL_look) (maxL := 5) (ret := (some .int)) (hh := [(0, 10, 13, 13), (0, 10, 17, 50)]) (by decide) rfl ?_
  intro p e s m args below meth c s₁ B hml hv
  obtain ⟨rfl, hv⟩ := hv
  have hI := Iv.entry hv
  have hx := B.exec
  have hb := B.bytes
  have hr := B.returns
  have hts := atoms_spec (ws := wsL_look) B.pre
  have hown : s.vm.findClass RL = some m.cls := findClass_of_methodNamed B.named
  have hlocks := B.notSynchronized
  have htab := vx_table (x := yL_look) B (hts _ List.mem_cons_self)
  have cl_13 := hts _ (List.mem_cons_of_mem _ (lwg_of t_471 rfl))
  have hl := lv_entry ([.ref (ad 0), .int x0, .int x1, .ref (ad 99)]) (n := 5) (Nat.le_of_ble_eq_true rfl)
  rw [lg_entry_eq]
  generalize (lg_sl ([.ref (ad 0), .int x0, .int x1, .ref (ad 99)]) ++ List.replicate (5 - (lg_sl ([.ref (ad 0), .int x0, .int x1, .ref (ad 99)])).length) Slot.unset).toArray = ls at hl ⊢
  have hl : lv_has ls 5 [(0, .ref (ad 0)), (1, .int x0), (2, .int x1), (3, .ref (ad 99))] := hl
  have h16 := hL.1
  obtain ⟨mcn, ed, h17, hed⟩ := id hL.2.1
  refine lv_aload_n hx hb dL_look_0 rfl (lv_at hl 3 rfl) ?_
  refine lv_iconst (v := nI 0) hx hb dL_look_1 (by decide) ?_
  refine lv_aload_n hx hb dL_look_2 rfl (lv_at hl 0 rfl) ?_
  refine lv_iload_n hx hb dL_look_3 rfl (lv_at hl 1 rfl) ?_
  refine lv_iload_n hx hb dL_look_4 rfl (lv_at hl 2 rfl) ?_
  refine k_T (vx_runV (As := [.int x0, .int x1]) (rest := [.int (nI 0), .ref (ad 99)]) ⟨hx, hb, hml, hown, hts⟩ (c_X9_look_a l hst G z ad M (n := n) (kd := kd) (fm := fm) (to := to) (sz := sz) (rl := rl) (en := en) (qa := qa) (qs := qs) (fw := fw) (x0 := x0) (x1 := x1) hL h0 hbad) (cwV 2 hts (gV (lwg_of t_859 rfl) (lwg_of t_860 rfl) (lwg_of t_861 rfl) (lwg_of t_1 rfl) (lwg_of t_862 rfl)) rfl rfl rfl (by decide +kernel) ⟨Nat.le_of_ble_eq_true rfl, Nat.le_of_ble_eq_true rfl⟩) (hI.preV h0 rfl) rfl rfl hl.1 rfl (lv_room (Nat.le_of_ble_eq_true rfl)) dL_look_5 ⟨Nat.le_of_ble_eq_true rfl, Nat.le_of_ble_eq_true rfl⟩) hI (fun ce q9 H_3 locs_4 hI hce hcv hcl => ?_)
  refine vx_catch (name := "java/lang/IndexOutOfBoundsException") hown [] ⟨0, 10, 13, 13⟩ [⟨0, 10, 17, 50⟩] (htab.trans rfl) (fun z9 h9 => nomatch h9) (by decide) (by decide) cl_13 (va_Nw.use rfl (hI.1.2.1.2.2 ("java/lang/IndexOutOfBoundsException", "java/lang/IndexOutOfBoundsException") (List.mem_of_getElem? (i := 1) rfl))) hce hcv hcl ?_
  refine lv_astore (lv' := [(4, .ref q9), (0, .ref (ad 0)), (1, .int x0), (2, .int x1), (3, .ref (ad 99))]) hx hb dL_look_13 hl (by decide) rfl (fun ls hl => ?_)
  refine lv_iconst (v := nI 1) hx hb dL_look_15 (by decide) ?_
  exact e_Ni hx hb hr rfl hlocks hI ⟨rfl, (fun j  => rfl)⟩ dL_look_16

/-- L_look -/
abbrev rm_c_L_look_b : Room := { frames := 7, cells := 1, slots := 6, locals := 113 }
set_option maxHeartbeats 4000000 in
set_option maxRecDepth 100000 in
theorem c_L_look_b (l : Launch) (hst : l.stackTraces = false) (G : GG) (z : Nat) (ad : Nat → Nat) (M : Mem) {n : Nat} {kd : Nat → Nat} {fm : Nat → Int32} {to : Nat → Int32} {sz : Nat → Nat} {rl : Nat → Nat → Nat} {en : Nat → Nat → Nat} {qa : Nat} {qs : Nat} {fw : Int32} {q : Nat} {x1 : Int32} (hL : LSm G ad M n kd fm to sz rl en) (h0 : M 0 = some (cStore ad qa qs fw)) (hw : LSw n kd sz rl en) (hq : q < n) (hout : x1.toInt < 0 ∨ 4 < x1.toInt) : Met l yL_look wsL_look rm_c_L_look_b (Pr G z ad M [.ref (ad 0), .int (nI q), .int x1, .ref (ad 99)]) (Ni G z ad (fun (r : Int32) (M' : Mem) => r = nI 2 ∧ (∀ j : Nat,  M' j = M j))) 1 6 (fr z) := by
  refine mt_ofWH (cc := cL_look) (maxL := 5) (ret := (some .int)) (hh := [(0, 10, 13, 13), (0, 10, 17, 50)]) (by decide) rfl ?_
  intro p e s m args below meth c s₁ B hml hv
  obtain ⟨rfl, hv⟩ := hv
  have hI := Iv.entry hv
  have hx := B.exec
  have hb := B.bytes
  have hr := B.returns
  have hts := atoms_spec (ws := wsL_look) B.pre
  have hown : s.vm.findClass RL = some m.cls := findClass_of_methodNamed B.named
  have hlocks := B.notSynchronized
  have htab := vx_table (x := yL_look) B (hts _ List.mem_cons_self)
  have cl_13 := hts _ (List.mem_cons_of_mem _ (lwg_of t_471 rfl))
  have cl_50 := hts _ (List.mem_cons_of_mem _ (lwg_of t_858 rfl))
  have hl := lv_entry ([.ref (ad 0), .int (nI q), .int x1, .ref (ad 99)]) (n := 5) (Nat.le_of_ble_eq_true rfl)
  rw [lg_entry_eq]
  generalize (lg_sl ([.ref (ad 0), .int (nI q), .int x1, .ref (ad 99)]) ++ List.replicate (5 - (lg_sl ([.ref (ad 0), .int (nI q), .int x1, .ref (ad 99)])).length) Slot.unset).toArray = ls at hl ⊢
  have hl : lv_has ls 5 [(0, .ref (ad 0)), (1, .int (nI q)), (2, .int x1), (3, .ref (ad 99))] := hl
  have h16 := hL.1
  obtain ⟨mcn, ed, h17, hed⟩ := id hL.2.1
  refine lv_aload_n hx hb dL_look_0 rfl (lv_at hl 3 rfl) ?_
  refine lv_iconst (v := nI 0) hx hb dL_look_1 (by decide) ?_
  refine lv_aload_n hx hb dL_look_2 rfl (lv_at hl 0 rfl) ?_
  refine lv_iload_n hx hb dL_look_3 rfl (lv_at hl 1 rfl) ?_
  refine lv_iload_n hx hb dL_look_4 rfl (lv_at hl 2 rfl) ?_
  refine k_T (vx_runV (As := [.int (nI q), .int x1]) (rest := [.int (nI 0), .ref (ad 99)]) ⟨hx, hb, hml, hown, hts⟩ (c_X9_look_b l hst G z ad M (n := n) (kd := kd) (fm := fm) (to := to) (sz := sz) (rl := rl) (en := en) (qa := qa) (qs := qs) (fw := fw) (q := q) (x1 := x1) hL h0 hw hq hout) (cwV 2 hts (gV (lwg_of t_859 rfl) (lwg_of t_860 rfl) (lwg_of t_861 rfl) (lwg_of t_1 rfl) (lwg_of t_862 rfl)) rfl rfl rfl (by decide +kernel) ⟨Nat.le_of_ble_eq_true rfl, Nat.le_of_ble_eq_true rfl⟩) (hI.preV h0 rfl) rfl rfl hl.1 rfl (lv_room (Nat.le_of_ble_eq_true rfl)) dL_look_5 ⟨Nat.le_of_ble_eq_true rfl, Nat.le_of_ble_eq_true rfl⟩) hI (fun ce q9 H_3 locs_4 hI hce hcv hcl => ?_)
  refine vx_catch (name := "java/util/NoSuchElementException") hown [⟨0, 10, 13, 13⟩] ⟨0, 10, 17, 50⟩ [] (htab.trans rfl) (fun z9 h9 => by rcases List.mem_singleton.mp h9 with rfl; exact Or.inr ⟨by decide, "java/lang/IndexOutOfBoundsException", cl_13, (iv_ex hI).2.1 ("java/util/NoSuchElementException", "java/lang/IndexOutOfBoundsException") (List.mem_of_getElem? (i := 3) rfl)⟩) (by decide) (by decide) cl_50 (va_Nw.use rfl (hI.1.2.1.2.2 ("java/util/NoSuchElementException", "java/util/NoSuchElementException") (List.mem_of_getElem? (i := 4) rfl))) hce hcv hcl ?_
  refine lv_astore (lv' := [(4, .ref q9), (0, .ref (ad 0)), (1, .int (nI q)), (2, .int x1), (3, .ref (ad 99))]) hx hb dL_look_17 hl (by decide) rfl (fun ls hl => ?_)
  refine lv_iconst (v := nI 2) hx hb dL_look_19 (by decide) ?_
  exact e_Ni hx hb hr rfl hlocks hI ⟨rfl, (fun j  => rfl)⟩ dL_look_20

/-- L_ended -/
abbrev rm_c_L_ended_0 : Room := { frames := 5, cells := 0, slots := 0, locals := 109 }
set_option maxHeartbeats 4000000 in
set_option maxRecDepth 100000 in
theorem c_L_ended_0 (l : Launch) (hst : l.stackTraces = false) (G : GG) (z : Nat) (ad : Nat → Nat) (M : Mem) {n : Nat} {kd : Nat → Nat} {fm : Nat → Int32} {to : Nat → Int32} {sz : Nat → Nat} {rl : Nat → Nat → Nat} {en : Nat → Nat → Nat} {qa : Nat} {qs : Nat} {fw : Int32} {q : Nat} {i : Nat} {of : Nat → Int64} (hL : LSm G ad M n kd fm to sz rl en) (h0 : M 0 = some (cStore ad qa qs fw)) (h99 : M 99 = some (aJ G 1 of)) (hw : LSw n kd sz rl en) (hq : q < n) (hi : i < sz q) : Met l yL_ended wsL_ended rm_c_L_ended_0 (Pr G z ad M [.ref (ad 0), .int (nI q), .int (nI i), .int (nI 0), .ref (ad 99)]) (Ni G z ad (fun (r : Int32) (M' : Mem) => r = nI 0 ∧ M' 99 = some (aJ G 1 (vp_updL of 0 ((nI (rl q i)).toInt64))) ∧ (∀ j : Nat, j ≠ 99 → M' j = M j))) 0 0 (fr z) := by
  refine mt_ofWH (cc := cL_ended) (maxL := 6) (ret := (some .int)) (hh := [(0, 12, 15, 13), (0, 12, 19, 50)]) (by decide) rfl ?_
  intro p e s m args below meth c s₁ B hml hv
  obtain ⟨rfl, hv⟩ := hv
  have hI := Iv.entry hv
  have hx := B.exec
  have hb := B.bytes
  have hr := B.returns
  have hts := atoms_spec (ws := wsL_ended) B.pre
  have hown : s.vm.findClass RL = some m.cls := findClass_of_methodNamed B.named
  have hlocks := B.notSynchronized
  have htab := vx_table (x := yL_ended) B (hts _ List.mem_cons_self)
  have hl := lv_entry ([.ref (ad 0), .int (nI q), .int (nI i), .int (nI 0), .ref (ad 99)]) (n := 6) (Nat.le_of_ble_eq_true rfl)
  rw [lg_entry_eq]
  generalize (lg_sl ([.ref (ad 0), .int (nI q), .int (nI i), .int (nI 0), .ref (ad 99)]) ++ List.replicate (6 - (lg_sl ([.ref (ad 0), .int (nI q), .int (nI i), .int (nI 0), .ref (ad 99)])).length) Slot.unset).toArray = ls at hl ⊢
  have hl : lv_has ls 6 [(0, .ref (ad 0)), (1, .int (nI q)), (2, .int (nI i)), (3, .int (nI 0)), (4, .ref (ad 99))] := hl
  have h16 := hL.1
  obtain ⟨mcn, ed, h17, hed⟩ := id hL.2.1
  refine lv_aload hx hb dL_ended_0 (lv_at hl 4 rfl) ?_
  refine lv_iconst (v := nI 0) hx hb dL_ended_2 (by decide) ?_
  refine lv_aload_n hx hb dL_ended_3 rfl (lv_at hl 0 rfl) ?_
  refine lv_iload_n hx hb dL_ended_4 rfl (lv_at hl 1 rfl) ?_
  refine lv_iload_n hx hb dL_ended_5 rfl (lv_at hl 2 rfl) ?_
  refine lv_iload_n hx hb dL_ended_6 rfl (lv_at hl 3 rfl) ?_
  refine k_Ni (va_runV (As := [.int (nI q), .int (nI i), .int (nI 0)]) (rest := [.int (nI 0), .ref (ad 99)]) ⟨hx, hb, hml, hown, hts⟩ (c_X9_ended_0 l G z ad M (n := n) (kd := kd) (fm := fm) (to := to) (sz := sz) (rl := rl) (en := en) (qa := qa) (qs := qs) (fw := fw) (q := q) (i := i) hL h0 hw hq hi) (cwV 3 hts (gV (lwg_of t_891 rfl) (lwg_of t_892 rfl) (lwg_of t_893 rfl) (lwg_of t_1 rfl) (lwg_of t_894 rfl)) rfl rfl rfl (by decide +kernel) ⟨Nat.le_of_ble_eq_true rfl, Nat.le_of_ble_eq_true rfl⟩) (hI.preV h0 rfl) rfl rfl hl.1 rfl (lv_room (Nat.le_of_ble_eq_true rfl)) dL_ended_7 ⟨Nat.le_of_ble_eq_true rfl, Nat.le_of_ble_eq_true rfl⟩) hI (fun r_1 M_3 H_4 locs_5 hp_2 hI => ?_)
  obtain ⟨hr_6, hF_7⟩ := hp_2
  have hm_8 : M_3 0 = some (cStore ad qa qs fw) := by rw [hF_7 0 ]; exact h0
  have hm_9 : M_3 99 = some (aJ G 1 of) := by rw [hF_7 99 ]; exact h99
  have hm_10 : M_3 16 = some (cLines ad ) := by rw [hF_7 16 ]; exact h16
  have hm_11 : M_3 17 = some (cList ad mcn ed n) := by rw [hF_7 17 ]; exact h17
  have hL_12 : LSm G ad M_3 n kd fm to sz rl en := hL.keep (fun j hj => hF_7 j )
  rw [hr_6]
  refine lv_i2l (v := (nI (rl q i)).toInt64) hx hb dL_ended_10 rfl ?_
  refine h_last (i := 0) (x := (nI (rl q i)).toInt64) hx hb hI hm_9 (by omega) (by decide) dL_ended_11 (fun M_13 H_14 locs_15 eM_16 hI => ?_)
  have hm_17 : M_13 0 = some (cStore ad qa qs fw) := by rw [eM_16, va_up_ne _ _ (by decide)]; exact hm_8
  have hm_18 : M_13 99 = some (aJ G 1 (vp_updL of 0 ((nI (rl q i)).toInt64))) := by rw [eM_16]; exact va_up_self _ _ _
  have hm_19 : M_13 16 = some (cLines ad ) := by rw [eM_16, va_up_ne _ _ (by decide)]; exact hm_10
  have hm_20 : M_13 17 = some (cList ad mcn ed n) := by rw [eM_16, va_up_ne _ _ (by decide)]; exact hm_11
  have hL_21 : LSm G ad M_13 n kd fm to sz rl en := hL_12.keep (fun j hj => by rw [eM_16, va_up_ne _ _ (by omega)])
  have hF_22 : ∀ j : Nat, j ≠ 99 → M_13 j = M j := fun j q0 => by rw [eM_16, va_up_ne _ _ q0]; exact hF_7 j 
  refine lv_goto (tgt := 23) hx hb dL_ended_12 (by decide) ?_
  refine lv_iconst (v := nI 0) hx hb dL_ended_23 (by decide) ?_
  exact e_Ni hx hb hr rfl hlocks hI ⟨rfl, hm_18, (fun j q0 => hF_22 j q0)⟩ dL_ended_24

/-- L_ended -/
abbrev rm_c_L_ended_1 : Room := { frames := 5, cells := 0, slots := 0, locals := 109 }
set_option maxHeartbeats 4000000 in
set_option maxRecDepth 100000 in
theorem c_L_ended_1 (l : Launch) (hst : l.stackTraces = false) (G : GG) (z : Nat) (ad : Nat → Nat) (M : Mem) {n : Nat} {kd : Nat → Nat} {fm : Nat → Int32} {to : Nat → Int32} {sz : Nat → Nat} {rl : Nat → Nat → Nat} {en : Nat → Nat → Nat} {qa : Nat} {qs : Nat} {fw : Int32} {q : Nat} {i : Nat} {of : Nat → Int64} (hL : LSm G ad M n kd fm to sz rl en) (h0 : M 0 = some (cStore ad qa qs fw)) (h99 : M 99 = some (aJ G 1 of)) (hw : LSw n kd sz rl en) (hq : q < n) (hi : i < sz q) : Met l yL_ended wsL_ended rm_c_L_ended_1 (Pr G z ad M [.ref (ad 0), .int (nI q), .int (nI i), .int (nI 1), .ref (ad 99)]) (Ni G z ad (fun (r : Int32) (M' : Mem) => r = nI 0 ∧ M' 99 = some (aJ G 1 (vp_updL of 0 ((oI (thE (en q) i)).toInt64))) ∧ (∀ j : Nat, j ≠ 99 → M' j = M j))) 0 0 (fr z) := by
  refine mt_ofWH (cc := cL_ended) (maxL := 6) (ret := (some .int)) (hh := [(0, 12, 15, 13), (0, 12, 19, 50)]) (by decide) rfl ?_
  intro p e s m args below meth c s₁ B hml hv
  obtain ⟨rfl, hv⟩ := hv
  have hI := Iv.entry hv
  have hx := B.exec
  have hb := B.bytes
  have hr := B.returns
  have hts := atoms_spec (ws := wsL_ended) B.pre
  have hown : s.vm.findClass RL = some m.cls := findClass_of_methodNamed B.named
  have hlocks := B.notSynchronized
  have htab := vx_table (x := yL_ended) B (hts _ List.mem_cons_self)
  have hl := lv_entry ([.ref (ad 0), .int (nI q), .int (nI i), .int (nI 1), .ref (ad 99)]) (n := 6) (Nat.le_of_ble_eq_true rfl)
  rw [lg_entry_eq]
  generalize (lg_sl ([.ref (ad 0), .int (nI q), .int (nI i), .int (nI 1), .ref (ad 99)]) ++ List.replicate (6 - (lg_sl ([.ref (ad 0), .int (nI q), .int (nI i), .int (nI 1), .ref (ad 99)])).length) Slot.unset).toArray = ls at hl ⊢
  have hl : lv_has ls 6 [(0, .ref (ad 0)), (1, .int (nI q)), (2, .int (nI i)), (3, .int (nI 1)), (4, .ref (ad 99))] := hl
  have h16 := hL.1
  obtain ⟨mcn, ed, h17, hed⟩ := id hL.2.1
  refine lv_aload hx hb dL_ended_0 (lv_at hl 4 rfl) ?_
  refine lv_iconst (v := nI 0) hx hb dL_ended_2 (by decide) ?_
  refine lv_aload_n hx hb dL_ended_3 rfl (lv_at hl 0 rfl) ?_
  refine lv_iload_n hx hb dL_ended_4 rfl (lv_at hl 1 rfl) ?_
  refine lv_iload_n hx hb dL_ended_5 rfl (lv_at hl 2 rfl) ?_
  refine lv_iload_n hx hb dL_ended_6 rfl (lv_at hl 3 rfl) ?_
  refine k_Ni (va_runV (As := [.int (nI q), .int (nI i), .int (nI 1)]) (rest := [.int (nI 0), .ref (ad 99)]) ⟨hx, hb, hml, hown, hts⟩ (c_X9_ended_1 l G z ad M (n := n) (kd := kd) (fm := fm) (to := to) (sz := sz) (rl := rl) (en := en) (qa := qa) (qs := qs) (fw := fw) (q := q) (i := i) hL h0 hw hq hi) (cwV 3 hts (gV (lwg_of t_891 rfl) (lwg_of t_892 rfl) (lwg_of t_893 rfl) (lwg_of t_1 rfl) (lwg_of t_894 rfl)) rfl rfl rfl (by decide +kernel) ⟨Nat.le_of_ble_eq_true rfl, Nat.le_of_ble_eq_true rfl⟩) (hI.preV h0 rfl) rfl rfl hl.1 rfl (lv_room (Nat.le_of_ble_eq_true rfl)) dL_ended_7 ⟨Nat.le_of_ble_eq_true rfl, Nat.le_of_ble_eq_true rfl⟩) hI (fun r_1 M_3 H_4 locs_5 hp_2 hI => ?_)
  obtain ⟨hr_6, hF_7⟩ := hp_2
  have hm_8 : M_3 0 = some (cStore ad qa qs fw) := by rw [hF_7 0 ]; exact h0
  have hm_9 : M_3 99 = some (aJ G 1 of) := by rw [hF_7 99 ]; exact h99
  have hm_10 : M_3 16 = some (cLines ad ) := by rw [hF_7 16 ]; exact h16
  have hm_11 : M_3 17 = some (cList ad mcn ed n) := by rw [hF_7 17 ]; exact h17
  have hL_12 : LSm G ad M_3 n kd fm to sz rl en := hL.keep (fun j hj => hF_7 j )
  rw [hr_6]
  refine lv_i2l (v := (oI (thE (en q) i)).toInt64) hx hb dL_ended_10 rfl ?_
  refine h_last (i := 0) (x := (oI (thE (en q) i)).toInt64) hx hb hI hm_9 (by omega) (by decide) dL_ended_11 (fun M_13 H_14 locs_15 eM_16 hI => ?_)
  have hm_17 : M_13 0 = some (cStore ad qa qs fw) := by rw [eM_16, va_up_ne _ _ (by decide)]; exact hm_8
  have hm_18 : M_13 99 = some (aJ G 1 (vp_updL of 0 ((oI (thE (en q) i)).toInt64))) := by rw [eM_16]; exact va_up_self _ _ _
  have hm_19 : M_13 16 = some (cLines ad ) := by rw [eM_16, va_up_ne _ _ (by decide)]; exact hm_10
  have hm_20 : M_13 17 = some (cList ad mcn ed n) := by rw [eM_16, va_up_ne _ _ (by decide)]; exact hm_11
  have hL_21 : LSm G ad M_13 n kd fm to sz rl en := hL_12.keep (fun j hj => by rw [eM_16, va_up_ne _ _ (by omega)])
  have hF_22 : ∀ j : Nat, j ≠ 99 → M_13 j = M j := fun j q0 => by rw [eM_16, va_up_ne _ _ q0]; exact hF_7 j 
  refine lv_goto (tgt := 23) hx hb dL_ended_12 (by decide) ?_
  refine lv_iconst (v := nI 0) hx hb dL_ended_23 (by decide) ?_
  exact e_Ni hx hb hr rfl hlocks hI ⟨rfl, hm_18, (fun j q0 => hF_22 j q0)⟩ dL_ended_24

/-- L_ended -/
abbrev rm_c_L_ended_2 : Room := { frames := 5, cells := 0, slots := 0, locals := 109 }
set_option maxHeartbeats 4000000 in
set_option maxRecDepth 100000 in
theorem c_L_ended_2 (l : Launch) (hst : l.stackTraces = false) (G : GG) (z : Nat) (ad : Nat → Nat) (M : Mem) {n : Nat} {kd : Nat → Nat} {fm : Nat → Int32} {to : Nat → Int32} {sz : Nat → Nat} {rl : Nat → Nat → Nat} {en : Nat → Nat → Nat} {qa : Nat} {qs : Nat} {fw : Int32} {q : Nat} {i : Nat} {of : Nat → Int64} (hL : LSm G ad M n kd fm to sz rl en) (h0 : M 0 = some (cStore ad qa qs fw)) (h99 : M 99 = some (aJ G 1 of)) (hw : LSw n kd sz rl en) (hq : q < n) (hi : i < sz q) : Met l yL_ended wsL_ended rm_c_L_ended_2 (Pr G z ad M [.ref (ad 0), .int (nI q), .int (nI i), .int (nI 2), .ref (ad 99)]) (Ni G z ad (fun (r : Int32) (M' : Mem) => r = nI 0 ∧ M' 99 = some (aJ G 1 (vp_updL of 0 ((oI (olE (en q) i)).toInt64))) ∧ (∀ j : Nat, j ≠ 99 → M' j = M j))) 0 0 (fr z) := by
  refine mt_ofWH (cc := cL_ended) (maxL := 6) (ret := (some .int)) (hh := [(0, 12, 15, 13), (0, 12, 19, 50)]) (by decide) rfl ?_
  intro p e s m args below meth c s₁ B hml hv
  obtain ⟨rfl, hv⟩ := hv
  have hI := Iv.entry hv
  have hx := B.exec
  have hb := B.bytes
  have hr := B.returns
  have hts := atoms_spec (ws := wsL_ended) B.pre
  have hown : s.vm.findClass RL = some m.cls := findClass_of_methodNamed B.named
  have hlocks := B.notSynchronized
  have htab := vx_table (x := yL_ended) B (hts _ List.mem_cons_self)
  have hl := lv_entry ([.ref (ad 0), .int (nI q), .int (nI i), .int (nI 2), .ref (ad 99)]) (n := 6) (Nat.le_of_ble_eq_true rfl)
  rw [lg_entry_eq]
  generalize (lg_sl ([.ref (ad 0), .int (nI q), .int (nI i), .int (nI 2), .ref (ad 99)]) ++ List.replicate (6 - (lg_sl ([.ref (ad 0), .int (nI q), .int (nI i), .int (nI 2), .ref (ad 99)])).length) Slot.unset).toArray = ls at hl ⊢
  have hl : lv_has ls 6 [(0, .ref (ad 0)), (1, .int (nI q)), (2, .int (nI i)), (3, .int (nI 2)), (4, .ref (ad 99))] := hl
  have h16 := hL.1
  obtain ⟨mcn, ed, h17, hed⟩ := id hL.2.1
  refine lv_aload hx hb dL_ended_0 (lv_at hl 4 rfl) ?_
  refine lv_iconst (v := nI 0) hx hb dL_ended_2 (by decide) ?_
  refine lv_aload_n hx hb dL_ended_3 rfl (lv_at hl 0 rfl) ?_
  refine lv_iload_n hx hb dL_ended_4 rfl (lv_at hl 1 rfl) ?_
  refine lv_iload_n hx hb dL_ended_5 rfl (lv_at hl 2 rfl) ?_
  refine lv_iload_n hx hb dL_ended_6 rfl (lv_at hl 3 rfl) ?_
  refine k_Ni (va_runV (As := [.int (nI q), .int (nI i), .int (nI 2)]) (rest := [.int (nI 0), .ref (ad 99)]) ⟨hx, hb, hml, hown, hts⟩ (c_X9_ended_2 l G z ad M (n := n) (kd := kd) (fm := fm) (to := to) (sz := sz) (rl := rl) (en := en) (qa := qa) (qs := qs) (fw := fw) (q := q) (i := i) hL h0 hw hq hi) (cwV 3 hts (gV (lwg_of t_891 rfl) (lwg_of t_892 rfl) (lwg_of t_893 rfl) (lwg_of t_1 rfl) (lwg_of t_894 rfl)) rfl rfl rfl (by decide +kernel) ⟨Nat.le_of_ble_eq_true rfl, Nat.le_of_ble_eq_true rfl⟩) (hI.preV h0 rfl) rfl rfl hl.1 rfl (lv_room (Nat.le_of_ble_eq_true rfl)) dL_ended_7 ⟨Nat.le_of_ble_eq_true rfl, Nat.le_of_ble_eq_true rfl⟩) hI (fun r_1 M_3 H_4 locs_5 hp_2 hI => ?_)
  obtain ⟨hr_6, hF_7⟩ := hp_2
  have hm_8 : M_3 0 = some (cStore ad qa qs fw) := by rw [hF_7 0 ]; exact h0
  have hm_9 : M_3 99 = some (aJ G 1 of) := by rw [hF_7 99 ]; exact h99
  have hm_10 : M_3 16 = some (cLines ad ) := by rw [hF_7 16 ]; exact h16
  have hm_11 : M_3 17 = some (cList ad mcn ed n) := by rw [hF_7 17 ]; exact h17
  have hL_12 : LSm G ad M_3 n kd fm to sz rl en := hL.keep (fun j hj => hF_7 j )
  rw [hr_6]
  refine lv_i2l (v := (oI (olE (en q) i)).toInt64) hx hb dL_ended_10 rfl ?_
  refine h_last (i := 0) (x := (oI (olE (en q) i)).toInt64) hx hb hI hm_9 (by omega) (by decide) dL_ended_11 (fun M_13 H_14 locs_15 eM_16 hI => ?_)
  have hm_17 : M_13 0 = some (cStore ad qa qs fw) := by rw [eM_16, va_up_ne _ _ (by decide)]; exact hm_8
  have hm_18 : M_13 99 = some (aJ G 1 (vp_updL of 0 ((oI (olE (en q) i)).toInt64))) := by rw [eM_16]; exact va_up_self _ _ _
  have hm_19 : M_13 16 = some (cLines ad ) := by rw [eM_16, va_up_ne _ _ (by decide)]; exact hm_10
  have hm_20 : M_13 17 = some (cList ad mcn ed n) := by rw [eM_16, va_up_ne _ _ (by decide)]; exact hm_11
  have hL_21 : LSm G ad M_13 n kd fm to sz rl en := hL_12.keep (fun j hj => by rw [eM_16, va_up_ne _ _ (by omega)])
  have hF_22 : ∀ j : Nat, j ≠ 99 → M_13 j = M j := fun j q0 => by rw [eM_16, va_up_ne _ _ q0]; exact hF_7 j 
  refine lv_goto (tgt := 23) hx hb dL_ended_12 (by decide) ?_
  refine lv_iconst (v := nI 0) hx hb dL_ended_23 (by decide) ?_
  exact e_Ni hx hb hr rfl hlocks hI ⟨rfl, hm_18, (fun j q0 => hF_22 j q0)⟩ dL_ended_24

/-- L_ended -/
abbrev rm_c_L_ended_a : Room := { frames := 8, cells := 1, slots := 6, locals := 135 }
set_option maxHeartbeats 4000000 in
set_option maxRecDepth 100000 in
theorem c_L_ended_a (l : Launch) (hst : l.stackTraces = false) (G : GG) (z : Nat) (ad : Nat → Nat) (M : Mem) {n : Nat} {kd : Nat → Nat} {fm : Nat → Int32} {to : Nat → Int32} {sz : Nat → Nat} {rl : Nat → Nat → Nat} {en : Nat → Nat → Nat} {qa : Nat} {qs : Nat} {fw : Int32} {x0 : Int32} {x1 : Int32} {x2 : Int32} (hL : LSm G ad M n kd fm to sz rl en) (h0 : M 0 = some (cStore ad qa qs fw)) (hbad : x0 < 0 ∨ ¬ x0 < nI n) : Met l yL_ended wsL_ended rm_c_L_ended_a (Pr G z ad M [.ref (ad 0), .int x0, .int x1, .int x2, .ref (ad 99)]) (Ni G z ad (fun (r : Int32) (M' : Mem) => r = nI 1 ∧ (∀ j : Nat,  M' j = M j))) 1 6 (fr z) := by
  refine mt_ofWH (cc := cL_ended) (maxL := 6) (ret := (some .int)) (hh := [(0, 12, 15, 13), (0, 12, 19, 50)]) (by decide) rfl ?_
  intro p e s m args below meth c s₁ B hml hv
  obtain ⟨rfl, hv⟩ := hv
  have hI := Iv.entry hv
  have hx := B.exec
  have hb := B.bytes
  have hr := B.returns
  have hts := atoms_spec (ws := wsL_ended) B.pre
  have hown : s.vm.findClass RL = some m.cls := findClass_of_methodNamed B.named
  have hlocks := B.notSynchronized
  have htab := vx_table (x := yL_ended) B (hts _ List.mem_cons_self)
  have cl_13 := hts _ (List.mem_cons_of_mem _ (lwg_of t_471 rfl))
  have hl := lv_entry ([.ref (ad 0), .int x0, .int x1, .int x2, .ref (ad 99)]) (n := 6) (Nat.le_of_ble_eq_true rfl)
  rw [lg_entry_eq]
  generalize (lg_sl ([.ref (ad 0), .int x0, .int x1, .int x2, .ref (ad 99)]) ++ List.replicate (6 - (lg_sl ([.ref (ad 0), .int x0, .int x1, .int x2, .ref (ad 99)])).length) Slot.unset).toArray = ls at hl ⊢
  have hl : lv_has ls 6 [(0, .ref (ad 0)), (1, .int x0), (2, .int x1), (3, .int x2), (4, .ref (ad 99))] := hl
  have h16 := hL.1
  obtain ⟨mcn, ed, h17, hed⟩ := id hL.2.1
  refine lv_aload hx hb dL_ended_0 (lv_at hl 4 rfl) ?_
  refine lv_iconst (v := nI 0) hx hb dL_ended_2 (by decide) ?_
  refine lv_aload_n hx hb dL_ended_3 rfl (lv_at hl 0 rfl) ?_
  refine lv_iload_n hx hb dL_ended_4 rfl (lv_at hl 1 rfl) ?_
  refine lv_iload_n hx hb dL_ended_5 rfl (lv_at hl 2 rfl) ?_
  refine lv_iload_n hx hb dL_ended_6 rfl (lv_at hl 3 rfl) ?_
  refine k_T (vx_runV (As := [.int x0, .int x1, .int x2]) (rest := [.int (nI 0), .ref (ad 99)]) ⟨hx, hb, hml, hown, hts⟩ (c_X9_ended_a l hst G z ad M (n := n) (kd := kd) (fm := fm) (to := to) (sz := sz) (rl := rl) (en := en) (qa := qa) (qs := qs) (fw := fw) (x0 := x0) (x1 := x1) (x2 := x2) hL h0 hbad) (cwV 3 hts (gV (lwg_of t_891 rfl) (lwg_of t_892 rfl) (lwg_of t_893 rfl) (lwg_of t_1 rfl) (lwg_of t_894 rfl)) rfl rfl rfl (by decide +kernel) ⟨Nat.le_of_ble_eq_true rfl, Nat.le_of_ble_eq_true rfl⟩) (hI.preV h0 rfl) rfl rfl hl.1 rfl (lv_room (Nat.le_of_ble_eq_true rfl)) dL_ended_7 ⟨Nat.le_of_ble_eq_true rfl, Nat.le_of_ble_eq_true rfl⟩) hI (fun ce q9 H_3 locs_4 hI hce hcv hcl => ?_)
  refine vx_catch (name := "java/lang/IndexOutOfBoundsException") hown [] ⟨0, 12, 15, 13⟩ [⟨0, 12, 19, 50⟩] (htab.trans rfl) (fun z9 h9 => nomatch h9) (by decide) (by decide) cl_13 (va_Nw.use rfl (hI.1.2.1.2.2 ("java/lang/IndexOutOfBoundsException", "java/lang/IndexOutOfBoundsException") (List.mem_of_getElem? (i := 1) rfl))) hce hcv hcl ?_
  refine lv_astore (lv' := [(5, .ref q9), (0, .ref (ad 0)), (1, .int x0), (2, .int x1), (3, .int x2), (4, .ref (ad 99))]) hx hb dL_ended_15 hl (by decide) rfl (fun ls hl => ?_)
  refine lv_iconst (v := nI 1) hx hb dL_ended_17 (by decide) ?_
  exact e_Ni hx hb hr rfl hlocks hI ⟨rfl, (fun j  => rfl)⟩ dL_ended_18

/-- L_ended -/
abbrev rm_c_L_ended_b : Room := { frames := 7, cells := 1, slots := 6, locals := 114 }
set_option maxHeartbeats 4000000 in
set_option maxRecDepth 100000 in
theorem c_L_ended_b (l : Launch) (hst : l.stackTraces = false) (G : GG) (z : Nat) (ad : Nat → Nat) (M : Mem) {n : Nat} {kd : Nat → Nat} {fm : Nat → Int32} {to : Nat → Int32} {sz : Nat → Nat} {rl : Nat → Nat → Nat} {en : Nat → Nat → Nat} {qa : Nat} {qs : Nat} {fw : Int32} {q : Nat} {x1 : Int32} {x2 : Int32} (hL : LSm G ad M n kd fm to sz rl en) (h0 : M 0 = some (cStore ad qa qs fw)) (hw : LSw n kd sz rl en) (hq : q < n) (hbad : x1 < 0 ∨ ¬ x1 < nI (sz q)) : Met l yL_ended wsL_ended rm_c_L_ended_b (Pr G z ad M [.ref (ad 0), .int (nI q), .int x1, .int x2, .ref (ad 99)]) (Ni G z ad (fun (r : Int32) (M' : Mem) => r = nI 2 ∧ (∀ j : Nat,  M' j = M j))) 1 6 (fr z) := by
  refine mt_ofWH (cc := cL_ended) (maxL := 6) (ret := (some .int)) (hh := [(0, 12, 15, 13), (0, 12, 19, 50)]) (by decide) rfl ?_
  intro p e s m args below meth c s₁ B hml hv
  obtain ⟨rfl, hv⟩ := hv
  have hI := Iv.entry hv
  have hx := B.exec
  have hb := B.bytes
  have hr := B.returns
  have hts := atoms_spec (ws := wsL_ended) B.pre
  have hown : s.vm.findClass RL = some m.cls := findClass_of_methodNamed B.named
  have hlocks := B.notSynchronized
  have htab := vx_table (x := yL_ended) B (hts _ List.mem_cons_self)
  have cl_13 := hts _ (List.mem_cons_of_mem _ (lwg_of t_471 rfl))
  have cl_50 := hts _ (List.mem_cons_of_mem _ (lwg_of t_858 rfl))
  have hl := lv_entry ([.ref (ad 0), .int (nI q), .int x1, .int x2, .ref (ad 99)]) (n := 6) (Nat.le_of_ble_eq_true rfl)
  rw [lg_entry_eq]
  generalize (lg_sl ([.ref (ad 0), .int (nI q), .int x1, .int x2, .ref (ad 99)]) ++ List.replicate (6 - (lg_sl ([.ref (ad 0), .int (nI q), .int x1, .int x2, .ref (ad 99)])).length) Slot.unset).toArray = ls at hl ⊢
  have hl : lv_has ls 6 [(0, .ref (ad 0)), (1, .int (nI q)), (2, .int x1), (3, .int x2), (4, .ref (ad 99))] := hl
  have h16 := hL.1
  obtain ⟨mcn, ed, h17, hed⟩ := id hL.2.1
  refine lv_aload hx hb dL_ended_0 (lv_at hl 4 rfl) ?_
  refine lv_iconst (v := nI 0) hx hb dL_ended_2 (by decide) ?_
  refine lv_aload_n hx hb dL_ended_3 rfl (lv_at hl 0 rfl) ?_
  refine lv_iload_n hx hb dL_ended_4 rfl (lv_at hl 1 rfl) ?_
  refine lv_iload_n hx hb dL_ended_5 rfl (lv_at hl 2 rfl) ?_
  refine lv_iload_n hx hb dL_ended_6 rfl (lv_at hl 3 rfl) ?_
  refine k_T (vx_runV (As := [.int (nI q), .int x1, .int x2]) (rest := [.int (nI 0), .ref (ad 99)]) ⟨hx, hb, hml, hown, hts⟩ (c_X9_ended_b l hst G z ad M (n := n) (kd := kd) (fm := fm) (to := to) (sz := sz) (rl := rl) (en := en) (qa := qa) (qs := qs) (fw := fw) (q := q) (x1 := x1) (x2 := x2) hL h0 hw hq hbad) (cwV 3 hts (gV (lwg_of t_891 rfl) (lwg_of t_892 rfl) (lwg_of t_893 rfl) (lwg_of t_1 rfl) (lwg_of t_894 rfl)) rfl rfl rfl (by decide +kernel) ⟨Nat.le_of_ble_eq_true rfl, Nat.le_of_ble_eq_true rfl⟩) (hI.preV h0 rfl) rfl rfl hl.1 rfl (lv_room (Nat.le_of_ble_eq_true rfl)) dL_ended_7 ⟨Nat.le_of_ble_eq_true rfl, Nat.le_of_ble_eq_true rfl⟩) hI (fun ce q9 H_3 locs_4 hI hce hcv hcl => ?_)
  refine vx_catch (name := "java/util/NoSuchElementException") hown [⟨0, 12, 15, 13⟩] ⟨0, 12, 19, 50⟩ [] (htab.trans rfl) (fun z9 h9 => by rcases List.mem_singleton.mp h9 with rfl; exact Or.inr ⟨by decide, "java/lang/IndexOutOfBoundsException", cl_13, (iv_ex hI).2.1 ("java/util/NoSuchElementException", "java/lang/IndexOutOfBoundsException") (List.mem_of_getElem? (i := 3) rfl)⟩) (by decide) (by decide) cl_50 (va_Nw.use rfl (hI.1.2.1.2.2 ("java/util/NoSuchElementException", "java/util/NoSuchElementException") (List.mem_of_getElem? (i := 4) rfl))) hce hcv hcl ?_
  refine lv_astore (lv' := [(5, .ref q9), (0, .ref (ad 0)), (1, .int (nI q)), (2, .int x1), (3, .int x2), (4, .ref (ad 99))]) hx hb dL_ended_19 hl (by decide) rfl (fun ls hl => ?_)
  refine lv_iconst (v := nI 2) hx hb dL_ended_21 (by decide) ?_
  exact e_Ni hx hb hr rfl hlocks hI ⟨rfl, (fun j  => rfl)⟩ dL_ended_22

/-- L_ended -/
abbrev rm_c_L_ended_c : Room := { frames := 7, cells := 1, slots := 6, locals := 114 }
set_option maxHeartbeats 4000000 in
set_option maxRecDepth 100000 in
theorem c_L_ended_c (l : Launch) (hst : l.stackTraces = false) (G : GG) (z : Nat) (ad : Nat → Nat) (M : Mem) {n : Nat} {kd : Nat → Nat} {fm : Nat → Int32} {to : Nat → Int32} {sz : Nat → Nat} {rl : Nat → Nat → Nat} {en : Nat → Nat → Nat} {qa : Nat} {qs : Nat} {fw : Int32} {q : Nat} {i : Nat} {x2 : Int32} (hL : LSm G ad M n kd fm to sz rl en) (h0 : M 0 = some (cStore ad qa qs fw)) (hw : LSw n kd sz rl en) (hq : q < n) (hi : i < sz q) (hout : x2.toInt < 0 ∨ 2 < x2.toInt) : Met l yL_ended wsL_ended rm_c_L_ended_c (Pr G z ad M [.ref (ad 0), .int (nI q), .int (nI i), .int x2, .ref (ad 99)]) (Ni G z ad (fun (r : Int32) (M' : Mem) => r = nI 2 ∧ (∀ j : Nat,  M' j = M j))) 1 6 (fr z) := by
  refine mt_ofWH (cc := cL_ended) (maxL := 6) (ret := (some .int)) (hh := [(0, 12, 15, 13), (0, 12, 19, 50)]) (by decide) rfl ?_
  intro p e s m args below meth c s₁ B hml hv
  obtain ⟨rfl, hv⟩ := hv
  have hI := Iv.entry hv
  have hx := B.exec
  have hb := B.bytes
  have hr := B.returns
  have hts := atoms_spec (ws := wsL_ended) B.pre
  have hown : s.vm.findClass RL = some m.cls := findClass_of_methodNamed B.named
  have hlocks := B.notSynchronized
  have htab := vx_table (x := yL_ended) B (hts _ List.mem_cons_self)
  have cl_13 := hts _ (List.mem_cons_of_mem _ (lwg_of t_471 rfl))
  have cl_50 := hts _ (List.mem_cons_of_mem _ (lwg_of t_858 rfl))
  have hl := lv_entry ([.ref (ad 0), .int (nI q), .int (nI i), .int x2, .ref (ad 99)]) (n := 6) (Nat.le_of_ble_eq_true rfl)
  rw [lg_entry_eq]
  generalize (lg_sl ([.ref (ad 0), .int (nI q), .int (nI i), .int x2, .ref (ad 99)]) ++ List.replicate (6 - (lg_sl ([.ref (ad 0), .int (nI q), .int (nI i), .int x2, .ref (ad 99)])).length) Slot.unset).toArray = ls at hl ⊢
  have hl : lv_has ls 6 [(0, .ref (ad 0)), (1, .int (nI q)), (2, .int (nI i)), (3, .int x2), (4, .ref (ad 99))] := hl
  have h16 := hL.1
  obtain ⟨mcn, ed, h17, hed⟩ := id hL.2.1
  refine lv_aload hx hb dL_ended_0 (lv_at hl 4 rfl) ?_
  refine lv_iconst (v := nI 0) hx hb dL_ended_2 (by decide) ?_
  refine lv_aload_n hx hb dL_ended_3 rfl (lv_at hl 0 rfl) ?_
  refine lv_iload_n hx hb dL_ended_4 rfl (lv_at hl 1 rfl) ?_
  refine lv_iload_n hx hb dL_ended_5 rfl (lv_at hl 2 rfl) ?_
  refine lv_iload_n hx hb dL_ended_6 rfl (lv_at hl 3 rfl) ?_
  refine k_T (vx_runV (As := [.int (nI q), .int (nI i), .int x2]) (rest := [.int (nI 0), .ref (ad 99)]) ⟨hx, hb, hml, hown, hts⟩ (c_X9_ended_c l hst G z ad M (n := n) (kd := kd) (fm := fm) (to := to) (sz := sz) (rl := rl) (en := en) (qa := qa) (qs := qs) (fw := fw) (q := q) (i := i) (x2 := x2) hL h0 hw hq hi hout) (cwV 3 hts (gV (lwg_of t_891 rfl) (lwg_of t_892 rfl) (lwg_of t_893 rfl) (lwg_of t_1 rfl) (lwg_of t_894 rfl)) rfl rfl rfl (by decide +kernel) ⟨Nat.le_of_ble_eq_true rfl, Nat.le_of_ble_eq_true rfl⟩) (hI.preV h0 rfl) rfl rfl hl.1 rfl (lv_room (Nat.le_of_ble_eq_true rfl)) dL_ended_7 ⟨Nat.le_of_ble_eq_true rfl, Nat.le_of_ble_eq_true rfl⟩) hI (fun ce q9 H_3 locs_4 hI hce hcv hcl => ?_)
  refine vx_catch (name := "java/util/NoSuchElementException") hown [⟨0, 12, 15, 13⟩] ⟨0, 12, 19, 50⟩ [] (htab.trans rfl) (fun z9 h9 => by rcases List.mem_singleton.mp h9 with rfl; exact Or.inr ⟨by decide, "java/lang/IndexOutOfBoundsException", cl_13, (iv_ex hI).2.1 ("java/util/NoSuchElementException", "java/lang/IndexOutOfBoundsException") (List.mem_of_getElem? (i := 3) rfl)⟩) (by decide) (by decide) cl_50 (va_Nw.use rfl (hI.1.2.1.2.2 ("java/util/NoSuchElementException", "java/util/NoSuchElementException") (List.mem_of_getElem? (i := 4) rfl))) hce hcv hcl ?_
  refine lv_astore (lv' := [(5, .ref q9), (0, .ref (ad 0)), (1, .int (nI q)), (2, .int (nI i)), (3, .int x2), (4, .ref (ad 99))]) hx hb dL_ended_19 hl (by decide) rfl (fun ls hl => ?_)
  refine lv_iconst (v := nI 2) hx hb dL_ended_21 (by decide) ?_
  exact e_Ni hx hb hr rfl hlocks hI ⟨rfl, (fun j  => rfl)⟩ dL_ended_22

/-- L_question -/
abbrev rm_c_L_question : Room := { frames := 8, cells := 0, slots := 0, locals := 178 }
set_option maxHeartbeats 4000000 in
set_option maxRecDepth 100000 in
theorem c_L_question (l : Launch) (hst : l.stackTraces = false) (G : GG) (z : Nat) (ad : Nat → Nat) (M : Mem) {qa : Nat} {qs : Nat} {fw : Int32} {ra : Nat} {rb : Nat} {rt : Int32} {rv : Int32} {len : Nat} {tb : Nat → Nat} {sq : Nat} {su : Nat} {kn : Nat → Nat} {nt : Nat → Bool} {pn : Nat → Nat} {av : Nat → Nat} {ro : Nat → Nat} {te : Nat → Nat} {A : List Atom} {u : Nat} {of : Nat → Int64} (h0 : M 0 = some (cStore ad qa qs fw)) (h22 : M 22 = some (cReader ad ra rb rt rv)) (h1 : M 1 = some (cTape ad len)) (h2 : M 2 = some (aI G 400 (nF tb))) (hk : M qs = some (cQuestion ad qs sq su)) (q1 : M (qs + 1) = some (aI G 6 (nF kn))) (q2 : M (qs + 2) = some (aZ G 6 (bF nt))) (q3 : M (qs + 3) = some (aI G 6 (nF pn))) (q4 : M (qs + 4) = some (aI G 6 (nF av))) (q5 : M (qs + 5) = some (aI G 24 (nF ro))) (q6 : M (qs + 6) = some (aI G 24 (nF te))) (h99 : M 99 = some (aJ G 1 of)) (hl4 : len ≤ 400) (htb : ∀ j, j < len → tb j < 256) (hqs : 30 ≤ qs ∧ qs ≤ 44) (hok : rdAll tb len 6 0 0 0 = .inr (A, u)) : Met l yL_question wsL_question rm_c_L_question (Pr G z ad M [.ref (ad 0), .ref (ad 99)]) (Ni G z ad (fun (r : Int32) (M' : Mem) => ∃ a2 : Nat, ∃ g2 : Nat, ∃ t2 : Int32, ∃ v2 : Int32, ∃ kn2 : Nat → Nat, ∃ nt2 : Nat → Bool, ∃ pn2 : Nat → Nat, ∃ av2 : Nat → Nat, ∃ ro2 : Nat → Nat, ∃ te2 : Nat → Nat, r = nI 0 ∧ M' 0 = some (cStore ad qs qa (-1)) ∧ M' 1 = some (cTape ad 0) ∧ M' 22 = some (cReader ad a2 g2 t2 v2) ∧ M' qs = some (cQuestion ad qs A.length u) ∧ M' (qs + 1) = some (aI G 6 (nF kn2)) ∧ M' (qs + 2) = some (aZ G 6 (bF nt2)) ∧ M' (qs + 3) = some (aI G 6 (nF pn2)) ∧ M' (qs + 4) = some (aI G 6 (nF av2)) ∧ M' (qs + 5) = some (aI G 24 (nF ro2)) ∧ M' (qs + 6) = some (aI G 24 (nF te2)) ∧ M' 99 = some (aJ G 1 (vp_updL of 0 ((nI A.length).toInt64))) ∧ (∀ j : Nat, j ≠ 0 → j ≠ 1 → j ≠ 22 → j ≠ qs → j ≠ (qs + 1) → j ≠ (qs + 2) → j ≠ (qs + 3) → j ≠ (qs + 4) → j ≠ (qs + 5) → j ≠ (qs + 6) → j ≠ 99 → M' j = M j) ∧ (u < 8 ∧ (0 < A.length ∧ A.length ≤ 6) ∧ qR kn2 nt2 pn2 av2 ro2 te2 A))) 0 0 (fr z) := by
  refine mt_ofWH (cc := cL_question) (maxL := 3) (ret := (some .int)) (hh := [(0, 8, 11, 15)]) (by decide) rfl ?_
  intro p e s m args below meth c s₁ B hml hv
  obtain ⟨rfl, hv⟩ := hv
  have hI := Iv.entry hv
  have hx := B.exec
  have hb := B.bytes
  have hr := B.returns
  have hts := atoms_spec (ws := wsL_question) B.pre
  have hown : s.vm.findClass RL = some m.cls := findClass_of_methodNamed B.named
  have hlocks := B.notSynchronized
  have htab := vx_table (x := yL_question) B (hts _ List.mem_cons_self)
  have hl := lv_entry ([.ref (ad 0), .ref (ad 99)]) (n := 3) (Nat.le_of_ble_eq_true rfl)
  rw [lg_entry_eq]
  generalize (lg_sl ([.ref (ad 0), .ref (ad 99)]) ++ List.replicate (3 - (lg_sl ([.ref (ad 0), .ref (ad 99)])).length) Slot.unset).toArray = ls at hl ⊢
  have hl : lv_has ls 3 [(0, .ref (ad 0)), (1, .ref (ad 99))] := hl
  refine lv_aload_n hx hb dL_question_0 rfl (lv_at hl 1 rfl) ?_
  refine lv_iconst (v := nI 0) hx hb dL_question_1 (by decide) ?_
  refine lv_aload_n hx hb dL_question_2 rfl (lv_at hl 0 rfl) ?_
  refine k_Ni (va_runV (As := []) (rest := [.int (nI 0), .ref (ad 99)]) ⟨hx, hb, hml, hown, hts⟩ (c_X9_question l G z ad M (qa := qa) (qs := qs) (fw := fw) (ra := ra) (rb := rb) (rt := rt) (rv := rv) (len := len) (tb := tb) (sq := sq) (su := su) (kn := kn) (nt := nt) (pn := pn) (av := av) (ro := ro) (te := te) (A := A) (u := u) h0 h22 h1 h2 hk q1 q2 q3 q4 q5 q6 hl4 htb hqs hok) (cwV 0 hts (gV (lwg_of t_903 rfl) (lwg_of t_904 rfl) (lwg_of t_905 rfl) (lwg_of t_1 rfl) (lwg_of t_906 rfl)) rfl rfl rfl (by decide +kernel) ⟨Nat.le_of_ble_eq_true rfl, Nat.le_of_ble_eq_true rfl⟩) (hI.preV h0 rfl) rfl rfl hl.1 rfl (lv_room (Nat.le_of_ble_eq_true rfl)) dL_question_3 ⟨Nat.le_of_ble_eq_true rfl, Nat.le_of_ble_eq_true rfl⟩) hI (fun r_1 M_3 H_4 locs_5 hp_2 hI => ?_)
  obtain ⟨a2_19, g2_20, t2_21, v2_22, kn2_23, nt2_24, pn2_25, av2_26, ro2_27, te2_28, hr_6, hm_7, hm_8, hm_9, hm_10, hm_11, hm_12, hm_13, hm_14, hm_15, hm_16, hF_17, hP_18⟩ := hp_2
  have hm_29 : M_3 2 = some (aI G 400 (nF tb)) := by rw [hF_17 2 (by omega) (by omega) (by omega) (by omega) (by omega) (by omega) (by omega) (by omega) (by omega) (by omega)]; exact h2
  have hm_30 : M_3 99 = some (aJ G 1 of) := by rw [hF_17 99 (by omega) (by omega) (by omega) (by omega) (by omega) (by omega) (by omega) (by omega) (by omega) (by omega)]; exact h99
  have hF_31 : ∀ j : Nat, j ≠ 0 → j ≠ 1 → j ≠ 22 → j ≠ qs → j ≠ (qs + 1) → j ≠ (qs + 2) → j ≠ (qs + 3) → j ≠ (qs + 4) → j ≠ (qs + 5) → j ≠ (qs + 6) → M_3 j = M j := fun j q0 q1 q2 q3 q4 q5 q6 q7 q8 q9 => (hF_17 j q0 q1 q2 q3 q4 q5 q6 q7 q8 q9)
  rw [hr_6]
  refine lv_i2l (v := (nI A.length).toInt64) hx hb dL_question_6 rfl ?_
  refine h_last (i := 0) (x := (nI A.length).toInt64) hx hb hI hm_30 (by omega) (by decide) dL_question_7 (fun M_32 H_33 locs_34 eM_35 hI => ?_)
  have hm_36 : M_32 0 = some (cStore ad qs qa (-1)) := by rw [eM_35, va_up_ne _ _ (by decide)]; exact hm_7
  have hm_37 : M_32 22 = some (cReader ad a2_19 g2_20 t2_21 v2_22) := by rw [eM_35, va_up_ne _ _ (by decide)]; exact hm_9
  have hm_38 : M_32 1 = some (cTape ad 0) := by rw [eM_35, va_up_ne _ _ (by decide)]; exact hm_8
  have hm_39 : M_32 2 = some (aI G 400 (nF tb)) := by rw [eM_35, va_up_ne _ _ (by decide)]; exact hm_29
  have hm_40 : M_32 qs = some (cQuestion ad qs A.length u) := by rw [eM_35, va_up_ne _ _ (by omega)]; exact hm_10
  have hm_41 : M_32 (qs + 1) = some (aI G 6 (nF kn2_23)) := by rw [eM_35, va_up_ne _ _ (by omega)]; exact hm_11
  have hm_42 : M_32 (qs + 2) = some (aZ G 6 (bF nt2_24)) := by rw [eM_35, va_up_ne _ _ (by omega)]; exact hm_12
  have hm_43 : M_32 (qs + 3) = some (aI G 6 (nF pn2_25)) := by rw [eM_35, va_up_ne _ _ (by omega)]; exact hm_13
  have hm_44 : M_32 (qs + 4) = some (aI G 6 (nF av2_26)) := by rw [eM_35, va_up_ne _ _ (by omega)]; exact hm_14
  have hm_45 : M_32 (qs + 5) = some (aI G 24 (nF ro2_27)) := by rw [eM_35, va_up_ne _ _ (by omega)]; exact hm_15
  have hm_46 : M_32 (qs + 6) = some (aI G 24 (nF te2_28)) := by rw [eM_35, va_up_ne _ _ (by omega)]; exact hm_16
  have hm_47 : M_32 99 = some (aJ G 1 (vp_updL of 0 ((nI A.length).toInt64))) := by rw [eM_35]; exact va_up_self _ _ _
  have hF_48 : ∀ j : Nat, j ≠ 0 → j ≠ 1 → j ≠ 22 → j ≠ qs → j ≠ (qs + 1) → j ≠ (qs + 2) → j ≠ (qs + 3) → j ≠ (qs + 4) → j ≠ (qs + 5) → j ≠ (qs + 6) → j ≠ 99 → M_32 j = M j := fun j q0 q1 q2 q3 q4 q5 q6 q7 q8 q9 q10 => by rw [eM_35, va_up_ne _ _ q10]; exact hF_31 j q0 q1 q2 q3 q4 q5 q6 q7 q8 q9
  refine lv_goto (tgt := 14) hx hb dL_question_8 (by decide) ?_
  refine lv_iconst (v := nI 0) hx hb dL_question_14 (by decide) ?_
  exact e_Ni hx hb hr rfl hlocks hI ⟨a2_19, g2_20, t2_21, v2_22, kn2_23, nt2_24, pn2_25, av2_26, ro2_27, te2_28, rfl, hm_36, hm_38, hm_37, hm_40, hm_41, hm_42, hm_43, hm_44, hm_45, hm_46, hm_47, (fun j q0 q1 q2 q3 q4 q5 q6 q7 q8 q9 q10 => hF_48 j q0 q1 q2 q3 q4 q5 q6 q7 q8 q9 q10), hP_18⟩ dL_question_15

/-- L_question -/
abbrev rm_c_L_question_T : Room := { frames := 8, cells := 1, slots := 6, locals := 178 }
set_option maxHeartbeats 4000000 in
set_option maxRecDepth 100000 in
theorem c_L_question_T (l : Launch) (hst : l.stackTraces = false) (G : GG) (z : Nat) (ad : Nat → Nat) (M : Mem) {qa : Nat} {qs : Nat} {fw : Int32} {ra : Nat} {rb : Nat} {rt : Int32} {rv : Int32} {len : Nat} {tb : Nat → Nat} {sq : Nat} {su : Nat} {kn : Nat → Nat} {nt : Nat → Bool} {pn : Nat → Nat} {av : Nat → Nat} {ro : Nat → Nat} {te : Nat → Nat} {g : Nat} (h0 : M 0 = some (cStore ad qa qs fw)) (h22 : M 22 = some (cReader ad ra rb rt rv)) (h1 : M 1 = some (cTape ad len)) (h2 : M 2 = some (aI G 400 (nF tb))) (hk : M qs = some (cQuestion ad qs sq su)) (q1 : M (qs + 1) = some (aI G 6 (nF kn))) (q2 : M (qs + 2) = some (aZ G 6 (bF nt))) (q3 : M (qs + 3) = some (aI G 6 (nF pn))) (q4 : M (qs + 4) = some (aI G 6 (nF av))) (q5 : M (qs + 5) = some (aI G 24 (nF ro))) (q6 : M (qs + 6) = some (aI G 24 (nF te))) (hl4 : len ≤ 400) (htb : ∀ j, j < len → tb j < 256) (hqs : 30 ≤ qs ∧ qs ≤ 44) (hno : rdAll tb len 6 0 0 0 = .inl g) : Met l yL_question wsL_question rm_c_L_question_T (Pr G z ad M [.ref (ad 0), .ref (ad 99)]) (Ni G z ad (fun (r : Int32) (M' : Mem) => ∃ a2 : Nat, ∃ g2 : Nat, ∃ t2 : Int32, ∃ v2 : Int32, ∃ q2 : Nat, ∃ u2 : Nat, ∃ kn2 : Nat → Nat, ∃ nt2 : Nat → Bool, ∃ pn2 : Nat → Nat, ∃ av2 : Nat → Nat, ∃ ro2 : Nat → Nat, ∃ te2 : Nat → Nat, r = nI 1 ∧ M' 0 = some (cStore ad qa qs (nI g)) ∧ M' 1 = some (cTape ad 0) ∧ M' 22 = some (cReader ad a2 g2 t2 v2) ∧ M' qs = some (cQuestion ad qs q2 u2) ∧ M' (qs + 1) = some (aI G 6 (nF kn2)) ∧ M' (qs + 2) = some (aZ G 6 (bF nt2)) ∧ M' (qs + 3) = some (aI G 6 (nF pn2)) ∧ M' (qs + 4) = some (aI G 6 (nF av2)) ∧ M' (qs + 5) = some (aI G 24 (nF ro2)) ∧ M' (qs + 6) = some (aI G 24 (nF te2)) ∧ (∀ j : Nat, j ≠ 0 → j ≠ 1 → j ≠ 22 → j ≠ qs → j ≠ (qs + 1) → j ≠ (qs + 2) → j ≠ (qs + 3) → j ≠ (qs + 4) → j ≠ (qs + 5) → j ≠ (qs + 6) → M' j = M j))) 1 6 (fr z) := by
  refine mt_ofWH (cc := cL_question) (maxL := 3) (ret := (some .int)) (hh := [(0, 8, 11, 15)]) (by decide) rfl ?_
  intro p e s m args below meth c s₁ B hml hv
  obtain ⟨rfl, hv⟩ := hv
  have hI := Iv.entry hv
  have hx := B.exec
  have hb := B.bytes
  have hr := B.returns
  have hts := atoms_spec (ws := wsL_question) B.pre
  have hown : s.vm.findClass RL = some m.cls := findClass_of_methodNamed B.named
  have hlocks := B.notSynchronized
  have htab := vx_table (x := yL_question) B (hts _ List.mem_cons_self)
  have cl_15 := hts _ (List.mem_cons_of_mem _ (lwg_of t_472 rfl))
  have hl := lv_entry ([.ref (ad 0), .ref (ad 99)]) (n := 3) (Nat.le_of_ble_eq_true rfl)
  rw [lg_entry_eq]
  generalize (lg_sl ([.ref (ad 0), .ref (ad 99)]) ++ List.replicate (3 - (lg_sl ([.ref (ad 0), .ref (ad 99)])).length) Slot.unset).toArray = ls at hl ⊢
  have hl : lv_has ls 3 [(0, .ref (ad 0)), (1, .ref (ad 99))] := hl
  refine lv_aload_n hx hb dL_question_0 rfl (lv_at hl 1 rfl) ?_
  refine lv_iconst (v := nI 0) hx hb dL_question_1 (by decide) ?_
  refine lv_aload_n hx hb dL_question_2 rfl (lv_at hl 0 rfl) ?_
  refine k_Q (vx_runV (As := []) (rest := [.int (nI 0), .ref (ad 99)]) ⟨hx, hb, hml, hown, hts⟩ (c_X9_question_T l hst G z ad M (qa := qa) (qs := qs) (fw := fw) (ra := ra) (rb := rb) (rt := rt) (rv := rv) (len := len) (tb := tb) (sq := sq) (su := su) (kn := kn) (nt := nt) (pn := pn) (av := av) (ro := ro) (te := te) (g := g) h0 h22 h1 h2 hk q1 q2 q3 q4 q5 q6 hl4 htb hqs hno) (cwV 0 hts (gV (lwg_of t_903 rfl) (lwg_of t_904 rfl) (lwg_of t_905 rfl) (lwg_of t_1 rfl) (lwg_of t_906 rfl)) rfl rfl rfl (by decide +kernel) ⟨Nat.le_of_ble_eq_true rfl, Nat.le_of_ble_eq_true rfl⟩) (hI.preV h0 rfl) rfl rfl hl.1 rfl (lv_room (Nat.le_of_ble_eq_true rfl)) dL_question_3 ⟨Nat.le_of_ble_eq_true rfl, Nat.le_of_ble_eq_true rfl⟩) hI (fun ce q9 M_5 H_3 locs_4 hp_2 hI hce hcv hcl => ?_)
  obtain ⟨a2_17, g2_18, t2_19, v2_20, q2_21, u2_22, kn2_23, nt2_24, pn2_25, av2_26, ro2_27, te2_28, hm_6, hm_7, hm_8, hm_9, hm_10, hm_11, hm_12, hm_13, hm_14, hm_15, hF_16⟩ := hp_2
  have hm_29 : M_5 2 = some (aI G 400 (nF tb)) := by rw [hF_16 2 (by omega) (by omega) (by omega) (by omega) (by omega) (by omega) (by omega) (by omega) (by omega) (by omega)]; exact h2
  have hF_30 : ∀ j : Nat, j ≠ 0 → j ≠ 1 → j ≠ 22 → j ≠ qs → j ≠ (qs + 1) → j ≠ (qs + 2) → j ≠ (qs + 3) → j ≠ (qs + 4) → j ≠ (qs + 5) → j ≠ (qs + 6) → M_5 j = M j := fun j q0 q1 q2 q3 q4 q5 q6 q7 q8 q9 => (hF_16 j q0 q1 q2 q3 q4 q5 q6 q7 q8 q9)
  refine vx_catch (name := "java/lang/IllegalArgumentException") hown [] ⟨0, 8, 11, 15⟩ [] (htab.trans rfl) (fun z9 h9 => nomatch h9) (by decide) (by decide) cl_15 (va_Nw.use rfl (hI.1.2.1.2.2 ("java/lang/IllegalArgumentException", "java/lang/IllegalArgumentException") (List.mem_of_getElem? (i := 2) rfl))) hce hcv hcl ?_
  refine lv_astore_n (lv' := [(2, .ref q9), (0, .ref (ad 0)), (1, .ref (ad 99))]) hx hb dL_question_11 rfl hl (by decide) rfl (fun ls hl => ?_)
  refine lv_iconst (v := nI 1) hx hb dL_question_12 (by decide) ?_
  exact e_Ni hx hb hr rfl hlocks hI ⟨a2_17, g2_18, t2_19, v2_20, q2_21, u2_22, kn2_23, nt2_24, pn2_25, av2_26, ro2_27, te2_28, rfl, hm_6, hm_7, hm_8, hm_9, hm_10, hm_11, hm_12, hm_13, hm_14, hm_15, (fun j q0 q1 q2 q3 q4 q5 q6 q7 q8 q9 => hF_30 j q0 q1 q2 q3 q4 q5 q6 q7 q8 q9)⟩ dL_question_13

/-- L_ways -/
abbrev rm_c_L_ways : Room := { frames := 6, cells := 0, slots := 0, locals := 149 }
set_option maxHeartbeats 4000000 in
set_option maxRecDepth 100000 in
theorem c_L_ways (l : Launch) (hst : l.stackTraces = false) (G : GG) (z : Nat) (ad : Nat → Nat) (M : Mem) {n : Nat} {kd : Nat → Nat} {fm : Nat → Int32} {to : Nat → Int32} {sz : Nat → Nat} {rl : Nat → Nat → Nat} {en : Nat → Nat → Nat} {qa : Nat} {qs : Nat} {fw : Int32} {jn : Nat} {lst : Nat → Nat} {a : Nat} {b : Nat} {ks : Int32} {d : Int32} {of : Nat → Int64} (hL : LSm G ad M n kd fm to sz rl en) (h0 : M 0 = some (cStore ad qa qs fw)) (h8 : M 8 = some (cOnes ad jn)) (h10 : M 10 = some (aI G 40 (nF lst))) (h99 : M 99 = some (aJ G 1 of)) (hw : LSw n kd sz rl en) (hlst : ∀ u, u < 40 → lst u < 40) (ha : a < 40) (hb4 : b < 40) : Met l yL_ways wsL_ways rm_c_L_ways (Pr G z ad M [.ref (ad 0), .int (nI a), .int (nI b), .int ks, .int d, .ref (ad 99)]) (Ni G z ad (fun (r : Int32) (M' : Mem) => ∃ rv : Int32, r = nI 0 ∧ M' 99 = some (aJ G 1 (vp_updL of 0 (rv.toInt64))) ∧ (∀ j : Nat, j ≠ 99 → M' j = M j) ∧ ∃ o : Option Nat, rv = oI o ∧ (∀ i, o = some i → i < 40 ∧ Rch n kd fm to sz en lst ks d (lst a) i (lst b) ∧ ∀ j, j < i → ¬ Rch n kd fm to sz en lst ks d (lst a) j (lst b)) ∧ (o = none → ∀ j, ¬ Rch n kd fm to sz en lst ks d (lst a) j (lst b)))) 0 0 (fr z) := by
  refine mt_ofWH (cc := cL_ways) (maxL := 7) (ret := (some .int)) (hh := [(0, 14, 17, 13)]) (by decide) rfl ?_
  intro p e s m args below meth c s₁ B hml hv
  obtain ⟨rfl, hv⟩ := hv
  have hI := Iv.entry hv
  have hx := B.exec
  have hb := B.bytes
  have hr := B.returns
  have hts := atoms_spec (ws := wsL_ways) B.pre
  have hown : s.vm.findClass RL = some m.cls := findClass_of_methodNamed B.named
  have hlocks := B.notSynchronized
  have htab := vx_table (x := yL_ways) B (hts _ List.mem_cons_self)
  have hl := lv_entry ([.ref (ad 0), .int (nI a), .int (nI b), .int ks, .int d, .ref (ad 99)]) (n := 7) (Nat.le_of_ble_eq_true rfl)
  rw [lg_entry_eq]
  generalize (lg_sl ([.ref (ad 0), .int (nI a), .int (nI b), .int ks, .int d, .ref (ad 99)]) ++ List.replicate (7 - (lg_sl ([.ref (ad 0), .int (nI a), .int (nI b), .int ks, .int d, .ref (ad 99)])).length) Slot.unset).toArray = ls at hl ⊢
  have hl : lv_has ls 7 [(0, .ref (ad 0)), (1, .int (nI a)), (2, .int (nI b)), (3, .int ks), (4, .int d), (5, .ref (ad 99))] := hl
  have h16 := hL.1
  obtain ⟨mcn, ed, h17, hed⟩ := id hL.2.1
  refine lv_aload hx hb dL_ways_0 (lv_at hl 5 rfl) ?_
  refine lv_iconst (v := nI 0) hx hb dL_ways_2 (by decide) ?_
  refine lv_aload_n hx hb dL_ways_3 rfl (lv_at hl 0 rfl) ?_
  refine lv_iload_n hx hb dL_ways_4 rfl (lv_at hl 1 rfl) ?_
  refine lv_iload_n hx hb dL_ways_5 rfl (lv_at hl 2 rfl) ?_
  refine lv_iload_n hx hb dL_ways_6 rfl (lv_at hl 3 rfl) ?_
  refine lv_iload hx hb dL_ways_7 (lv_at hl 4 rfl) ?_
  refine k_Ni (va_runV (As := [.int (nI a), .int (nI b), .int ks, .int d]) (rest := [.int (nI 0), .ref (ad 99)]) ⟨hx, hb, hml, hown, hts⟩ (c_X9_ways l G z ad M (n := n) (kd := kd) (fm := fm) (to := to) (sz := sz) (rl := rl) (en := en) (qa := qa) (qs := qs) (fw := fw) (jn := jn) (lst := lst) (a := a) (b := b) (ks := ks) (d := d) hL h0 h8 h10 hw hlst ha hb4) (cwV 4 hts (gV (lwg_of t_970 rfl) (lwg_of t_971 rfl) (lwg_of t_972 rfl) (lwg_of t_1 rfl) (lwg_of t_973 rfl)) rfl rfl rfl (by decide +kernel) ⟨Nat.le_of_ble_eq_true rfl, Nat.le_of_ble_eq_true rfl⟩) (hI.preV h0 rfl) rfl rfl hl.1 rfl (lv_room (Nat.le_of_ble_eq_true rfl)) dL_ways_9 ⟨Nat.le_of_ble_eq_true rfl, Nat.le_of_ble_eq_true rfl⟩) hI (fun r_1 M_3 H_4 locs_5 hp_2 hI => ?_)
  obtain ⟨hF_6, hP_7⟩ := hp_2
  have hm_8 : M_3 0 = some (cStore ad qa qs fw) := by rw [hF_6 0 ]; exact h0
  have hm_9 : M_3 8 = some (cOnes ad jn) := by rw [hF_6 8 ]; exact h8
  have hm_10 : M_3 10 = some (aI G 40 (nF lst)) := by rw [hF_6 10 ]; exact h10
  have hm_11 : M_3 99 = some (aJ G 1 of) := by rw [hF_6 99 ]; exact h99
  have hm_12 : M_3 16 = some (cLines ad ) := by rw [hF_6 16 ]; exact h16
  have hm_13 : M_3 17 = some (cList ad mcn ed n) := by rw [hF_6 17 ]; exact h17
  have hL_14 : LSm G ad M_3 n kd fm to sz rl en := hL.keep (fun j hj => hF_6 j )
  refine lv_i2l (v := r_1.toInt64) hx hb dL_ways_12 rfl ?_
  refine h_last (i := 0) (x := r_1.toInt64) hx hb hI hm_11 (by omega) (by decide) dL_ways_13 (fun M_15 H_16 locs_17 eM_18 hI => ?_)
  have hm_19 : M_15 0 = some (cStore ad qa qs fw) := by rw [eM_18, va_up_ne _ _ (by decide)]; exact hm_8
  have hm_20 : M_15 8 = some (cOnes ad jn) := by rw [eM_18, va_up_ne _ _ (by decide)]; exact hm_9
  have hm_21 : M_15 10 = some (aI G 40 (nF lst)) := by rw [eM_18, va_up_ne _ _ (by decide)]; exact hm_10
  have hm_22 : M_15 99 = some (aJ G 1 (vp_updL of 0 r_1.toInt64)) := by rw [eM_18]; exact va_up_self _ _ _
  have hm_23 : M_15 16 = some (cLines ad ) := by rw [eM_18, va_up_ne _ _ (by decide)]; exact hm_12
  have hm_24 : M_15 17 = some (cList ad mcn ed n) := by rw [eM_18, va_up_ne _ _ (by decide)]; exact hm_13
  have hL_25 : LSm G ad M_15 n kd fm to sz rl en := hL_14.keep (fun j hj => by rw [eM_18, va_up_ne _ _ (by omega)])
  have hF_26 : ∀ j : Nat, j ≠ 99 → M_15 j = M j := fun j q0 => by rw [eM_18, va_up_ne _ _ q0]; exact hF_6 j 
  refine lv_goto (tgt := 21) hx hb dL_ways_14 (by decide) ?_
  refine lv_iconst (v := nI 0) hx hb dL_ways_21 (by decide) ?_
  exact e_Ni hx hb hr rfl hlocks hI ⟨r_1, rfl, hm_22, (fun j q0 => hF_26 j q0), hP_7⟩ dL_ways_22

/-- L_ways -/
abbrev rm_c_L_ways_a : Room := { frames := 8, cells := 1, slots := 6, locals := 134 }
set_option maxHeartbeats 4000000 in
set_option maxRecDepth 100000 in
theorem c_L_ways_a (l : Launch) (hst : l.stackTraces = false) (G : GG) (z : Nat) (ad : Nat → Nat) (M : Mem) {qa : Nat} {qs : Nat} {fw : Int32} {x0 : Int32} {x1 : Int32} {x2 : Int32} {x3 : Int32} (h0 : M 0 = some (cStore ad qa qs fw)) (hbad : x0 < 0 ∨ ¬ x0 < nI 40) : Met l yL_ways wsL_ways rm_c_L_ways_a (Pr G z ad M [.ref (ad 0), .int x0, .int x1, .int x2, .int x3, .ref (ad 99)]) (Ni G z ad (fun (r : Int32) (M' : Mem) => r = nI 1 ∧ (∀ j : Nat,  M' j = M j))) 1 6 (fr z) := by
  refine mt_ofWH (cc := cL_ways) (maxL := 7) (ret := (some .int)) (hh := [(0, 14, 17, 13)]) (by decide) rfl ?_
  intro p e s m args below meth c s₁ B hml hv
  obtain ⟨rfl, hv⟩ := hv
  have hI := Iv.entry hv
  have hx := B.exec
  have hb := B.bytes
  have hr := B.returns
  have hts := atoms_spec (ws := wsL_ways) B.pre
  have hown : s.vm.findClass RL = some m.cls := findClass_of_methodNamed B.named
  have hlocks := B.notSynchronized
  have htab := vx_table (x := yL_ways) B (hts _ List.mem_cons_self)
  have cl_13 := hts _ (List.mem_cons_of_mem _ (lwg_of t_471 rfl))
  have hl := lv_entry ([.ref (ad 0), .int x0, .int x1, .int x2, .int x3, .ref (ad 99)]) (n := 7) (Nat.le_of_ble_eq_true rfl)
  rw [lg_entry_eq]
  generalize (lg_sl ([.ref (ad 0), .int x0, .int x1, .int x2, .int x3, .ref (ad 99)]) ++ List.replicate (7 - (lg_sl ([.ref (ad 0), .int x0, .int x1, .int x2, .int x3, .ref (ad 99)])).length) Slot.unset).toArray = ls at hl ⊢
  have hl : lv_has ls 7 [(0, .ref (ad 0)), (1, .int x0), (2, .int x1), (3, .int x2), (4, .int x3), (5, .ref (ad 99))] := hl
  refine lv_aload hx hb dL_ways_0 (lv_at hl 5 rfl) ?_
  refine lv_iconst (v := nI 0) hx hb dL_ways_2 (by decide) ?_
  refine lv_aload_n hx hb dL_ways_3 rfl (lv_at hl 0 rfl) ?_
  refine lv_iload_n hx hb dL_ways_4 rfl (lv_at hl 1 rfl) ?_
  refine lv_iload_n hx hb dL_ways_5 rfl (lv_at hl 2 rfl) ?_
  refine lv_iload_n hx hb dL_ways_6 rfl (lv_at hl 3 rfl) ?_
  refine lv_iload hx hb dL_ways_7 (lv_at hl 4 rfl) ?_
  refine k_T (vx_runV (As := [.int x0, .int x1, .int x2, .int x3]) (rest := [.int (nI 0), .ref (ad 99)]) ⟨hx, hb, hml, hown, hts⟩ (c_X9_ways_a l hst G z ad M (x0 := x0) (x1 := x1) (x2 := x2) (x3 := x3) hbad) (cwV 4 hts (gV (lwg_of t_970 rfl) (lwg_of t_971 rfl) (lwg_of t_972 rfl) (lwg_of t_1 rfl) (lwg_of t_973 rfl)) rfl rfl rfl (by decide +kernel) ⟨Nat.le_of_ble_eq_true rfl, Nat.le_of_ble_eq_true rfl⟩) (hI.preV h0 rfl) rfl rfl hl.1 rfl (lv_room (Nat.le_of_ble_eq_true rfl)) dL_ways_9 ⟨Nat.le_of_ble_eq_true rfl, Nat.le_of_ble_eq_true rfl⟩) hI (fun ce q9 H_3 locs_4 hI hce hcv hcl => ?_)
  refine vx_catch (name := "java/lang/IndexOutOfBoundsException") hown [] ⟨0, 14, 17, 13⟩ [] (htab.trans rfl) (fun z9 h9 => nomatch h9) (by decide) (by decide) cl_13 (va_Nw.use rfl (hI.1.2.1.2.2 ("java/lang/IndexOutOfBoundsException", "java/lang/IndexOutOfBoundsException") (List.mem_of_getElem? (i := 1) rfl))) hce hcv hcl ?_
  refine lv_astore (lv' := [(6, .ref q9), (0, .ref (ad 0)), (1, .int x0), (2, .int x1), (3, .int x2), (4, .int x3), (5, .ref (ad 99))]) hx hb dL_ways_17 hl (by decide) rfl (fun ls hl => ?_)
  refine lv_iconst (v := nI 1) hx hb dL_ways_19 (by decide) ?_
  exact e_Ni hx hb hr rfl hlocks hI ⟨rfl, (fun j  => rfl)⟩ dL_ways_20

/-- L_ways -/
abbrev rm_c_L_ways_b : Room := { frames := 8, cells := 1, slots := 6, locals := 134 }
set_option maxHeartbeats 4000000 in
set_option maxRecDepth 100000 in
theorem c_L_ways_b (l : Launch) (hst : l.stackTraces = false) (G : GG) (z : Nat) (ad : Nat → Nat) (M : Mem) {qa : Nat} {qs : Nat} {fw : Int32} {a : Nat} {x1 : Int32} {x2 : Int32} {x3 : Int32} (h0 : M 0 = some (cStore ad qa qs fw)) (ha : a < 40) (hbad : x1 < 0 ∨ ¬ x1 < nI 40) : Met l yL_ways wsL_ways rm_c_L_ways_b (Pr G z ad M [.ref (ad 0), .int (nI a), .int x1, .int x2, .int x3, .ref (ad 99)]) (Ni G z ad (fun (r : Int32) (M' : Mem) => r = nI 1 ∧ (∀ j : Nat,  M' j = M j))) 1 6 (fr z) := by
  refine mt_ofWH (cc := cL_ways) (maxL := 7) (ret := (some .int)) (hh := [(0, 14, 17, 13)]) (by decide) rfl ?_
  intro p e s m args below meth c s₁ B hml hv
  obtain ⟨rfl, hv⟩ := hv
  have hI := Iv.entry hv
  have hx := B.exec
  have hb := B.bytes
  have hr := B.returns
  have hts := atoms_spec (ws := wsL_ways) B.pre
  have hown : s.vm.findClass RL = some m.cls := findClass_of_methodNamed B.named
  have hlocks := B.notSynchronized
  have htab := vx_table (x := yL_ways) B (hts _ List.mem_cons_self)
  have cl_13 := hts _ (List.mem_cons_of_mem _ (lwg_of t_471 rfl))
  have hl := lv_entry ([.ref (ad 0), .int (nI a), .int x1, .int x2, .int x3, .ref (ad 99)]) (n := 7) (Nat.le_of_ble_eq_true rfl)
  rw [lg_entry_eq]
  generalize (lg_sl ([.ref (ad 0), .int (nI a), .int x1, .int x2, .int x3, .ref (ad 99)]) ++ List.replicate (7 - (lg_sl ([.ref (ad 0), .int (nI a), .int x1, .int x2, .int x3, .ref (ad 99)])).length) Slot.unset).toArray = ls at hl ⊢
  have hl : lv_has ls 7 [(0, .ref (ad 0)), (1, .int (nI a)), (2, .int x1), (3, .int x2), (4, .int x3), (5, .ref (ad 99))] := hl
  refine lv_aload hx hb dL_ways_0 (lv_at hl 5 rfl) ?_
  refine lv_iconst (v := nI 0) hx hb dL_ways_2 (by decide) ?_
  refine lv_aload_n hx hb dL_ways_3 rfl (lv_at hl 0 rfl) ?_
  refine lv_iload_n hx hb dL_ways_4 rfl (lv_at hl 1 rfl) ?_
  refine lv_iload_n hx hb dL_ways_5 rfl (lv_at hl 2 rfl) ?_
  refine lv_iload_n hx hb dL_ways_6 rfl (lv_at hl 3 rfl) ?_
  refine lv_iload hx hb dL_ways_7 (lv_at hl 4 rfl) ?_
  refine k_T (vx_runV (As := [.int (nI a), .int x1, .int x2, .int x3]) (rest := [.int (nI 0), .ref (ad 99)]) ⟨hx, hb, hml, hown, hts⟩ (c_X9_ways_b l hst G z ad M (a := a) (x1 := x1) (x2 := x2) (x3 := x3) ha hbad) (cwV 4 hts (gV (lwg_of t_970 rfl) (lwg_of t_971 rfl) (lwg_of t_972 rfl) (lwg_of t_1 rfl) (lwg_of t_973 rfl)) rfl rfl rfl (by decide +kernel) ⟨Nat.le_of_ble_eq_true rfl, Nat.le_of_ble_eq_true rfl⟩) (hI.preV h0 rfl) rfl rfl hl.1 rfl (lv_room (Nat.le_of_ble_eq_true rfl)) dL_ways_9 ⟨Nat.le_of_ble_eq_true rfl, Nat.le_of_ble_eq_true rfl⟩) hI (fun ce q9 H_3 locs_4 hI hce hcv hcl => ?_)
  refine vx_catch (name := "java/lang/IndexOutOfBoundsException") hown [] ⟨0, 14, 17, 13⟩ [] (htab.trans rfl) (fun z9 h9 => nomatch h9) (by decide) (by decide) cl_13 (va_Nw.use rfl (hI.1.2.1.2.2 ("java/lang/IndexOutOfBoundsException", "java/lang/IndexOutOfBoundsException") (List.mem_of_getElem? (i := 1) rfl))) hce hcv hcl ?_
  refine lv_astore (lv' := [(6, .ref q9), (0, .ref (ad 0)), (1, .int (nI a)), (2, .int x1), (3, .int x2), (4, .int x3), (5, .ref (ad 99))]) hx hb dL_ways_17 hl (by decide) rfl (fun ls hl => ?_)
  refine lv_iconst (v := nI 1) hx hb dL_ways_19 (by decide) ?_
  exact e_Ni hx hb hr rfl hlocks hI ⟨rfl, (fun j  => rfl)⟩ dL_ways_20

/-- L_degree -/
abbrev rm_c_L_degree : Room := { frames := 5, cells := 0, slots := 0, locals := 116 }
set_option maxHeartbeats 4000000 in
set_option maxRecDepth 100000 in
theorem c_L_degree (l : Launch) (hst : l.stackTraces = false) (G : GG) (z : Nat) (ad : Nat → Nat) (M : Mem) {n : Nat} {kd : Nat → Nat} {fm : Nat → Int32} {to : Nat → Int32} {sz : Nat → Nat} {rl : Nat → Nat → Nat} {en : Nat → Nat → Nat} {qa : Nat} {qs : Nat} {fw : Int32} {jn : Nat} {lst : Nat → Nat} {t : Nat} {q : Nat} {x : Nat} {d : Int32} {of : Nat → Int64} (hL : LSm G ad M n kd fm to sz rl en) (h0 : M 0 = some (cStore ad qa qs fw)) (h8 : M 8 = some (cOnes ad jn)) (h10 : M 10 = some (aI G 40 (nF lst))) (h99 : M 99 = some (aJ G 1 of)) (hw : LSw n kd sz rl en) (hlst : ∀ u, u < 40 → lst u < 40) (ht : t < 40) (hq : q < 6) (hx6 : x < 6) : Met l yL_degree wsL_degree rm_c_L_degree (Pr G z ad M [.ref (ad 0), .int (nI t), .int (nI q), .int (nI x), .int d, .ref (ad 99)]) (Ni G z ad (fun (r : Int32) (M' : Mem) => r = nI 0 ∧ M' 99 = some (aJ G 1 (vp_updL of 0 ((nI (cntB (wth kd fm to sz rl en lst (lst t) q x d) n)).toInt64))) ∧ (∀ j : Nat, j ≠ 99 → M' j = M j))) 0 0 (fr z) := by
  refine mt_ofWH (cc := cL_degree) (maxL := 7) (ret := (some .int)) (hh := [(0, 14, 17, 13)]) (by decide) rfl ?_
  intro p e s m args below meth c s₁ B hml hv
  obtain ⟨rfl, hv⟩ := hv
  have hI := Iv.entry hv
  have hx := B.exec
  have hb := B.bytes
  have hr := B.returns
  have hts := atoms_spec (ws := wsL_degree) B.pre
  have hown : s.vm.findClass RL = some m.cls := findClass_of_methodNamed B.named
  have hlocks := B.notSynchronized
  have htab := vx_table (x := yL_degree) B (hts _ List.mem_cons_self)
  have hl := lv_entry ([.ref (ad 0), .int (nI t), .int (nI q), .int (nI x), .int d, .ref (ad 99)]) (n := 7) (Nat.le_of_ble_eq_true rfl)
  rw [lg_entry_eq]
  generalize (lg_sl ([.ref (ad 0), .int (nI t), .int (nI q), .int (nI x), .int d, .ref (ad 99)]) ++ List.replicate (7 - (lg_sl ([.ref (ad 0), .int (nI t), .int (nI q), .int (nI x), .int d, .ref (ad 99)])).length) Slot.unset).toArray = ls at hl ⊢
  have hl : lv_has ls 7 [(0, .ref (ad 0)), (1, .int (nI t)), (2, .int (nI q)), (3, .int (nI x)), (4, .int d), (5, .ref (ad 99))] := hl
  have h16 := hL.1
  obtain ⟨mcn, ed, h17, hed⟩ := id hL.2.1
  refine lv_aload hx hb dL_degree_0 (lv_at hl 5 rfl) ?_
  refine lv_iconst (v := nI 0) hx hb dL_degree_2 (by decide) ?_
  refine lv_aload_n hx hb dL_degree_3 rfl (lv_at hl 0 rfl) ?_
  refine lv_iload_n hx hb dL_degree_4 rfl (lv_at hl 1 rfl) ?_
  refine lv_iload_n hx hb dL_degree_5 rfl (lv_at hl 2 rfl) ?_
  refine lv_iload_n hx hb dL_degree_6 rfl (lv_at hl 3 rfl) ?_
  refine lv_iload hx hb dL_degree_7 (lv_at hl 4 rfl) ?_
  refine k_Ni (va_runV (As := [.int (nI t), .int (nI q), .int (nI x), .int d]) (rest := [.int (nI 0), .ref (ad 99)]) ⟨hx, hb, hml, hown, hts⟩ (c_X9_degree l G z ad M (n := n) (kd := kd) (fm := fm) (to := to) (sz := sz) (rl := rl) (en := en) (qa := qa) (qs := qs) (fw := fw) (jn := jn) (lst := lst) (t := t) (q := q) (x := x) (d := d) hL h0 h8 h10 hw hlst ht hq hx6) (cwV 4 hts (gV (lwg_of t_989 rfl) (lwg_of t_990 rfl) (lwg_of t_991 rfl) (lwg_of t_1 rfl) (lwg_of t_992 rfl)) rfl rfl rfl (by decide +kernel) ⟨Nat.le_of_ble_eq_true rfl, Nat.le_of_ble_eq_true rfl⟩) (hI.preV h0 rfl) rfl rfl hl.1 rfl (lv_room (Nat.le_of_ble_eq_true rfl)) dL_degree_9 ⟨Nat.le_of_ble_eq_true rfl, Nat.le_of_ble_eq_true rfl⟩) hI (fun r_1 M_3 H_4 locs_5 hp_2 hI => ?_)
  obtain ⟨hr_6, hF_7⟩ := hp_2
  have hm_8 : M_3 0 = some (cStore ad qa qs fw) := by rw [hF_7 0 ]; exact h0
  have hm_9 : M_3 8 = some (cOnes ad jn) := by rw [hF_7 8 ]; exact h8
  have hm_10 : M_3 10 = some (aI G 40 (nF lst)) := by rw [hF_7 10 ]; exact h10
  have hm_11 : M_3 99 = some (aJ G 1 of) := by rw [hF_7 99 ]; exact h99
  have hm_12 : M_3 16 = some (cLines ad ) := by rw [hF_7 16 ]; exact h16
  have hm_13 : M_3 17 = some (cList ad mcn ed n) := by rw [hF_7 17 ]; exact h17
  have hL_14 : LSm G ad M_3 n kd fm to sz rl en := hL.keep (fun j hj => hF_7 j )
  rw [hr_6]
  refine lv_i2l (v := (nI (cntB (wth kd fm to sz rl en lst (lst t) q x d) n)).toInt64) hx hb dL_degree_12 rfl ?_
  refine h_last (i := 0) (x := (nI (cntB (wth kd fm to sz rl en lst (lst t) q x d) n)).toInt64) hx hb hI hm_11 (by omega) (by decide) dL_degree_13 (fun M_15 H_16 locs_17 eM_18 hI => ?_)
  have hm_19 : M_15 0 = some (cStore ad qa qs fw) := by rw [eM_18, va_up_ne _ _ (by decide)]; exact hm_8
  have hm_20 : M_15 8 = some (cOnes ad jn) := by rw [eM_18, va_up_ne _ _ (by decide)]; exact hm_9
  have hm_21 : M_15 10 = some (aI G 40 (nF lst)) := by rw [eM_18, va_up_ne _ _ (by decide)]; exact hm_10
  have hm_22 : M_15 99 = some (aJ G 1 (vp_updL of 0 ((nI (cntB (wth kd fm to sz rl en lst (lst t) q x d) n)).toInt64))) := by rw [eM_18]; exact va_up_self _ _ _
  have hm_23 : M_15 16 = some (cLines ad ) := by rw [eM_18, va_up_ne _ _ (by decide)]; exact hm_12
  have hm_24 : M_15 17 = some (cList ad mcn ed n) := by rw [eM_18, va_up_ne _ _ (by decide)]; exact hm_13
  have hL_25 : LSm G ad M_15 n kd fm to sz rl en := hL_14.keep (fun j hj => by rw [eM_18, va_up_ne _ _ (by omega)])
  have hF_26 : ∀ j : Nat, j ≠ 99 → M_15 j = M j := fun j q0 => by rw [eM_18, va_up_ne _ _ q0]; exact hF_7 j 
  refine lv_goto (tgt := 21) hx hb dL_degree_14 (by decide) ?_
  refine lv_iconst (v := nI 0) hx hb dL_degree_21 (by decide) ?_
  exact e_Ni hx hb hr rfl hlocks hI ⟨rfl, hm_22, (fun j q0 => hF_26 j q0)⟩ dL_degree_22

/-- L_degree -/
abbrev rm_c_L_degree_a : Room := { frames := 8, cells := 1, slots := 6, locals := 134 }
set_option maxHeartbeats 4000000 in
set_option maxRecDepth 100000 in
theorem c_L_degree_a (l : Launch) (hst : l.stackTraces = false) (G : GG) (z : Nat) (ad : Nat → Nat) (M : Mem) {qa : Nat} {qs : Nat} {fw : Int32} {x0 : Int32} {x1 : Int32} {x2 : Int32} {x3 : Int32} (h0 : M 0 = some (cStore ad qa qs fw)) (hbad : x0 < 0 ∨ ¬ x0 < nI 40) : Met l yL_degree wsL_degree rm_c_L_degree_a (Pr G z ad M [.ref (ad 0), .int x0, .int x1, .int x2, .int x3, .ref (ad 99)]) (Ni G z ad (fun (r : Int32) (M' : Mem) => r = nI 1 ∧ (∀ j : Nat,  M' j = M j))) 1 6 (fr z) := by
  refine mt_ofWH (cc := cL_degree) (maxL := 7) (ret := (some .int)) (hh := [(0, 14, 17, 13)]) (by decide) rfl ?_
  intro p e s m args below meth c s₁ B hml hv
  obtain ⟨rfl, hv⟩ := hv
  have hI := Iv.entry hv
  have hx := B.exec
  have hb := B.bytes
  have hr := B.returns
  have hts := atoms_spec (ws := wsL_degree) B.pre
  have hown : s.vm.findClass RL = some m.cls := findClass_of_methodNamed B.named
  have hlocks := B.notSynchronized
  have htab := vx_table (x := yL_degree) B (hts _ List.mem_cons_self)
  have cl_13 := hts _ (List.mem_cons_of_mem _ (lwg_of t_471 rfl))
  have hl := lv_entry ([.ref (ad 0), .int x0, .int x1, .int x2, .int x3, .ref (ad 99)]) (n := 7) (Nat.le_of_ble_eq_true rfl)
  rw [lg_entry_eq]
  generalize (lg_sl ([.ref (ad 0), .int x0, .int x1, .int x2, .int x3, .ref (ad 99)]) ++ List.replicate (7 - (lg_sl ([.ref (ad 0), .int x0, .int x1, .int x2, .int x3, .ref (ad 99)])).length) Slot.unset).toArray = ls at hl ⊢
  have hl : lv_has ls 7 [(0, .ref (ad 0)), (1, .int x0), (2, .int x1), (3, .int x2), (4, .int x3), (5, .ref (ad 99))] := hl
  refine lv_aload hx hb dL_degree_0 (lv_at hl 5 rfl) ?_
  refine lv_iconst (v := nI 0) hx hb dL_degree_2 (by decide) ?_
  refine lv_aload_n hx hb dL_degree_3 rfl (lv_at hl 0 rfl) ?_
  refine lv_iload_n hx hb dL_degree_4 rfl (lv_at hl 1 rfl) ?_
  refine lv_iload_n hx hb dL_degree_5 rfl (lv_at hl 2 rfl) ?_
  refine lv_iload_n hx hb dL_degree_6 rfl (lv_at hl 3 rfl) ?_
  refine lv_iload hx hb dL_degree_7 (lv_at hl 4 rfl) ?_
  refine k_T (vx_runV (As := [.int x0, .int x1, .int x2, .int x3]) (rest := [.int (nI 0), .ref (ad 99)]) ⟨hx, hb, hml, hown, hts⟩ (c_X9_degree_a l hst G z ad M (x0 := x0) (x1 := x1) (x2 := x2) (x3 := x3) hbad) (cwV 4 hts (gV (lwg_of t_989 rfl) (lwg_of t_990 rfl) (lwg_of t_991 rfl) (lwg_of t_1 rfl) (lwg_of t_992 rfl)) rfl rfl rfl (by decide +kernel) ⟨Nat.le_of_ble_eq_true rfl, Nat.le_of_ble_eq_true rfl⟩) (hI.preV h0 rfl) rfl rfl hl.1 rfl (lv_room (Nat.le_of_ble_eq_true rfl)) dL_degree_9 ⟨Nat.le_of_ble_eq_true rfl, Nat.le_of_ble_eq_true rfl⟩) hI (fun ce q9 H_3 locs_4 hI hce hcv hcl => ?_)
  refine vx_catch (name := "java/lang/IndexOutOfBoundsException") hown [] ⟨0, 14, 17, 13⟩ [] (htab.trans rfl) (fun z9 h9 => nomatch h9) (by decide) (by decide) cl_13 (va_Nw.use rfl (hI.1.2.1.2.2 ("java/lang/IndexOutOfBoundsException", "java/lang/IndexOutOfBoundsException") (List.mem_of_getElem? (i := 1) rfl))) hce hcv hcl ?_
  refine lv_astore (lv' := [(6, .ref q9), (0, .ref (ad 0)), (1, .int x0), (2, .int x1), (3, .int x2), (4, .int x3), (5, .ref (ad 99))]) hx hb dL_degree_17 hl (by decide) rfl (fun ls hl => ?_)
  refine lv_iconst (v := nI 1) hx hb dL_degree_19 (by decide) ?_
  exact e_Ni hx hb hr rfl hlocks hI ⟨rfl, (fun j  => rfl)⟩ dL_degree_20

/-- L_degree -/
abbrev rm_c_L_degree_b : Room := { frames := 8, cells := 1, slots := 6, locals := 134 }
set_option maxHeartbeats 4000000 in
set_option maxRecDepth 100000 in
theorem c_L_degree_b (l : Launch) (hst : l.stackTraces = false) (G : GG) (z : Nat) (ad : Nat → Nat) (M : Mem) {qa : Nat} {qs : Nat} {fw : Int32} {a : Nat} {x1 : Int32} {x2 : Int32} {x3 : Int32} (h0 : M 0 = some (cStore ad qa qs fw)) (ha : a < 40) (hbad : x1 < 0 ∨ ¬ x1 < nI 6) : Met l yL_degree wsL_degree rm_c_L_degree_b (Pr G z ad M [.ref (ad 0), .int (nI a), .int x1, .int x2, .int x3, .ref (ad 99)]) (Ni G z ad (fun (r : Int32) (M' : Mem) => r = nI 1 ∧ (∀ j : Nat,  M' j = M j))) 1 6 (fr z) := by
  refine mt_ofWH (cc := cL_degree) (maxL := 7) (ret := (some .int)) (hh := [(0, 14, 17, 13)]) (by decide) rfl ?_
  intro p e s m args below meth c s₁ B hml hv
  obtain ⟨rfl, hv⟩ := hv
  have hI := Iv.entry hv
  have hx := B.exec
  have hb := B.bytes
  have hr := B.returns
  have hts := atoms_spec (ws := wsL_degree) B.pre
  have hown : s.vm.findClass RL = some m.cls := findClass_of_methodNamed B.named
  have hlocks := B.notSynchronized
  have htab := vx_table (x := yL_degree) B (hts _ List.mem_cons_self)
  have cl_13 := hts _ (List.mem_cons_of_mem _ (lwg_of t_471 rfl))
  have hl := lv_entry ([.ref (ad 0), .int (nI a), .int x1, .int x2, .int x3, .ref (ad 99)]) (n := 7) (Nat.le_of_ble_eq_true rfl)
  rw [lg_entry_eq]
  generalize (lg_sl ([.ref (ad 0), .int (nI a), .int x1, .int x2, .int x3, .ref (ad 99)]) ++ List.replicate (7 - (lg_sl ([.ref (ad 0), .int (nI a), .int x1, .int x2, .int x3, .ref (ad 99)])).length) Slot.unset).toArray = ls at hl ⊢
  have hl : lv_has ls 7 [(0, .ref (ad 0)), (1, .int (nI a)), (2, .int x1), (3, .int x2), (4, .int x3), (5, .ref (ad 99))] := hl
  refine lv_aload hx hb dL_degree_0 (lv_at hl 5 rfl) ?_
  refine lv_iconst (v := nI 0) hx hb dL_degree_2 (by decide) ?_
  refine lv_aload_n hx hb dL_degree_3 rfl (lv_at hl 0 rfl) ?_
  refine lv_iload_n hx hb dL_degree_4 rfl (lv_at hl 1 rfl) ?_
  refine lv_iload_n hx hb dL_degree_5 rfl (lv_at hl 2 rfl) ?_
  refine lv_iload_n hx hb dL_degree_6 rfl (lv_at hl 3 rfl) ?_
  refine lv_iload hx hb dL_degree_7 (lv_at hl 4 rfl) ?_
  refine k_T (vx_runV (As := [.int (nI a), .int x1, .int x2, .int x3]) (rest := [.int (nI 0), .ref (ad 99)]) ⟨hx, hb, hml, hown, hts⟩ (c_X9_degree_b l hst G z ad M (a := a) (x1 := x1) (x2 := x2) (x3 := x3) ha hbad) (cwV 4 hts (gV (lwg_of t_989 rfl) (lwg_of t_990 rfl) (lwg_of t_991 rfl) (lwg_of t_1 rfl) (lwg_of t_992 rfl)) rfl rfl rfl (by decide +kernel) ⟨Nat.le_of_ble_eq_true rfl, Nat.le_of_ble_eq_true rfl⟩) (hI.preV h0 rfl) rfl rfl hl.1 rfl (lv_room (Nat.le_of_ble_eq_true rfl)) dL_degree_9 ⟨Nat.le_of_ble_eq_true rfl, Nat.le_of_ble_eq_true rfl⟩) hI (fun ce q9 H_3 locs_4 hI hce hcv hcl => ?_)
  refine vx_catch (name := "java/lang/IndexOutOfBoundsException") hown [] ⟨0, 14, 17, 13⟩ [] (htab.trans rfl) (fun z9 h9 => nomatch h9) (by decide) (by decide) cl_13 (va_Nw.use rfl (hI.1.2.1.2.2 ("java/lang/IndexOutOfBoundsException", "java/lang/IndexOutOfBoundsException") (List.mem_of_getElem? (i := 1) rfl))) hce hcv hcl ?_
  refine lv_astore (lv' := [(6, .ref q9), (0, .ref (ad 0)), (1, .int (nI a)), (2, .int x1), (3, .int x2), (4, .int x3), (5, .ref (ad 99))]) hx hb dL_degree_17 hl (by decide) rfl (fun ls hl => ?_)
  refine lv_iconst (v := nI 1) hx hb dL_degree_19 (by decide) ?_
  exact e_Ni hx hb hr rfl hlocks hI ⟨rfl, (fun j  => rfl)⟩ dL_degree_20

/-- L_degree -/
abbrev rm_c_L_degree_c : Room := { frames := 8, cells := 1, slots := 6, locals := 134 }
set_option maxHeartbeats 4000000 in
set_option maxRecDepth 100000 in
theorem c_L_degree_c (l : Launch) (hst : l.stackTraces = false) (G : GG) (z : Nat) (ad : Nat → Nat) (M : Mem) {qa : Nat} {qs : Nat} {fw : Int32} {a : Nat} {kd : Nat} {x2 : Int32} {x3 : Int32} (h0 : M 0 = some (cStore ad qa qs fw)) (ha : a < 40) (hkd : kd < 6) (hbad : x2 < 0 ∨ ¬ x2 < nI 6) : Met l yL_degree wsL_degree rm_c_L_degree_c (Pr G z ad M [.ref (ad 0), .int (nI a), .int (nI kd), .int x2, .int x3, .ref (ad 99)]) (Ni G z ad (fun (r : Int32) (M' : Mem) => r = nI 1 ∧ (∀ j : Nat,  M' j = M j))) 1 6 (fr z) := by
  refine mt_ofWH (cc := cL_degree) (maxL := 7) (ret := (some .int)) (hh := [(0, 14, 17, 13)]) (by decide) rfl ?_
  intro p e s m args below meth c s₁ B hml hv
  obtain ⟨rfl, hv⟩ := hv
  have hI := Iv.entry hv
  have hx := B.exec
  have hb := B.bytes
  have hr := B.returns
  have hts := atoms_spec (ws := wsL_degree) B.pre
  have hown : s.vm.findClass RL = some m.cls := findClass_of_methodNamed B.named
  have hlocks := B.notSynchronized
  have htab := vx_table (x := yL_degree) B (hts _ List.mem_cons_self)
  have cl_13 := hts _ (List.mem_cons_of_mem _ (lwg_of t_471 rfl))
  have hl := lv_entry ([.ref (ad 0), .int (nI a), .int (nI kd), .int x2, .int x3, .ref (ad 99)]) (n := 7) (Nat.le_of_ble_eq_true rfl)
  rw [lg_entry_eq]
  generalize (lg_sl ([.ref (ad 0), .int (nI a), .int (nI kd), .int x2, .int x3, .ref (ad 99)]) ++ List.replicate (7 - (lg_sl ([.ref (ad 0), .int (nI a), .int (nI kd), .int x2, .int x3, .ref (ad 99)])).length) Slot.unset).toArray = ls at hl ⊢
  have hl : lv_has ls 7 [(0, .ref (ad 0)), (1, .int (nI a)), (2, .int (nI kd)), (3, .int x2), (4, .int x3), (5, .ref (ad 99))] := hl
  refine lv_aload hx hb dL_degree_0 (lv_at hl 5 rfl) ?_
  refine lv_iconst (v := nI 0) hx hb dL_degree_2 (by decide) ?_
  refine lv_aload_n hx hb dL_degree_3 rfl (lv_at hl 0 rfl) ?_
  refine lv_iload_n hx hb dL_degree_4 rfl (lv_at hl 1 rfl) ?_
  refine lv_iload_n hx hb dL_degree_5 rfl (lv_at hl 2 rfl) ?_
  refine lv_iload_n hx hb dL_degree_6 rfl (lv_at hl 3 rfl) ?_
  refine lv_iload hx hb dL_degree_7 (lv_at hl 4 rfl) ?_
  refine k_T (vx_runV (As := [.int (nI a), .int (nI kd), .int x2, .int x3]) (rest := [.int (nI 0), .ref (ad 99)]) ⟨hx, hb, hml, hown, hts⟩ (c_X9_degree_c l hst G z ad M (a := a) (kd := kd) (x2 := x2) (x3 := x3) ha hkd hbad) (cwV 4 hts (gV (lwg_of t_989 rfl) (lwg_of t_990 rfl) (lwg_of t_991 rfl) (lwg_of t_1 rfl) (lwg_of t_992 rfl)) rfl rfl rfl (by decide +kernel) ⟨Nat.le_of_ble_eq_true rfl, Nat.le_of_ble_eq_true rfl⟩) (hI.preV h0 rfl) rfl rfl hl.1 rfl (lv_room (Nat.le_of_ble_eq_true rfl)) dL_degree_9 ⟨Nat.le_of_ble_eq_true rfl, Nat.le_of_ble_eq_true rfl⟩) hI (fun ce q9 H_3 locs_4 hI hce hcv hcl => ?_)
  refine vx_catch (name := "java/lang/IndexOutOfBoundsException") hown [] ⟨0, 14, 17, 13⟩ [] (htab.trans rfl) (fun z9 h9 => nomatch h9) (by decide) (by decide) cl_13 (va_Nw.use rfl (hI.1.2.1.2.2 ("java/lang/IndexOutOfBoundsException", "java/lang/IndexOutOfBoundsException") (List.mem_of_getElem? (i := 1) rfl))) hce hcv hcl ?_
  refine lv_astore (lv' := [(6, .ref q9), (0, .ref (ad 0)), (1, .int (nI a)), (2, .int (nI kd)), (3, .int x2), (4, .int x3), (5, .ref (ad 99))]) hx hb dL_degree_17 hl (by decide) rfl (fun ls hl => ?_)
  refine lv_iconst (v := nI 1) hx hb dL_degree_19 (by decide) ?_
  exact e_Ni hx hb hr rfl hlocks hI ⟨rfl, (fun j  => rfl)⟩ dL_degree_20
