/-! methods that throw: the memory as it was, a new object of the class E beside it -/
def xT (G : GG) (z : Nat) (ad : Nat → Nat) (M : Mem) (E : String) : String → State → State → Prop := fun E' st t => E' = E ∧ Hd G z ad M t.heap ∧ va_F (fr z) st t
theorem hd_ext {G : GG} {z : Nat} {ad : Nat → Nat} {M : Mem} {H H1 : Heap} (h : Hd G z ad M H) (hq : ∀ q : Nat, q < H.size → H1[q]? = H[q]?) : Hd G z ad M H1 := by
  obtain ⟨dom, a, b, hP, hD⟩ := h
  exact ⟨dom, a, b, hP.kept (fun k q hk => hq q.1 (hP k q hk).lt), hD⟩
theorem lwg_m {ws : List Cond} (h : GoodIn lw_tbl ws) (hg : ws.all goodWord = true) : ∀ w ∈ ws, w ∈ lwg := fun w hw => List.mem_filter.mpr ⟨(h w hw).1, List.all_eq_true.mp hg w hw⟩
abbrev nm9 : List String := ["java/lang/RuntimeException", "java/lang/Exception"]
section TH
variable {p : Program} {l : Launch} {e : Env} {R : Room} {s : State} {m : MethodId} {args : Array Value} {below : List Frame} {meth : Method} {c : Code} {H : Heap} {locs : List Loc} {cells slots : Nat} {Q : State → Prop}
variable {G : GG} {z : Nat} {ad : Nat → Nat} {M : Mem} {cc : ByteArray} {pc : Nat} {ls : Array Slot} {rest : List Value}
theorem iv_ex (hI : Iv G z ad M s H locs) : EX z s := hI.1.2.2.2.2.2.2.2
theorem iv_str (hI : Iv G z ad M s H locs) {k is : Nat} {own text : String} (h : strL[k]? = some (own, is, text)) : vk_R own is text (G.2.2.1 k) s := hI.1.2.2.1 k (own, is, text) h
theorem x_ext (hI : Iv G z ad M s H locs) {E : String} (t : State) (hz : H.size ≤ t.heap.size) (hq : ∀ q : Nat, q < H.size → t.heap[q]? = H[q]?) : xT G z ad M E E s t := ⟨rfl, hd_ext hI.2.1 hq, ⟨Nat.le_trans hI.S.1 hz, fun q h1 h2 => by rw [hq q (Nat.lt_of_lt_of_le h1 hI.S.1)]; exact hI.S.2.1 q h1 h2⟩⟩
theorem k_T {mc ms : Nat} {E : String} {st0 : List Value} (hr : vx_Run p l e R s m args below meth c H locs cells slots mc ms (F0 m pc ls st0) rest (fun (_ : State) (_ : Outcome) (_ : State) => False) (xT G z ad M E) (fr z)) (hI : Iv G z ad M s H locs)
    (kx : ∀ (ce : Cell) (q9 : Addr) (H1 : Heap) (locs1 : List Loc), Iv G z ad M s H1 locs1 → H1[q9]? = some ce → ce.vm = .none → s.vm.findClass E = some ce.cls → vx_W p l e R s m args below meth c H1 locs1 (cells + mc) (slots + ms) Q (F0 m pc ls rest) q9) : W p l e R s m args below meth c H locs cells slots Q (F0 m pc ls st0) := by
  intro T hT X
  rcases hr T hT X with ⟨v, st₀, t, T', L, h0, X', hL, e1, e2, hF, st⟩ | ⟨q, st₀, t, T', L, E', ce, h0, X', hL, e1, e2, ⟨rfl, hH, hF⟩, hce, hcv, hcl, st⟩
  · exact hF.elim
  · obtain ⟨k1, k2, k3⟩ := vx_keep (A0 := fr z) (A1 := fr z) (free := fr z) h0 e1 hI.S (fun _ _ h => h) (fun _ h => h) hL hF
    obtain ⟨t2, a1, b1⟩ := kx ce q T'.heap (locs ++ L) ⟨hI.1, by rw [e1]; exact hH, k3, hI.2.2.2⟩ (by rw [e1]; exact hce) hcv hcl T' rfl X'
    exact ⟨t2, st.trans a1, b1⟩
theorem e_out {E : String} {ce : Cell} {q9 : Addr} {mc ms : Nat} {Qc : Array Value → State → Outcome → State → Prop} (hnt : ∀ x ∈ c.exceptionTable.toList, False) (hlocks : meth.locks = false) (hI : Iv G z ad M s H locs) (hce : H[q9]? = some ce) (hcv : ce.vm = .none) (hcl : s.vm.findClass E = some ce.cls) (hc : cells ≤ mc) (hs : slots ≤ ms) :
    vx_W p l e R s m args below meth c H locs cells slots (vx_MQ below Qc (xT G z ad M E) args s mc ms (fr z)) (F0 m pc ls rest) q9 :=
  vx_out (fun x h => (hnt x h).elim) hlocks hce hcv hcl (fun t ht _ => ⟨rfl, by rw [ht]; exact hI.2.1, hI.S.F ht⟩) hI.S.2.2 hc hs
end TH

theorem ga_O : ∀ w ∈ (vx_atS "LineStore" 264 "java/lang/IndexOutOfBoundsException" nm9).filter goodWord, w ∈ lwg := lwg_m (goodIn_r _ [61, 548, 557, 562, 565, 567, 549, 550, 85, 86, 551, 556, 563, 583, 538, 584, 540, 585, 542, 552, 554, 544, 579, 580,   582, 544, 570, 571, 572, 573, 573, 574, 575, 576, 576, 577, 578, 579, 569, 527, 535, 536, 537, 539, 541, 543, 547,   546, 545] (by decide +kernel) (by decide +kernel)) (by decide +kernel)
theorem gx_O : ∀ w ∈ Cond.classLink "LineStore" 260 "java/lang/IndexOutOfBoundsException" :: Cond.initialized "java/lang/IndexOutOfBoundsException" :: vx_atS "LineStore" 264 "java/lang/IndexOutOfBoundsException" nm9, vx_ot w = true := by decide +kernel
theorem gn_O : ∀ w ∈ (vx_atS "LineStore" 264 "java/lang/IndexOutOfBoundsException" nm9).filter (fun w => !goodWord w), w ∈ [Cond.declares ⟨"java/lang/RuntimeException", "<init>", "(Ljava/lang/String;)V"⟩, Cond.declares ⟨"java/lang/Exception", "<init>", "(Ljava/lang/String;)V"⟩, Cond.declares ⟨"java/lang/Throwable", "<init>", "(Ljava/lang/String;)V"⟩, Cond.castable "java/lang/IndexOutOfBoundsException" "java/lang/IndexOutOfBoundsException"] := by decide +kernel
theorem at_O {cx : Cond} {s : State} {args : Array Value} {G : GG} {z : Nat} {ad : Nat → Nat} {M : Mem} {H : Heap} {locs : List Loc} (hts : ∀ w ∈ cx :: lwg, w.before args s = true) (hI : Iv G z ad M s H locs) : ∀ w ∈ vx_atS "LineStore" 264 "java/lang/IndexOutOfBoundsException" nm9, w.before args s = true :=
  vx_hat (fun w hw => hts w (List.mem_cons_of_mem _ (ga_O w hw))) gn_O (fun w hw => by
    simp only [List.mem_cons, List.not_mem_nil, or_false] at hw
    rcases hw with rfl | rfl | rfl | rfl
    · exact va_Nw.use rfl ((iv_ex hI).1 _ (List.mem_of_getElem? (i := 0) rfl))
    · exact va_Nw.use rfl ((iv_ex hI).1 _ (List.mem_of_getElem? (i := 1) rfl))
    · exact va_Nw.use rfl ((iv_ex hI).1 _ (List.mem_of_getElem? (i := 2) rfl))
    · exact va_Nw.use rfl (hI.1.2.1.2.2 _ (List.mem_of_getElem? (i := 1) rfl)))
section
variable {p : Program} {l : Launch} {e : Env} {R : Room} {s : State} {m : MethodId} {args : Array Value} {below : List Frame} {meth : Method} {c : Code} {H : Heap} {locs : List Loc} {cells slots : Nat} {Q : State → Prop}
variable {G : GG} {z : Nat} {ad : Nat → Nat} {M : Mem} {cc : ByteArray} {pc : Nat} {ls : Array Slot} {rest : List Value}

theorem t_sO (hx : p.tables.exec = Jvm.exec) (hb : c.code = cc) (hst : l.stackTraces = false) (hown : s.vm.findClass "LineStore" = some m.cls) {cx : Cond} (hts : ∀ w ∈ cx :: lwg, w.before args s = true) (hI : Iv G z ad M s H locs) {k is mc ms : Nat} {text : String} (hstr : strL[k]? = some ("LineStore", is, text)) (hk : (Cond.classLink "LineStore" 260 "java/lang/IndexOutOfBoundsException").before args s = true) (hini : (Cond.initialized "java/lang/IndexOutOfBoundsException").before args s = true) (hsize : ls.size = c.maxLocals) {Qc : Array Value → State → Outcome → State → Prop}
    (d0 : decode cc pc = .ok (.new 260, 3)) (d3 : decode cc (pc + 3) = .ok (.dup, 1)) (d4 : decode cc (pc + 4) = .ok (.ldc is, 2)) (d6 : decode cc (pc + 6) = .ok (.invokespecial 264, 3)) (d9 : decode cc (pc + 9) = .ok (.athrow, 1)) (hnt : ∀ x ∈ c.exceptionTable.toList, False)
    (hRf : nm9.length + 3 < R.frames) (hRl : (rest.map fun v => v.category).sum + (13 * (nm9.length + 1) + 43) ≤ R.locals) (hRc : cells + 1 ≤ R.cells) (hRs : slots + 6 ≤ R.slots) (hlocks : meth.locks = false) (hc : cells + 1 ≤ mc) (hs : slots + 6 ≤ ms) :
    W p l e R s m args below meth c H locs cells slots (vx_MQ below Qc (xT G z ad M "java/lang/IndexOutOfBoundsException") args s mc ms (fr z)) (F0 m pc ls rest) :=
  vx_throwS (names := nm9) (sa := G.2.2.1 k) (A := fr z) hx hb hst hown (by decide +kernel) (by decide +kernel) hk hini (iv_str hI hstr) (at_O hts hI) gx_O hI.1.2.2.2.1.1 hI.1.2.2.2.1.2 hI.S hsize d0 d3 d4 d6 d9 (fun x h => (hnt x h).elim) hRf hRl hRc hRs hlocks (fun t _ hz hq => x_ext hI t hz hq) hI.S.2.2 hc hs

theorem t_wO (hx : p.tables.exec = Jvm.exec) (hb : c.code = cc) (hst : l.stackTraces = false) (hown : s.vm.findClass "LineStore" = some m.cls) {cx : Cond} (hts : ∀ w ∈ cx :: lwg, w.before args s = true) (hI : Iv G z ad M s H locs) {k is mc ms : Nat} {text : String} (hstr : strL[k]? = some ("LineStore", is, text)) (hk : (Cond.classLink "LineStore" 260 "java/lang/IndexOutOfBoundsException").before args s = true) (hini : (Cond.initialized "java/lang/IndexOutOfBoundsException").before args s = true) (hsize : ls.size = c.maxLocals) {Qc : Array Value → State → Outcome → State → Prop}
    (d0 : decode cc pc = .ok (.new 260, 3)) (d3 : decode cc (pc + 3) = .ok (.dup, 1)) (d4 : decode cc (pc + 4) = .ok (.ldc_w is, 3)) (d7 : decode cc (pc + 7) = .ok (.invokespecial 264, 3)) (d10 : decode cc (pc + 10) = .ok (.athrow, 1)) (hnt : ∀ x ∈ c.exceptionTable.toList, False)
    (hRf : nm9.length + 3 < R.frames) (hRl : (rest.map fun v => v.category).sum + (13 * (nm9.length + 1) + 43) ≤ R.locals) (hRc : cells + 1 ≤ R.cells) (hRs : slots + 6 ≤ R.slots) (hlocks : meth.locks = false) (hc : cells + 1 ≤ mc) (hs : slots + 6 ≤ ms) :
    W p l e R s m args below meth c H locs cells slots (vx_MQ below Qc (xT G z ad M "java/lang/IndexOutOfBoundsException") args s mc ms (fr z)) (F0 m pc ls rest) :=
  vx_throwSW (names := nm9) (sa := G.2.2.1 k) (A := fr z) hx hb hst hown (by decide +kernel) (by decide +kernel) hk hini (iv_str hI hstr) (at_O hts hI) gx_O hI.1.2.2.2.1.1 hI.1.2.2.2.1.2 hI.S hsize d0 d3 d4 d7 d10 (fun x h => (hnt x h).elim) hRf hRl hRc hRs hlocks (fun t _ hz hq => x_ext hI t hz hq) hI.S.2.2 hc hs

end

theorem ga_A : ∀ w ∈ (vx_atS "LineStore" 97 "java/lang/IllegalArgumentException" nm9).filter goodWord, w ∈ lwg := lwg_m (goodIn_r _ [61, 548, 557, 562, 565, 567, 549, 550, 85, 86, 551, 556, 563, 583, 538, 584, 540, 585, 542, 552, 554, 544, 579, 580,   582, 544, 610, 611, 612, 573, 573, 574, 575, 576, 576, 577, 578, 579, 609, 600, 602, 559, 603, 604, 605, 606, 547,   546, 607] (by decide +kernel) (by decide +kernel)) (by decide +kernel)
theorem gx_A : ∀ w ∈ Cond.classLink "LineStore" 93 "java/lang/IllegalArgumentException" :: Cond.initialized "java/lang/IllegalArgumentException" :: vx_atS "LineStore" 97 "java/lang/IllegalArgumentException" nm9, vx_ot w = true := by decide +kernel
theorem gn_A : ∀ w ∈ (vx_atS "LineStore" 97 "java/lang/IllegalArgumentException" nm9).filter (fun w => !goodWord w), w ∈ [Cond.declares ⟨"java/lang/RuntimeException", "<init>", "(Ljava/lang/String;)V"⟩, Cond.declares ⟨"java/lang/Exception", "<init>", "(Ljava/lang/String;)V"⟩, Cond.declares ⟨"java/lang/Throwable", "<init>", "(Ljava/lang/String;)V"⟩, Cond.castable "java/lang/IllegalArgumentException" "java/lang/IllegalArgumentException"] := by decide +kernel
theorem at_A {cx : Cond} {s : State} {args : Array Value} {G : GG} {z : Nat} {ad : Nat → Nat} {M : Mem} {H : Heap} {locs : List Loc} (hts : ∀ w ∈ cx :: lwg, w.before args s = true) (hI : Iv G z ad M s H locs) : ∀ w ∈ vx_atS "LineStore" 97 "java/lang/IllegalArgumentException" nm9, w.before args s = true :=
  vx_hat (fun w hw => hts w (List.mem_cons_of_mem _ (ga_A w hw))) gn_A (fun w hw => by
    simp only [List.mem_cons, List.not_mem_nil, or_false] at hw
    rcases hw with rfl | rfl | rfl | rfl
    · exact va_Nw.use rfl ((iv_ex hI).1 _ (List.mem_of_getElem? (i := 0) rfl))
    · exact va_Nw.use rfl ((iv_ex hI).1 _ (List.mem_of_getElem? (i := 1) rfl))
    · exact va_Nw.use rfl ((iv_ex hI).1 _ (List.mem_of_getElem? (i := 2) rfl))
    · exact va_Nw.use rfl (hI.1.2.1.2.2 _ (List.mem_of_getElem? (i := 2) rfl)))
section
variable {p : Program} {l : Launch} {e : Env} {R : Room} {s : State} {m : MethodId} {args : Array Value} {below : List Frame} {meth : Method} {c : Code} {H : Heap} {locs : List Loc} {cells slots : Nat} {Q : State → Prop}
variable {G : GG} {z : Nat} {ad : Nat → Nat} {M : Mem} {cc : ByteArray} {pc : Nat} {ls : Array Slot} {rest : List Value}

theorem t_sA (hx : p.tables.exec = Jvm.exec) (hb : c.code = cc) (hst : l.stackTraces = false) (hown : s.vm.findClass "LineStore" = some m.cls) {cx : Cond} (hts : ∀ w ∈ cx :: lwg, w.before args s = true) (hI : Iv G z ad M s H locs) {k is mc ms : Nat} {text : String} (hstr : strL[k]? = some ("LineStore", is, text)) (hk : (Cond.classLink "LineStore" 93 "java/lang/IllegalArgumentException").before args s = true) (hini : (Cond.initialized "java/lang/IllegalArgumentException").before args s = true) (hsize : ls.size = c.maxLocals) {Qc : Array Value → State → Outcome → State → Prop}
    (d0 : decode cc pc = .ok (.new 93, 3)) (d3 : decode cc (pc + 3) = .ok (.dup, 1)) (d4 : decode cc (pc + 4) = .ok (.ldc is, 2)) (d6 : decode cc (pc + 6) = .ok (.invokespecial 97, 3)) (d9 : decode cc (pc + 9) = .ok (.athrow, 1)) (hnt : ∀ x ∈ c.exceptionTable.toList, False)
    (hRf : nm9.length + 3 < R.frames) (hRl : (rest.map fun v => v.category).sum + (13 * (nm9.length + 1) + 43) ≤ R.locals) (hRc : cells + 1 ≤ R.cells) (hRs : slots + 6 ≤ R.slots) (hlocks : meth.locks = false) (hc : cells + 1 ≤ mc) (hs : slots + 6 ≤ ms) :
    W p l e R s m args below meth c H locs cells slots (vx_MQ below Qc (xT G z ad M "java/lang/IllegalArgumentException") args s mc ms (fr z)) (F0 m pc ls rest) :=
  vx_throwS (names := nm9) (sa := G.2.2.1 k) (A := fr z) hx hb hst hown (by decide +kernel) (by decide +kernel) hk hini (iv_str hI hstr) (at_A hts hI) gx_A hI.1.2.2.2.1.1 hI.1.2.2.2.1.2 hI.S hsize d0 d3 d4 d6 d9 (fun x h => (hnt x h).elim) hRf hRl hRc hRs hlocks (fun t _ hz hq => x_ext hI t hz hq) hI.S.2.2 hc hs

theorem t_wA (hx : p.tables.exec = Jvm.exec) (hb : c.code = cc) (hst : l.stackTraces = false) (hown : s.vm.findClass "LineStore" = some m.cls) {cx : Cond} (hts : ∀ w ∈ cx :: lwg, w.before args s = true) (hI : Iv G z ad M s H locs) {k is mc ms : Nat} {text : String} (hstr : strL[k]? = some ("LineStore", is, text)) (hk : (Cond.classLink "LineStore" 93 "java/lang/IllegalArgumentException").before args s = true) (hini : (Cond.initialized "java/lang/IllegalArgumentException").before args s = true) (hsize : ls.size = c.maxLocals) {Qc : Array Value → State → Outcome → State → Prop}
    (d0 : decode cc pc = .ok (.new 93, 3)) (d3 : decode cc (pc + 3) = .ok (.dup, 1)) (d4 : decode cc (pc + 4) = .ok (.ldc_w is, 3)) (d7 : decode cc (pc + 7) = .ok (.invokespecial 97, 3)) (d10 : decode cc (pc + 10) = .ok (.athrow, 1)) (hnt : ∀ x ∈ c.exceptionTable.toList, False)
    (hRf : nm9.length + 3 < R.frames) (hRl : (rest.map fun v => v.category).sum + (13 * (nm9.length + 1) + 43) ≤ R.locals) (hRc : cells + 1 ≤ R.cells) (hRs : slots + 6 ≤ R.slots) (hlocks : meth.locks = false) (hc : cells + 1 ≤ mc) (hs : slots + 6 ≤ ms) :
    W p l e R s m args below meth c H locs cells slots (vx_MQ below Qc (xT G z ad M "java/lang/IllegalArgumentException") args s mc ms (fr z)) (F0 m pc ls rest) :=
  vx_throwSW (names := nm9) (sa := G.2.2.1 k) (A := fr z) hx hb hst hown (by decide +kernel) (by decide +kernel) hk hini (iv_str hI hstr) (at_A hts hI) gx_A hI.1.2.2.2.1.1 hI.1.2.2.2.1.2 hI.S hsize d0 d3 d4 d7 d10 (fun x h => (hnt x h).elim) hRf hRl hRc hRs hlocks (fun t _ hz hq => x_ext hI t hz hq) hI.S.2.2 hc hs

end

theorem ga_U : ∀ w ∈ (vx_atS "LineStore" 135 "java/lang/UnsupportedOperationException" nm9).filter goodWord, w ∈ lwg := lwg_m (goodIn_r _ [61, 548, 557, 562, 565, 567, 549, 550, 85, 86, 551, 556, 563, 583, 538, 584, 540, 585, 542, 552, 554, 544, 579, 580,   582, 544, 683, 684, 685, 573, 573, 574, 575, 576, 576, 577, 578, 579, 682, 673, 675, 560, 676, 677, 678, 679, 547,   546, 680] (by decide +kernel) (by decide +kernel)) (by decide +kernel)
theorem gx_U : ∀ w ∈ Cond.classLink "LineStore" 131 "java/lang/UnsupportedOperationException" :: Cond.initialized "java/lang/UnsupportedOperationException" :: vx_atS "LineStore" 135 "java/lang/UnsupportedOperationException" nm9, vx_ot w = true := by decide +kernel
theorem gn_U : ∀ w ∈ (vx_atS "LineStore" 135 "java/lang/UnsupportedOperationException" nm9).filter (fun w => !goodWord w), w ∈ [Cond.declares ⟨"java/lang/RuntimeException", "<init>", "(Ljava/lang/String;)V"⟩, Cond.declares ⟨"java/lang/Exception", "<init>", "(Ljava/lang/String;)V"⟩, Cond.declares ⟨"java/lang/Throwable", "<init>", "(Ljava/lang/String;)V"⟩, Cond.castable "java/lang/UnsupportedOperationException" "java/lang/UnsupportedOperationException"] := by decide +kernel
theorem at_U {cx : Cond} {s : State} {args : Array Value} {G : GG} {z : Nat} {ad : Nat → Nat} {M : Mem} {H : Heap} {locs : List Loc} (hts : ∀ w ∈ cx :: lwg, w.before args s = true) (hI : Iv G z ad M s H locs) : ∀ w ∈ vx_atS "LineStore" 135 "java/lang/UnsupportedOperationException" nm9, w.before args s = true :=
  vx_hat (fun w hw => hts w (List.mem_cons_of_mem _ (ga_U w hw))) gn_U (fun w hw => by
    simp only [List.mem_cons, List.not_mem_nil, or_false] at hw
    rcases hw with rfl | rfl | rfl | rfl
    · exact va_Nw.use rfl ((iv_ex hI).1 _ (List.mem_of_getElem? (i := 0) rfl))
    · exact va_Nw.use rfl ((iv_ex hI).1 _ (List.mem_of_getElem? (i := 1) rfl))
    · exact va_Nw.use rfl ((iv_ex hI).1 _ (List.mem_of_getElem? (i := 2) rfl))
    · exact va_Nw.use rfl (hI.1.2.1.2.2 _ (List.mem_of_getElem? (i := 3) rfl)))
section
variable {p : Program} {l : Launch} {e : Env} {R : Room} {s : State} {m : MethodId} {args : Array Value} {below : List Frame} {meth : Method} {c : Code} {H : Heap} {locs : List Loc} {cells slots : Nat} {Q : State → Prop}
variable {G : GG} {z : Nat} {ad : Nat → Nat} {M : Mem} {cc : ByteArray} {pc : Nat} {ls : Array Slot} {rest : List Value}

theorem t_sU (hx : p.tables.exec = Jvm.exec) (hb : c.code = cc) (hst : l.stackTraces = false) (hown : s.vm.findClass "LineStore" = some m.cls) {cx : Cond} (hts : ∀ w ∈ cx :: lwg, w.before args s = true) (hI : Iv G z ad M s H locs) {k is mc ms : Nat} {text : String} (hstr : strL[k]? = some ("LineStore", is, text)) (hk : (Cond.classLink "LineStore" 131 "java/lang/UnsupportedOperationException").before args s = true) (hini : (Cond.initialized "java/lang/UnsupportedOperationException").before args s = true) (hsize : ls.size = c.maxLocals) {Qc : Array Value → State → Outcome → State → Prop}
    (d0 : decode cc pc = .ok (.new 131, 3)) (d3 : decode cc (pc + 3) = .ok (.dup, 1)) (d4 : decode cc (pc + 4) = .ok (.ldc is, 2)) (d6 : decode cc (pc + 6) = .ok (.invokespecial 135, 3)) (d9 : decode cc (pc + 9) = .ok (.athrow, 1)) (hnt : ∀ x ∈ c.exceptionTable.toList, False)
    (hRf : nm9.length + 3 < R.frames) (hRl : (rest.map fun v => v.category).sum + (13 * (nm9.length + 1) + 43) ≤ R.locals) (hRc : cells + 1 ≤ R.cells) (hRs : slots + 6 ≤ R.slots) (hlocks : meth.locks = false) (hc : cells + 1 ≤ mc) (hs : slots + 6 ≤ ms) :
    W p l e R s m args below meth c H locs cells slots (vx_MQ below Qc (xT G z ad M "java/lang/UnsupportedOperationException") args s mc ms (fr z)) (F0 m pc ls rest) :=
  vx_throwS (names := nm9) (sa := G.2.2.1 k) (A := fr z) hx hb hst hown (by decide +kernel) (by decide +kernel) hk hini (iv_str hI hstr) (at_U hts hI) gx_U hI.1.2.2.2.1.1 hI.1.2.2.2.1.2 hI.S hsize d0 d3 d4 d6 d9 (fun x h => (hnt x h).elim) hRf hRl hRc hRs hlocks (fun t _ hz hq => x_ext hI t hz hq) hI.S.2.2 hc hs

theorem t_wU (hx : p.tables.exec = Jvm.exec) (hb : c.code = cc) (hst : l.stackTraces = false) (hown : s.vm.findClass "LineStore" = some m.cls) {cx : Cond} (hts : ∀ w ∈ cx :: lwg, w.before args s = true) (hI : Iv G z ad M s H locs) {k is mc ms : Nat} {text : String} (hstr : strL[k]? = some ("LineStore", is, text)) (hk : (Cond.classLink "LineStore" 131 "java/lang/UnsupportedOperationException").before args s = true) (hini : (Cond.initialized "java/lang/UnsupportedOperationException").before args s = true) (hsize : ls.size = c.maxLocals) {Qc : Array Value → State → Outcome → State → Prop}
    (d0 : decode cc pc = .ok (.new 131, 3)) (d3 : decode cc (pc + 3) = .ok (.dup, 1)) (d4 : decode cc (pc + 4) = .ok (.ldc_w is, 3)) (d7 : decode cc (pc + 7) = .ok (.invokespecial 135, 3)) (d10 : decode cc (pc + 10) = .ok (.athrow, 1)) (hnt : ∀ x ∈ c.exceptionTable.toList, False)
    (hRf : nm9.length + 3 < R.frames) (hRl : (rest.map fun v => v.category).sum + (13 * (nm9.length + 1) + 43) ≤ R.locals) (hRc : cells + 1 ≤ R.cells) (hRs : slots + 6 ≤ R.slots) (hlocks : meth.locks = false) (hc : cells + 1 ≤ mc) (hs : slots + 6 ≤ ms) :
    W p l e R s m args below meth c H locs cells slots (vx_MQ below Qc (xT G z ad M "java/lang/UnsupportedOperationException") args s mc ms (fr z)) (F0 m pc ls rest) :=
  vx_throwSW (names := nm9) (sa := G.2.2.1 k) (A := fr z) hx hb hst hown (by decide +kernel) (by decide +kernel) hk hini (iv_str hI hstr) (at_U hts hI) gx_U hI.1.2.2.2.1.1 hI.1.2.2.2.1.2 hI.S hsize d0 d3 d4 d7 d10 (fun x h => (hnt x h).elim) hRf hRl hRc hRs hlocks (fun t _ hz hq => x_ext hI t hz hq) hI.S.2.2 hc hs

end
