/-! the list's growth -/
/-- a start that also knows the mirror of the class of arrays of objects -/
def Pr2 (G : GG) (z : Nat) (ad : Nat → Nat) (M : Mem) (mi : Nat) (av : List Value) : Array Value → State → Prop := va_Pc av (fun U => (vK G z U ∧ Hd G z ad M U.heap ∧ z ≤ U.heap.size) ∧ va_Mi "[Ljava/lang/Object;" mi U)
theorem Pr2.blind {G : GG} {z : Nat} {ad : Nat → Nat} {M : Mem} {mi : Nat} {av : List Value} : FrameBlind (Pr2 G z ad M mi av) := fun a U g mk q => by
  obtain ⟨q0, ⟨qK, qH, qz⟩, qm⟩ := q
  exact ⟨q0, ⟨vK.same (U := U.calling g mk a) qK rfl rfl, qH, qz⟩, qm⟩
section LG
variable {p : Program} {l : Launch} {e : Env} {R : Room} {s : State} {m : MethodId} {args : Array Value} {below : List Frame} {meth : Method} {c : Code} {H : Heap} {locs : List Loc} {cells slots : Nat} {Q : State → Prop}
variable {G : GG} {z : Nat} {ad : Nat → Nat} {M : Mem} {cc : ByteArray} {pc : Nat} {ls : Array Slot} {rest : List Value}
theorem Iv.preS2 (hI : Iv G z ad M s H locs) {mi : Nat} (hmi : va_Mi "[Ljava/lang/Object;" mi s) {As : List Value} : PreS s H (Pr2 G z ad M mi As) As :=
  ⟨Pr2.blind, fun U hU hW => ⟨rfl, ⟨hI.1.to hW (fun a h1 h2 => by rw [hU]; exact hI.2.2.1.2.1 a h1 h2), by rw [hU]; exact hI.2.1, by rw [hU]; exact Nat.le_trans hI.2.2.2 hI.2.2.1.1⟩, va_Mi.moved hW.alike hmi⟩⟩
theorem iv_mi (hI : Iv G z ad M s H locs) : ∃ mi : Nat, va_Mi "[Ljava/lang/Object;" mi s := (iv_ex hI).2.2.2.1
theorem iv_eT (hI : Iv G z ad M s H locs) : va_T (.object "java/lang/Object") G.2.2.2.2 0 (fun _ => .null) (fr z) s s.heap := hI.1.2.2.2.2.2.2.1
theorem iv_cA (hI : Iv G z ad M s H locs) : s.vm.findClass ("[" ++ (FieldType.object "java/lang/Object").toString) = some (G.2.1 4) := by
  obtain ⟨_, _, -, -, -, h⟩ := (hI.1.1.2 4 (G.2.1 4, .object "java/lang/Object") rfl).2
  exact h
theorem iv_recvA (hI : Iv G z ad M s H locs) {k n : Nat} {f : Nat → Option Nat} (hk : M k = some (aO G n f)) : ∃ cell : Cell, H[ad k]? = some cell ∧ cell.vm.isStatics = false ∧ s.vm.findClass "[Ljava/lang/Object;" = some cell.cls :=
  ⟨_, hI.2.1.one hk 0 _ rfl, rfl, iv_cA hI⟩
theorem h_alenq (hx : p.tables.exec = Jvm.exec) (hb : c.code = cc) (hI : Iv G z ad M s H locs) {k n : Nat} {f : Nat → Option Nat} (hk : M k = some (aO G n f)) (hdg : decode cc pc = .ok (.arraylength, 1))
    (kk : W p l e R s m args below meth c H locs cells slots Q (F0 m (pc + 1) ls (.int (nI n) :: rest))) : W p l e R s m args below meth c H locs cells slots Q (F0 m pc ls (.ref (ad k) :: rest)) :=
  va_alen (D := G.1) (cl := vwCl) (tys := cty G) (ws := [(ad k, aO G n f)]) hx hb hI.1.1 (hI.2.1.one hk) 0 4 rfl rfl rfl hdg kk
theorem h_newq (hx : p.tables.exec = Jvm.exec) (hb : c.code = cc) {own : String} {index : Nat} (hown : s.vm.findClass own = some m.cls) (hcl : (Cond.classLink own index "java/lang/Object").before args s = true) (hI : Iv G z ad M s H locs) {n : Nat} (hn : n < 2 ^ 20) (hcells : cells + 1 ≤ R.cells) (hslots : slots + n ≤ R.slots) (hdg : decode cc pc = .ok (.anewarray index, 3)) (k : Nat) (hk : M k = none)
    (kk : ∀ (ad1 : Nat → Nat) (M1 : Mem) (H1 : Heap), (∃ q, ad1 = va_up ad k q) → M1 = va_up M k (some (aO G n (fun _ => none))) → Iv G z ad1 M1 s H1 locs → W p l e R s m args below meth c H1 locs (cells + 1) (slots + n) Q (F0 m (pc + 3) ls (.ref (ad1 k) :: rest))) : W p l e R s m args below meth c H locs cells slots Q (F0 m pc ls (.int (nI n) :: rest)) := by
  have hcA := iv_cA hI
  have hAO := (iv_ex hI).2.2.1
  obtain ⟨hK, ⟨dom, hnd, hd, hP, hD⟩, hS, hz⟩ := hI
  have hn' : n < 2 ^ 31 := by omega
  refine va_newq (D := G.1) (cl := vwCl) (tys := cty G) (N' := n) hx hb hown hcl hAO hK.1 hP hD hS (fun q hq => Nat.le_trans hz hq) (nI_pos hn') (nI_clamp hn') (by omega) hcells hslots hdg (fun q cA H1 hK1 hP1 hD1 hS1 => ?_)
  obtain ⟨_, _, -, -, -, h1⟩ := (hK1.2 (cty G).length (cA, .object "java/lang/Object") (by simp)).2
  have hc : cA = G.2.1 4 := Option.some.inj (h1.symm.trans hcA)
  subst hc
  have := kk (va_up ad k q) _ H1 ⟨q, rfl⟩ rfl ⟨hK, Hd.new hnd hd hk hP1 hD1, hS1, hz⟩
  rw [va_up_self] at this
  exact this
theorem h_aast (hx : p.tables.exec = Jvm.exec) (hb : c.code = cc) (hI : Iv G z ad M s H locs) {k kv n : Nat} {f : Nat → Option Nat} {vs : List Value} (hk : M k = some (aO G n f)) (hv : M kv = some (.inr (3, vs))) (h3 : vwCl[3]? = some (RX2, TX2, 4)) {i : Nat} (hi : i < n) (hn : n < 2 ^ 31) (hdg : decode cc pc = .ok (.aastore, 1))
    (kk : ∀ (M1 : Mem) (H1 : Heap) (locs1 : List Loc), M1 = va_up M k (some (aO G n (va_up f i (some (ad kv))))) → Iv G z ad M1 s H1 locs1 → W p l e R s m args below meth c H1 locs1 cells slots Q (F0 m (pc + 1) ls rest)) : W p l e R s m args below meth c H locs cells slots Q (F0 m pc ls (.ref (ad kv) :: .int (nI i) :: .ref (ad k) :: rest)) := by
  have hca := hI.1.2.1.2.2 _ (List.mem_of_getElem? (i := 0) (l := nwC) rfl)
  obtain ⟨hK, ⟨dom, hnd, hd, hP, hD⟩, hS, hz⟩ := hI
  obtain ⟨q0, hq, hq0⟩ := vwl_at (ad := ad) hd hk
  obtain ⟨q1, hq1, hq2⟩ := vwl_at (ad := ad) hd hv
  exact va_astqO (D := G.1) (cl := vwCl) (tys := cty G) (E := "java/lang/Object") hx hb hK.1 hP hD hS q0 4 q1 3 hq0 rfl hca hq2 h3 (vp_in_nI hi hn) hdg (fun H1 locs1 hP1 hD1 hS1 => by
    rw [nI_clamp (Nat.lt_trans hi hn)] at hP1 hD1
    exact kk _ H1 locs1 rfl ⟨hK, Hd.up (e := aO G n f) hnd hd hq hP1 hD1, hS1, hz⟩)
theorem h_copyq (hx : p.tables.exec = Jvm.exec) (hb : c.code = cc) (hml : c.maxLocals = ls.size) {own : String} {index : Nat} (hown : s.vm.findClass own = some m.cls) (hlink : (Cond.methodLink own index arraycopyName).before args s = true) (hnat : (Cond.native arraycopyName).before args s = true) (hstat : (Cond.static arraycopyName).before args s = true) (hini : (Cond.initialized "java/lang/System").before args s = true)
    (hI : Iv G z ad M s H locs) {k0 k1 n0 n1 : Nat} {f g : Nat → Option Nat} (h0 : M k0 = some (aO G n0 f)) (h1 : M k1 = some (aO G n1 g)) {n : Nat} (hn0 : n ≤ n0) (hn1 : n ≤ n1) (hn : n < 2 ^ 31) (hel : ∀ i, i < n → ∃ kv vs, f i = some (ad kv) ∧ M kv = some (.inr (3, vs)))
    (hframes : 1 ≤ R.frames) (hlocals : (rest.map fun v => v.category).sum + (nativeFrameWords "java/lang/System" "arraycopy" 5 + 11) ≤ R.locals) (hdg : decode cc pc = .ok (.invokestatic index, 3))
    (kk : ∀ (M1 : Mem) (H1 : Heap) (locs1 : List Loc), M1 = va_up M k1 (some (aO G n1 (va_cpy f g 0 0 n))) → Iv G z ad M1 s H1 locs1 → W p l e R s m args below meth c H1 locs1 cells slots Q (F0 m (pc + 3) ls rest)) : W p l e R s m args below meth c H locs cells slots Q (F0 m pc ls (.int (nI n) :: .int (nI 0) :: .ref (ad k1) :: .int (nI 0) :: .ref (ad k0) :: rest)) := by
  have hca := hI.1.2.1.2.2 _ (List.mem_of_getElem? (i := 0) (l := nwC) rfl)
  have hel2 : ∀ i, i < n → ∀ y : Nat, f i = some y → ∃ cellV : Cell, H[y]? = some cellV ∧ cellV.vm.isStatics = false ∧ s.vm.findClass "LineStore$Line" = some cellV.cls := fun i hi y hy => by
    obtain ⟨kv, vs, e1, e2⟩ := hel i hi
    rw [e1] at hy
    cases hy
    exact va_recv hI.1.1 (hI.2.1.one e2) (q := (RX2, TX2, 4)) rfl (q0 := 0) rfl
  obtain ⟨hK, ⟨dom, hnd, hd, hP, hD⟩, hS, hz⟩ := hI
  obtain ⟨q0, hq0, hw0⟩ := vwl_at (ad := ad) hd h0
  obtain ⟨q1, hq1, hw1⟩ := vwl_at (ad := ad) hd h1
  have c0 : (nI 0).toNatClampNeg = 0 := nI_clamp (by decide)
  have cn : (nI n).toNatClampNeg = n := nI_clamp hn
  refine va_copyq (D := G.1) (cl := vwCl) (tys := cty G) (E0 := "java/lang/Object") (E1 := "java/lang/Object") (C := "LineStore$Line") hx hb hml hown hlink hnat hstat hini hK.1 hP hD hS q0 q1 4 4 hw0 hw1 rfl rfl (by decide) (by decide) (nI_pos hn) (by rw [c0, cn]; omega) (by rw [c0, cn]; omega) (fun i hi y hy => by rw [cn] at hi; rw [c0, Nat.zero_add] at hy; exact hel2 i hi y hy) (fun comp cc0 h2 h3 => by
    obtain ⟨x1, x2, f1, f2, f3⟩ := Cond.castable_spec (va_Nw.use (A := args) rfl hca)
    cases Option.some.inj (f1.symm.trans h3)
    cases Option.some.inj (f2.symm.trans h2)
    exact f3) hframes hlocals hdg (fun H1 locs1 hP1 hD1 hS1 => ?_)
  rw [c0, cn] at hP1 hD1
  exact kk _ H1 locs1 rfl ⟨hK, Hd.up (e := aO G n1 g) hnd hd hq1 hP1 hD1, hS1, hz⟩
/-- the array at 29 becomes the one at 18 -/
theorem iv_ren {ad1 : Nat → Nat} (hI : Iv G z ad1 M s H locs) (had : ∀ j, j ≠ 29 → ad1 j = ad j) {c29 : va_E} (h29 : M 29 = some c29) : Iv G z (va_up ad 18 (ad1 29)) (va_up (va_up M 29 none) 18 (some c29)) s H locs := by
  refine ⟨hI.1, ?_, hI.2.2⟩
  obtain ⟨dom, hnd, hd, -⟩ := hI.2.1
  refine hI.2.1.re (fun k => if k = 18 then 29 else k) (18 :: dom.filter (fun k => decide (k ≠ 18) && decide (k ≠ 29))) ?_ (fun k => ?_) (fun i j hi hj e => ?_) (fun k hk => ?_)
  · refine List.nodup_cons.mpr ⟨fun h => ?_, hnd.sublist List.filter_sublist⟩
    have := (List.mem_filter.mp h).2
    simp at this
  · rw [List.mem_cons, List.mem_filter, hd k]
    by_cases e : k = 18
    · subst e; rw [va_up_self]; simp
    · rw [va_up_ne _ _ e]
      by_cases e2 : k = 29
      · subst e2; rw [va_up_self]; simp
      · rw [va_up_ne _ _ e2]; simp [e, e2]
  · have key : ∀ i, va_up (va_up M 29 none) 18 (some c29) i ≠ none → i ≠ 29 := fun i hi e => by subst e; rw [va_up_ne _ _ (by decide), va_up_self] at hi; exact hi rfl
    have ki := key i hi
    have kj := key j hj
    by_cases e1 : i = 18 <;> by_cases e2 : j = 18
    · rw [e1, e2]
    · simp only [e1, e2, if_true, if_false] at e; exact absurd e.symm kj
    · simp only [e1, e2, if_true, if_false] at e; exact absurd e ki
    · simp only [e1, e2, if_false] at e; exact e
  · by_cases e : k = 18
    · subst e; rw [if_pos rfl, va_up_self, va_up_self]; exact ⟨h29, rfl⟩
    · rw [if_neg e, va_up_ne _ _ e, va_up_ne _ _ e]
      by_cases e2 : k = 29
      · subst e2; rw [va_up_ne _ _ (by decide), va_up_self] at hk; exact absurd rfl hk
      · rw [va_up_ne _ _ e2]; exact ⟨rfl, (had k e2).symm⟩
theorem h_getS (hx : p.tables.exec = Jvm.exec) (hb : c.code = cc) {own ref C : String} {T : u_T} {N ci index : Nat} {Ts : List Cond} (hts : ∀ w ∈ Ts, w.before args s = true) (hin : ∀ w ∈ u_ws C T N, w ∈ Ts) (hown : s.vm.findClass own = some m.cls) (hI : Iv G z ad M s H locs) {k : Nat} {fs : List Value} (hk : M k = some (.inr (ci, fs))) (hc : vwCl[ci]? = some (C, T, N)) (j : Nat) (hj : j < N)
    (hlink : (Cond.fieldLink own index ref (T j).2.1 (T j).2.2.1).before args s = true) (hsame : ∀ x, s.fieldFound? (T j).1 (T j).2.1 (T j).2.2.1 = some x → s.fieldFound? ref (T j).2.1 (T j).2.2.1 = some x) {v : Value} (hv : fs[j]? = some v) (hdg : decode cc pc = .ok (.getfield index, 3))
    (kk : W p l e R s m args below meth c H locs cells slots Q (F0 m (pc + 3) ls (v :: rest))) : W p l e R s m args below meth c H locs cells slots Q (F0 m pc ls (.ref (ad k) :: rest)) :=
  va_get (D := G.1) (cl := vwCl) (tys := cty G) (ws := [(ad k, .inr (ci, fs))]) (C := C) (T := T) (N := N) hx hb hts hin hown hI.1.1 (hI.2.1.one hk) 0 rfl hc j hj hlink hsame hv hdg kk
theorem h_putS (hx : p.tables.exec = Jvm.exec) (hb : c.code = cc) {own ref C : String} {T : u_T} {N ci index : Nat} {Ts : List Cond} (hts : ∀ w ∈ Ts, w.before args s = true) (hin : ∀ w ∈ u_ws C T N, w ∈ Ts) (ty0 : Nat → FieldType) (hty : ∀ k, k < N → parseFieldDescriptor (T k).2.2.1 = some (ty0 k)) (hnm : ∀ a, a < N → ∀ b, b < N → a ≠ b → (T a).2.1 ≠ (T b).2.1)
    (hown : s.vm.findClass own = some m.cls) (hI : Iv G z ad M s H locs) {k : Nat} {fs : List Value} (hk : M k = some (.inr (ci, fs))) (hc : vwCl[ci]? = some (C, T, N)) (j : Nat) (hj : j < N)
    (hlink : (Cond.fieldLink own index ref (T j).2.1 (T j).2.2.1).before args s = true) (hsame : ∀ x, s.fieldFound? (T j).1 (T j).2.1 (T j).2.2.1 = some x → s.fieldFound? ref (T j).2.1 (T j).2.2.1 = some x) (hfin : (T j).2.2.2 = false) {v : Value} (hn : narrow (ty0 j) v = v) (hfit : fits (ty0 j) v = true) (hl : j < fs.length) (hdg : decode cc pc = .ok (.putfield index, 3))
    (kk : ∀ (M1 : Mem) (H1 : Heap) (locs1 : List Loc), M1 = va_up M k (some (.inr (ci, fs.set j v))) → Iv G z ad M1 s H1 locs1 → W p l e R s m args below meth c H1 locs1 cells slots Q (F0 m (pc + 3) ls rest)) : W p l e R s m args below meth c H locs cells slots Q (F0 m pc ls (v :: .ref (ad k) :: rest)) := by
  obtain ⟨hK, ⟨dom, hnd, hd, hP, hD⟩, hS, hz⟩ := hI
  obtain ⟨q0, hq, hq0⟩ := vwl_at (ad := ad) hd hk
  exact va_put (D := G.1) (cl := vwCl) (tys := cty G) (C := C) (T := T) (N := N) hx hb hts hin ty0 hty hnm hown hK.1 hP hD hS q0 hq0 hc j hj hlink hsame hfin (hty j hj) hn hfit hl hdg (fun H1 locs1 hP1 hD1 hS1 => kk _ H1 locs1 rfl ⟨hK, Hd.up (e := .inr (ci, fs)) hnd hd hq hP1 hD1, hS1, hz⟩)
end LG
theorem nl_half : ∀ n, n < 120 → nI n >>> (nI 1 &&& 31) = nI (n / 2) := by decide +kernel
theorem nl_max : ∀ n, n < 120 → (if nI 1 < nI (n / 2) then nI (n / 2) else nI 1) = nI (max 1 (n / 2)) := by decide +kernel
theorem nl_big {k : Nat} (h : k ≤ 1000) : ¬ (2147483639 : Int32) < nI k := fun h2 => by
  rw [Int32.lt_iff_toInt_lt, nI_toInt (by omega)] at h2
  have : (2147483639 : Int32).toInt = 2147483639 := by decide
  omega
theorem nl_min {n k : Nat} (h : n ≤ k) (hk : k ≤ 1000) : (if nI k < nI n then nI k else nI n) = nI n := by
  by_cases e : n = k
  · subst e; split <;> rfl
  · exact if_neg (fun h2 => by have := (nI_ltI (by omega) (by omega)).mp h2; omega)

/-- J8_newLength_cabcc -/
abbrev rm_c_J8_newLength_cabcc : Room := { frames := 1, cells := 0, slots := 0, locals := 30 }
set_option maxHeartbeats 4000000 in
set_option maxRecDepth 100000 in
theorem c_J8_newLength_cabcc (l : Launch) (G : GG) (z : Nat) (ad : Nat → Nat) (M : Mem) {n : Nat}  (hn : 0 < n ∧ n < 120) : Met l yJ8_newLength_cabcc wsJ8_newLength_cabcc rm_c_J8_newLength_cabcc (Pr G z ad M [.int (nI n), .int (nI 1), .int (nI (n / 2))]) (vp_Si (fun r : Int32 => r = nI (n + max 1 (n / 2)))) 0 0 (fun _ => False) := by
  refine Met.ofW (cc := cJ8_newLength_cabcc) (maxL := 4) (ret := (some .int)) (by decide) rfl ?_
  intro p e s m args below meth c s₁ B hml hv
  obtain ⟨rfl, hv⟩ := hv
  have hI := Iv.entry hv
  have hx := B.exec
  have hb := B.bytes
  have hr := B.returns
  have hts := atoms_spec (ws := wsJ8_newLength_cabcc) B.pre
  have hown : s.vm.findClass RJ8 = some m.cls := findClass_of_methodNamed B.named
  have hlocks := B.notSynchronized
  have m_194 := hts _ (List.mem_cons_of_mem _ (lwg_of t_772 rfl))
  have s_mmax := hts _ (List.mem_cons_of_mem _ (lwg_of t_737 rfl))
  have s_mi := hts _ (List.mem_cons_of_mem _ (lwg_of t_14 rfl))
  have s_mcmax := hts _ (List.mem_cons_of_mem _ (lwg_of t_738 rfl))
  have k_200 := hts _ (List.mem_cons_of_mem _ (lwg_of t_773 rfl))
  have hl := lv_entry ([.int (nI n), .int (nI 1), .int (nI (n / 2))]) (n := 4) (Nat.le_of_ble_eq_true rfl)
  rw [lg_entry_eq]
  generalize (lg_sl ([.int (nI n), .int (nI 1), .int (nI (n / 2))]) ++ List.replicate (4 - (lg_sl ([.int (nI n), .int (nI 1), .int (nI (n / 2))])).length) Slot.unset).toArray = ls at hl ⊢
  have hl : lv_has ls 4 [(0, .int (nI n)), (1, .int (nI 1)), (2, .int (nI (n / 2)))] := hl
  refine lv_iload_n hx hb dJ8_newLength_cabcc_0 rfl (lv_at hl 0 rfl) ?_
  refine lv_iload_n hx hb dJ8_newLength_cabcc_1 rfl (lv_at hl 1 rfl) ?_
  refine lv_iload_n hx hb dJ8_newLength_cabcc_2 rfl (lv_at hl 2 rfl) ?_
  refine va_mmax hx hb (by rw [hml]; exact hl.1.symm) hown m_194 s_mmax s_mi s_mcmax (Nat.le_of_ble_eq_true rfl) (Nat.le_of_ble_eq_true rfl) (Nat.le_of_ble_eq_true rfl) (Nat.le_of_ble_eq_true rfl) dJ8_newLength_cabcc_3 ?_
  refine n_eq (show _ = nI (max 1 (n / 2)) from nl_max n hn.2) ?_
  refine lv_iadd hx hb dJ8_newLength_cabcc_6 ?_
  refine n_eq (nI_add n (max 1 (n / 2))) ?_
  refine lv_istore_n (lv' := [(3, .int (nI (n + (max 1 (n / 2))))), (0, .int (nI n)), (1, .int (nI 1)), (2, .int (nI (n / 2)))]) hx hb dJ8_newLength_cabcc_7 rfl hl (by decide) rfl (fun ls hl => ?_)
  refine lv_iconst (v := nI 0) hx hb dJ8_newLength_cabcc_8 (by decide) ?_
  refine lv_iload_n hx hb dJ8_newLength_cabcc_9 rfl (lv_at hl 0 rfl) ?_
  refine lv_icmp_ge (tgt := 21) hx hb dJ8_newLength_cabcc_10 (by decide) (fun c_1 => ?_) (fun c_1 => ?_)
  · -- 10: nI 0 ge
    have c_1 : n + (max 1 (n / 2)) ≤ 0 := (nI_leI (a := n + (max 1 (n / 2))) (b := 0) (by omega) (by omega)).mp (c_1)
    omega
  · -- 10: nI 0 lt
    have c_1 : 0 < n + (max 1 (n / 2)) := by have h := mt (nI_leI (a := n + (max 1 (n / 2))) (b := 0) (by omega) (by omega)).mpr c_1; omega
    refine lv_iload_n hx hb dJ8_newLength_cabcc_13 rfl (lv_at hl 0 rfl) ?_
    refine lv_ldc hx hb hown k_200 dJ8_newLength_cabcc_14 ?_
    refine lv_icmp_gt (tgt := 21) hx hb dJ8_newLength_cabcc_16 (by decide) (fun c_2 => ?_) (fun c_2 => ?_)
    · -- 16: nI (n + (max 1 (n / 2))) gt
      exact absurd (by assumption) (nl_big (by omega))
    · -- 16: nI (n + (max 1 (n / 2))) le
      refine lv_iload_n hx hb dJ8_newLength_cabcc_19 rfl (lv_at hl 0 rfl) ?_
      exact e_Ri hx hb hr rfl hlocks (rfl) dJ8_newLength_cabcc_20

/-- J7_copyOf_6403c -/
abbrev rm_c_J7_copyOf_6403c : Room := { frames := 1, cells := 1, slots := 200, locals := 60 }
set_option maxHeartbeats 4000000 in
set_option maxRecDepth 100000 in
theorem c_J7_copyOf_6403c (l : Launch) (G : GG) (z : Nat) (ad : Nat → Nat) (M : Mem) {n : Nat} {lf : Nat → Option Nat} {mi : Nat} (h18 : M 18 = some (aO G n lf)) (hn : 0 < n ∧ n < 120) (hel : ∀ i, i < n → ∃ kv vs, lf i = some (ad kv) ∧ M kv = some (.inr (3, vs)) ∧ kv ≠ 29) (fre0 : M 29 = none) : Met l yJ7_copyOf_6403c wsJ7_copyOf_6403c rm_c_J7_copyOf_6403c (Pr2 G z ad M mi [.ref (ad 18), .int (nI (n + max 1 (n / 2))), .ref mi]) (Aq G z (fun (r : Option Nat) (u : (Nat → Nat) × Mem) => r = some (u.1 29) ∧ u.2 29 = some (aO G (n + max 1 (n / 2)) (va_cpy lf (fun _ => none) 0 0 n)) ∧ (∀ j : Nat, j ≠ 29 → u.2 j = M j) ∧ (∀ j : Nat, j ≠ 29 → u.1 j = ad j))) 1 200 (fr z) := by
  refine Met.ofW (cc := cJ7_copyOf_6403c) (maxL := 4) (ret := (some (.array (.object "java/lang/Object")))) (by decide) rfl ?_
  intro p e s m args below meth c s₁ B hml hv
  obtain ⟨rfl, hv, hmi⟩ := hv
  have hI := Iv.entry hv
  have hx := B.exec
  have hb := B.bytes
  have hr := B.returns
  have hts := atoms_spec (ws := wsJ7_copyOf_6403c) B.pre
  have hown : s.vm.findClass RJ7 = some m.cls := findClass_of_methodNamed B.named
  have hlocks := B.notSynchronized
  have k_110 := hts _ (List.mem_cons_of_mem _ (lwg_of t_803 rfl))
  have nw_c2 := hts _ (List.mem_cons_of_mem _ (lwg_of t_805 rfl))
  have m_304 := hts _ (List.mem_cons_of_mem _ (lwg_of t_806 rfl))
  have s_mmin := hts _ (List.mem_cons_of_mem _ (lwg_of t_740 rfl))
  have s_mi := hts _ (List.mem_cons_of_mem _ (lwg_of t_14 rfl))
  have s_mcmin := hts _ (List.mem_cons_of_mem _ (lwg_of t_741 rfl))
  have m_150 := hts _ (List.mem_cons_of_mem _ (lwg_of t_807 rfl))
  have n_ac := hts _ (List.mem_cons_of_mem _ (lwg_of t_652 rfl))
  have s_ac := hts _ (List.mem_cons_of_mem _ (lwg_of t_651 rfl))
  have i_sy := hts _ (List.mem_cons_of_mem _ (lwg_of t_22 rfl))
  have hl := lv_entry ([.ref (ad 18), .int (nI (n + max 1 (n / 2))), .ref mi]) (n := 4) (Nat.le_of_ble_eq_true rfl)
  rw [lg_entry_eq]
  generalize (lg_sl ([.ref (ad 18), .int (nI (n + max 1 (n / 2))), .ref mi]) ++ List.replicate (4 - (lg_sl ([.ref (ad 18), .int (nI (n + max 1 (n / 2))), .ref mi])).length) Slot.unset).toArray = ls at hl ⊢
  have hl : lv_has ls 4 [(0, .ref (ad 18)), (1, .int (nI (n + max 1 (n / 2)))), (2, .ref mi)] := hl
  refine lv_aload_n hx hb dJ7_copyOf_6403c_0 rfl (lv_at hl 2 rfl) ?_
  refine va_ldcM hx hb hown k_110 hmi dJ7_copyOf_6403c_1 ?_
  refine lv_acmp_ne (tgt := 13) (rx := some (mi)) (ry := some (mi)) hx hb dJ7_copyOf_6403c_3 (by decide) (fun c_1 => ?_) (fun c_1 => ?_)
  · skip
    exact absurd rfl c_1
  · skip
    refine lv_iload_n hx hb dJ7_copyOf_6403c_6 rfl (lv_at hl 1 rfl) ?_
    refine h_newq (n := n + max 1 (n / 2)) hx hb hown nw_c2 hI (by omega) (Nat.le_of_ble_eq_true rfl) (show 0 + (n + max 1 (n / 2)) ≤ 200 by omega) dJ7_copyOf_6403c_7 29 fre0 (fun ad_2 M_3 H_4 hA_5 eM_6 hI => ?_)
    have hAd_8 : ∀ j : Nat, j ≠ 29 → ad_2 j = ad j := fun j hj => by obtain ⟨q, e⟩ := hA_5; rw [e]; exact va_up_ne _ _ hj
    have hm_9 : M_3 29 = some (aO G (n + max 1 (n / 2)) (fun _ => none)) := by rw [eM_6]; exact va_up_self _ _ _
    have hm_10 : M_3 18 = some (aO G n lf) := by rw [eM_6, va_up_ne _ _ (by decide), h18]
    have hF_11 : ∀ j : Nat, j ≠ 29 → M_3 j = M j := fun j q0 => by rw [eM_6, va_up_ne _ _ q0]
    refine W.widen (k := 1) (n := 200) (Nat.le_refl _) (show 0 + (n + max 1 (n / 2)) ≤ 200 by omega) ?_
    refine lv_goto (tgt := 24) hx hb dJ7_copyOf_6403c_10 (by decide) ?_
    refine lv_astore_n (lv' := [(3, .ref (ad_2 29)), (0, .ref (ad 18)), (1, .int (nI (n + max 1 (n / 2)))), (2, .ref mi)]) hx hb dJ7_copyOf_6403c_24 rfl hl (by decide) rfl (fun ls hl => ?_)
    refine lv_aload_n hx hb dJ7_copyOf_6403c_25 rfl (lv_at hl 1 rfl) ?_
    refine n_eqv (show Value.ref (ad 18) = .ref (ad_2 18) from by rw [hAd_8 18 (by decide)]) ?_
    refine lv_iconst (v := nI 0) hx hb dJ7_copyOf_6403c_26 (by decide) ?_
    refine lv_aload_n hx hb dJ7_copyOf_6403c_27 rfl (lv_at hl 0 rfl) ?_
    refine lv_iconst (v := nI 0) hx hb dJ7_copyOf_6403c_28 (by decide) ?_
    refine lv_aload_n hx hb dJ7_copyOf_6403c_29 rfl (lv_at hl 1 rfl) ?_
    refine n_eqv (show Value.ref (ad 18) = .ref (ad_2 18) from by rw [hAd_8 18 (by decide)]) ?_
    refine h_alenq hx hb hI hm_10 dJ7_copyOf_6403c_30 ?_
    refine lv_iload_n hx hb dJ7_copyOf_6403c_31 rfl (lv_at hl 2 rfl) ?_
    refine va_mmin hx hb (by rw [hml]; exact hl.1.symm) hown m_304 s_mmin s_mi s_mcmin (Nat.le_of_ble_eq_true rfl) (Nat.le_of_ble_eq_true rfl) (Nat.le_of_ble_eq_true rfl) (Nat.le_of_ble_eq_true rfl) dJ7_copyOf_6403c_32 ?_
    refine n_eq (show _ = nI n from nl_min (by omega) (by omega)) ?_
    refine h_copyq (n := n) hx hb (by rw [hml]; exact hl.1.symm) hown m_150 n_ac s_ac i_sy hI hm_10 hm_9 (by omega) (by omega) (by omega) (fun i hi => by
    obtain ⟨kv, vs, e1, e2, e3⟩ := hel i hi
    exact ⟨kv, vs, by rw [e1, hAd_8 kv e3], by rw [hF_11 kv e3]; exact e2⟩) (Nat.le_of_ble_eq_true rfl) (Nat.le_of_ble_eq_true rfl) dJ7_copyOf_6403c_35 (fun M_12 H_13 locs_14 eM_15 hI => ?_)
    have hm_16 : M_12 18 = some (aO G n lf) := by rw [eM_15, va_up_ne _ _ (by decide)]; exact hm_10
    have hm_17 : M_12 29 = some (aO G (n + max 1 (n / 2)) (va_cpy lf (fun _ => none) 0 0 n)) := by rw [eM_15]; exact va_up_self _ _ _
    have hF_18 : ∀ j : Nat, j ≠ 29 → M_12 j = M j := fun j q0 => by rw [eM_15, va_up_ne _ _ q0]; exact hF_11 j q0
    clear hm_10 hm_9 hF_11
    refine lv_aload_n hx hb dJ7_copyOf_6403c_38 rfl (lv_at hl 0 rfl) ?_
    exact e_Aq hx hb hr (Or.inr ⟨_, rfl⟩) hlocks hI ⟨rfl, hm_17, (fun j q0 => hF_18 j q0), (fun j q0 => (by show ad_2 j = ad j; rw [hAd_8 j q0]))⟩ dJ7_copyOf_6403c_39

/-- J7_copyOf_1904c -/
abbrev rm_c_J7_copyOf_1904c : Room := { frames := 2, cells := 1, slots := 200, locals := 83 }
set_option maxHeartbeats 4000000 in
set_option maxRecDepth 100000 in
theorem c_J7_copyOf_1904c (l : Launch) (G : GG) (z : Nat) (ad : Nat → Nat) (M : Mem) {n : Nat} {lf : Nat → Option Nat} (h18 : M 18 = some (aO G n lf)) (hn : 0 < n ∧ n < 120) (hel : ∀ i, i < n → ∃ kv vs, lf i = some (ad kv) ∧ M kv = some (.inr (3, vs)) ∧ kv ≠ 29) (fre0 : M 29 = none) : Met l yJ7_copyOf_1904c wsJ7_copyOf_1904c rm_c_J7_copyOf_1904c (Pr G z ad M [.ref (ad 18), .int (nI (n + max 1 (n / 2)))]) (Aq G z (fun (r : Option Nat) (u : (Nat → Nat) × Mem) => r = some (u.1 29) ∧ u.2 29 = some (aO G (n + max 1 (n / 2)) (va_cpy lf (fun _ => none) 0 0 n)) ∧ (∀ j : Nat, j ≠ 29 → u.2 j = M j) ∧ (∀ j : Nat, j ≠ 29 → u.1 j = ad j))) 1 200 (fr z) := by
  refine Met.ofW (cc := cJ7_copyOf_1904c) (maxL := 2) (ret := (some (.array (.object "java/lang/Object")))) (by decide) rfl ?_
  intro p e s m args below meth c s₁ B hml hv
  obtain ⟨rfl, hv⟩ := hv
  have hI := Iv.entry hv
  have hx := B.exec
  have hb := B.bytes
  have hr := B.returns
  have hts := atoms_spec (ws := wsJ7_copyOf_1904c) B.pre
  have hown : s.vm.findClass RJ7 = some m.cls := findClass_of_methodNamed B.named
  have hlocks := B.notSynchronized
  have m_86 := hts _ (List.mem_cons_of_mem _ (lwg_of t_780 rfl))
  have gc_s := hts _ (List.mem_cons_of_mem _ (lwg_of t_1391 rfl))
  have gc_i := hts _ (List.mem_cons_of_mem _ (lwg_of t_781 rfl))
  have gc_n := hts _ (List.mem_cons_of_mem _ (lwg_of t_799 rfl))
  have hl := lv_entry ([.ref (ad 18), .int (nI (n + max 1 (n / 2)))]) (n := 2) (Nat.le_of_ble_eq_true rfl)
  rw [lg_entry_eq]
  generalize (lg_sl ([.ref (ad 18), .int (nI (n + max 1 (n / 2)))]) ++ List.replicate (2 - (lg_sl ([.ref (ad 18), .int (nI (n + max 1 (n / 2)))])).length) Slot.unset).toArray = ls at hl ⊢
  have hl : lv_has ls 2 [(0, .ref (ad 18)), (1, .int (nI (n + max 1 (n / 2))))] := hl
  obtain ⟨mi, hmi⟩ := iv_mi hI
  refine lv_aload_n hx hb dJ7_copyOf_1904c_0 rfl (lv_at hl 0 rfl) ?_
  refine lv_iload_n hx hb dJ7_copyOf_1904c_1 rfl (lv_at hl 1 rfl) ?_
  refine lv_aload_n hx hb dJ7_copyOf_1904c_2 rfl (lv_at hl 0 rfl) ?_
  refine va_getC (C := "[Ljava/lang/Object;") hx hb (by rw [hml]; exact hl.1.symm) hown m_86 (va_Nw.use rfl ((iv_ex hI).1 _ (List.mem_of_getElem? (i := 3) rfl))) gc_s gc_i gc_n hmi (iv_recvA hI h18) (Nat.le_of_ble_eq_true rfl) (Nat.le_of_ble_eq_true rfl) dJ7_copyOf_1904c_3 ?_
  refine k_Aq (va_runS (As := [.ref (ad 18), .int (nI (n + max 1 (n / 2))), .ref mi]) (rest := []) ⟨hx, hb, hml, hown, hts⟩ (c_J7_copyOf_6403c l G z ad M (n := n) (lf := lf) (mi := mi) h18 (by omega) hel fre0) (va_cwS 3 hts (gS (lwg_of t_800 rfl) (lwg_of t_801 rfl) (lwg_of t_26 rfl) (lwg_of t_802 rfl)) rfl rfl rfl (by decide +kernel) ⟨Nat.le_of_ble_eq_true rfl, Nat.le_of_ble_eq_true rfl⟩) (Iv.preS2 hI hmi) rfl rfl hl.1 rfl (lv_room (Nat.le_of_ble_eq_true rfl)) dJ7_copyOf_1904c_6 ⟨Nat.le_of_ble_eq_true rfl, Nat.le_of_ble_eq_true rfl⟩) hI (fun r_1 ad_6 M_3 H_4 locs_5 hp_2 hI => ?_)
  obtain ⟨hr_7, hm_8, hF_9, hAd_10⟩ := hp_2
  have hm_11 : M_3 29 = some (aO G (n + max 1 (n / 2)) (va_cpy lf (fun _ => none) 0 0 n)) := hm_8
  have hAd_12 : ∀ j : Nat, j ≠ 29 → ad_6 j = ad j := hAd_10
  have hF_13 : ∀ j : Nat, j ≠ 29 → M_3 j = M j := hF_9
  have hm_14 : M_3 18 = some (aO G n lf) := by rw [hF_13 18 (by decide), h18]
  have hF_15 : ∀ j : Nat, j ≠ 29 → M_3 j = M j := fun j q0 => (hF_13 j q0)
  clear hF_9
  rw [hr_7]; show W _ _ _ _ _ _ _ _ _ _ _ _ _ _ _ (F0 m 9 ls (.ref (ad_6 29) :: []))
  exact e_Aq hx hb hr (Or.inr ⟨_, rfl⟩) hlocks hI ⟨rfl, hm_11, (fun j q0 => hF_15 j q0), (fun j q0 => (by show ad_6 j = ad j; rw [hAd_12 j q0]))⟩ dJ7_copyOf_1904c_9

/-- Jx4a65c_grow_92f84 -/
abbrev rm_c_Jx_grow1_0 : Room := { frames := 1, cells := 1, slots := 200, locals := 30 }
set_option maxHeartbeats 4000000 in
set_option maxRecDepth 100000 in
theorem c_Jx_grow1_0 (l : Launch) (G : GG) (z : Nat) (ad : Nat → Nat) (M : Mem) {mcn : Int32} (h17 : M 17 = some (cList ad mcn G.2.2.2.2 0)) (fre0 : M 18 = none) : Met l yJx4a65c_grow_92f84 wsJx4a65c_grow_92f84 rm_c_Jx_grow1_0 (Pr G z ad M [.ref (ad 17), .int (nI 1)]) (Aq G z (fun (r : Option Nat) (u : (Nat → Nat) × Mem) => r = some (u.1 18) ∧ u.2 17 = some (cList u.1 mcn (u.1 18) 0) ∧ u.2 18 = some (aO G 10 (fun _ => none)) ∧ (∀ j : Nat, j ≠ 17 → j ≠ 18 → u.2 j = M j) ∧ (∀ j : Nat, j ≠ 18 → u.1 j = ad j))) 1 200 (fr z) := by
  refine Met.ofW (cc := cJx4a65c_grow_92f84) (maxL := 4) (ret := (some (.array (.object "java/lang/Object")))) (by decide) rfl ?_
  intro p e s m args below meth c s₁ B hml hv
  obtain ⟨rfl, hv⟩ := hv
  have hI := Iv.entry hv
  have hx := B.exec
  have hb := B.bytes
  have hr := B.returns
  have hts := atoms_spec (ws := wsJx4a65c_grow_92f84) B.pre
  have hown : s.vm.findClass RJx4a65c = some m.cls := findClass_of_methodNamed B.named
  have hlocks := B.notSynchronized
  have i_RJx4a65c : ∀ w ∈ u_ws RJx4a65c TJx4a65c 3, w ∈ wsJx4a65c_grow_92f84 := fun w h => List.mem_cons_of_mem _ (iu_Jx4a65c w h)
  have f_9 := hts _ (List.mem_cons_of_mem _ (lwg_of t_133 rfl))
  have f_39 := hts _ (List.mem_cons_of_mem _ (lwg_of t_131 rfl))
  have m_79 := hts _ (List.mem_cons_of_mem _ (lwg_of t_808 rfl))
  have s_mmax := hts _ (List.mem_cons_of_mem _ (lwg_of t_737 rfl))
  have s_mi := hts _ (List.mem_cons_of_mem _ (lwg_of t_14 rfl))
  have s_mcmax := hts _ (List.mem_cons_of_mem _ (lwg_of t_738 rfl))
  have nw_c7 := hts _ (List.mem_cons_of_mem _ (lwg_of t_809 rfl))
  have hl := lv_entry ([.ref (ad 17), .int (nI 1)]) (n := 4) (Nat.le_of_ble_eq_true rfl)
  rw [lg_entry_eq]
  generalize (lg_sl ([.ref (ad 17), .int (nI 1)]) ++ List.replicate (4 - (lg_sl ([.ref (ad 17), .int (nI 1)])).length) Slot.unset).toArray = ls at hl ⊢
  have hl : lv_has ls 4 [(0, .ref (ad 17)), (1, .int (nI 1))] := hl
  refine lv_aload_n hx hb dJx4a65c_grow_92f84_0 rfl (lv_at hl 0 rfl) ?_
  refine h_get (C := RJx4a65c) (T := TJx4a65c) (N := 3) hx hb hts i_RJx4a65c hown hI h17 rfl 1 (by decide) f_9 rfl rfl dJx4a65c_grow_92f84_1 ?_
  refine va_tlen (A := fr z) (v := nI 0) hx hb (iv_eT hI) hI.S rfl dJx4a65c_grow_92f84_4 ?_
  refine lv_istore_n (lv' := [(2, .int (nI 0)), (0, .ref (ad 17)), (1, .int (nI 1))]) hx hb dJx4a65c_grow_92f84_5 rfl hl (by decide) rfl (fun ls hl => ?_)
  refine lv_iload_n hx hb dJx4a65c_grow_92f84_6 rfl (lv_at hl 0 rfl) ?_
  refine lv_if_gt (tgt := 20) hx hb dJx4a65c_grow_92f84_7 (by decide) (fun c_1 => ?_) (fun c_1 => ?_)
  · -- 7: nI 0 gt
    exact absurd c_1 (by decide)
  · -- 7: nI 0 le
    refine lv_aload_n hx hb dJx4a65c_grow_92f84_10 rfl (lv_at hl 1 rfl) ?_
    refine h_get (C := RJx4a65c) (T := TJx4a65c) (N := 3) hx hb hts i_RJx4a65c hown hI h17 rfl 1 (by decide) f_9 rfl rfl dJx4a65c_grow_92f84_11 ?_
    refine va_gets (A := fr z) hx hb (iv_emp hI) hI.S hown f_39 (fun _ h => h) dJx4a65c_grow_92f84_14 ?_
    refine lv_acmp_eq (tgt := 45) (rx := some (G.2.2.2.2)) (ry := some (G.2.2.2.2)) hx hb dJx4a65c_grow_92f84_17 (by decide) (fun c_2 => ?_) (fun c_2 => ?_)
    · skip
      refine lv_aload_n hx hb dJx4a65c_grow_92f84_45 rfl (lv_at hl 1 rfl) ?_
      refine lv_bipush (v := nI 10) hx hb dJx4a65c_grow_92f84_46 (by decide) ?_
      refine lv_iload_n hx hb dJx4a65c_grow_92f84_48 rfl (lv_at hl 2 rfl) ?_
      refine va_mmax hx hb (by rw [hml]; exact hl.1.symm) hown m_79 s_mmax s_mi s_mcmax (Nat.le_of_ble_eq_true rfl) (Nat.le_of_ble_eq_true rfl) (Nat.le_of_ble_eq_true rfl) (Nat.le_of_ble_eq_true rfl) dJx4a65c_grow_92f84_49 ?_
      refine n_eq (show _ = nI 10 from by decide) ?_
      refine h_newq (n := 10) hx hb hown nw_c7 hI (by omega) (Nat.le_of_ble_eq_true rfl) (Nat.le_of_ble_eq_true rfl) dJx4a65c_grow_92f84_52 18 fre0 (fun ad_3 M_4 H_5 hA_6 eM_7 hI => ?_)
      have hAd_9 : ∀ j : Nat, j ≠ 18 → ad_3 j = ad j := fun j hj => by obtain ⟨q, e⟩ := hA_6; rw [e]; exact va_up_ne _ _ hj
      have hm_10 : M_4 18 = some (aO G 10 (fun _ => none)) := by rw [eM_7]; exact va_up_self _ _ _
      have hm_11 : M_4 17 = some (cList ad_3 mcn G.2.2.2.2 0) := by rw [eM_7, va_up_ne _ _ (by decide), h17]
      have hF_12 : ∀ j : Nat, j ≠ 18 → M_4 j = M j := fun j q0 => by rw [eM_7, va_up_ne _ _ q0]
      refine n_eqs (show ([.ref (ad_3 18), .ref (ad 17)] : List Value) = [.ref (ad_3 18), .ref (ad_3 17)] from by rw [hAd_9 17 (by decide)]) ?_
      refine lv_dup_x1 hx hb dJx4a65c_grow_92f84_55 rfl rfl ?_
      refine h_put (C := RJx4a65c) (T := TJx4a65c) (N := 3) hx hb hts i_RJx4a65c tyJx4a65c tyJx4a65c_ok nmJx4a65c hown hI hm_11 rfl 1 (by decide) f_9 rfl rfl rfl rfl (Nat.le_of_ble_eq_true rfl) dJx4a65c_grow_92f84_56 (fun M_13 H_14 locs_15 eM_16 hI => ?_)
      have hm_17 : M_13 17 = some (cList ad_3 mcn (ad_3 18) 0) := by rw [eM_16]; exact va_up_self _ _ _
      have hm_18 : M_13 18 = some (aO G 10 (fun _ => none)) := by rw [eM_16, va_up_ne _ _ (by decide)]; exact hm_10
      have hF_19 : ∀ j : Nat, j ≠ 18 → j ≠ 17 → M_13 j = M j := fun j q0 q1 => by rw [eM_16, va_up_ne _ _ q1]; exact hF_12 j q0
      clear hm_11 hm_10 hF_12
      refine W.widen (k := 1) (n := 200) (Nat.le_of_ble_eq_true rfl) (Nat.le_of_ble_eq_true rfl) ?_
      exact e_Aq hx hb hr (Or.inr ⟨_, rfl⟩) hlocks hI ⟨rfl, hm_17, hm_18, (fun j q0 q1 => hF_19 j q1 q0), (fun j q0 => (by show ad_3 j = ad j; rw [hAd_9 j q0]))⟩ dJx4a65c_grow_92f84_59
    · skip
      exact absurd rfl c_2

/-- Jx4a65c_grow_92f84 -/
abbrev rm_c_Jx_grow1_1 : Room := { frames := 3, cells := 1, slots := 200, locals := 104 }
set_option maxHeartbeats 4000000 in
set_option maxRecDepth 100000 in
theorem c_Jx_grow1_1 (l : Launch) (G : GG) (z : Nat) (ad : Nat → Nat) (M : Mem) {mcn : Int32} {ed : Nat} {n : Nat} {lf : Nat → Option Nat} (h17 : M 17 = some (cList ad mcn ed n)) (h18 : M 18 = some (aO G n lf)) (hed : ed = ad 18) (hn : 0 < n ∧ n < 120) (hel : ∀ i, i < n → ∃ kv vs, lf i = some (ad kv) ∧ M kv = some (.inr (3, vs)) ∧ kv ≠ 29) (fre0 : M 29 = none) : Met l yJx4a65c_grow_92f84 wsJx4a65c_grow_92f84 rm_c_Jx_grow1_1 (Pr G z ad M [.ref (ad 17), .int (nI (n + 1))]) (Aq G z (fun (r : Option Nat) (u : (Nat → Nat) × Mem) => r = some (u.1 18) ∧ u.2 17 = some (cList u.1 mcn (u.1 18) n) ∧ u.2 18 = some (aO G (n + max 1 (n / 2)) (va_cpy lf (fun _ => none) 0 0 n)) ∧ (∀ j : Nat, j ≠ 17 → j ≠ 18 → u.2 j = M j) ∧ (∀ j : Nat, j ≠ 18 → u.1 j = ad j))) 1 200 (fr z) := by
  refine Met.ofW (cc := cJx4a65c_grow_92f84) (maxL := 4) (ret := (some (.array (.object "java/lang/Object")))) (by decide) rfl ?_
  intro p e s m args below meth c s₁ B hml hv
  obtain ⟨rfl, hv⟩ := hv
  have hI := Iv.entry hv
  have hx := B.exec
  have hb := B.bytes
  have hr := B.returns
  have hts := atoms_spec (ws := wsJx4a65c_grow_92f84) B.pre
  have hown : s.vm.findClass RJx4a65c = some m.cls := findClass_of_methodNamed B.named
  have hlocks := B.notSynchronized
  have i_RJx4a65c : ∀ w ∈ u_ws RJx4a65c TJx4a65c 3, w ∈ wsJx4a65c_grow_92f84 := fun w h => List.mem_cons_of_mem _ (iu_Jx4a65c w h)
  have f_9 := hts _ (List.mem_cons_of_mem _ (lwg_of t_133 rfl))
  have hl := lv_entry ([.ref (ad 17), .int (nI (n + 1))]) (n := 4) (Nat.le_of_ble_eq_true rfl)
  rw [lg_entry_eq]
  generalize (lg_sl ([.ref (ad 17), .int (nI (n + 1))]) ++ List.replicate (4 - (lg_sl ([.ref (ad 17), .int (nI (n + 1))])).length) Slot.unset).toArray = ls at hl ⊢
  have hl : lv_has ls 4 [(0, .ref (ad 17)), (1, .int (nI (n + 1)))] := hl
  refine lv_aload_n hx hb dJx4a65c_grow_92f84_0 rfl (lv_at hl 0 rfl) ?_
  refine h_get (C := RJx4a65c) (T := TJx4a65c) (N := 3) hx hb hts i_RJx4a65c hown hI h17 rfl 1 (by decide) f_9 rfl rfl dJx4a65c_grow_92f84_1 ?_
  refine n_eqv (show _ = .ref (ad 18) from congrArg Value.ref hed) ?_
  refine h_alenq hx hb hI h18 dJx4a65c_grow_92f84_4 ?_
  refine lv_istore_n (lv' := [(2, .int (nI n)), (0, .ref (ad 17)), (1, .int (nI (n + 1)))]) hx hb dJx4a65c_grow_92f84_5 rfl hl (by decide) rfl (fun ls hl => ?_)
  refine lv_iload_n hx hb dJx4a65c_grow_92f84_6 rfl (lv_at hl 0 rfl) ?_
  refine lv_if_gt (tgt := 20) hx hb dJx4a65c_grow_92f84_7 (by decide) (fun c_1 => ?_) (fun c_1 => ?_)
  · -- 7: nI n gt
    have c_1 : 0 < n := (nI_ltI (a := 0) (b := n) (by omega) (by omega)).mp (c_1)
    refine lv_iload_n hx hb dJx4a65c_grow_92f84_20 rfl (lv_at hl 0 rfl) ?_
    refine lv_iload_n hx hb dJx4a65c_grow_92f84_21 rfl (lv_at hl 2 rfl) ?_
    refine lv_iload_n hx hb dJx4a65c_grow_92f84_22 rfl (lv_at hl 0 rfl) ?_
    refine lv_isub hx hb dJx4a65c_grow_92f84_23 ?_
    refine n_eq (show _ = nI 1 from by rw [pk_sub (by omega)]; congr 1; omega) ?_
    refine lv_iload_n hx hb dJx4a65c_grow_92f84_24 rfl (lv_at hl 0 rfl) ?_
    refine lv_iconst (v := nI 1) hx hb dJx4a65c_grow_92f84_25 (by decide) ?_
    refine lv_ishr hx hb dJx4a65c_grow_92f84_26 ?_
    refine n_eq (show _ = nI (n / 2) from nl_half n hn.2) ?_
    refine k_Ri (va_runS (As := [.int (nI n), .int (nI 1), .int (nI (n / 2))]) (rest := []) ⟨hx, hb, hml, hown, hts⟩ (c_J8_newLength_cabcc l G z ad M (n := n) (by omega)) (va_cwS 3 hts (gS (lwg_of t_769 rfl) (lwg_of t_770 rfl) (lwg_of t_25 rfl) (lwg_of t_771 rfl)) rfl rfl rfl (by decide +kernel) ⟨Nat.le_of_ble_eq_true rfl, Nat.le_of_ble_eq_true rfl⟩) hI.preS rfl rfl hl.1 rfl (lv_room (Nat.le_of_ble_eq_true rfl)) dJx4a65c_grow_92f84_27 ⟨Nat.le_of_ble_eq_true rfl, Nat.le_of_ble_eq_true rfl⟩) (fun _ h => h) (fun r_2 hp_3 => ?_)
    rw [hp_3]
    refine lv_istore_n (lv' := [(3, .int (nI (n + max 1 (n / 2)))), (2, .int (nI n)), (0, .ref (ad 17)), (1, .int (nI (n + 1)))]) hx hb dJx4a65c_grow_92f84_30 rfl hl (by decide) rfl (fun ls hl => ?_)
    refine lv_aload_n hx hb dJx4a65c_grow_92f84_31 rfl (lv_at hl 2 rfl) ?_
    refine lv_aload_n hx hb dJx4a65c_grow_92f84_32 rfl (lv_at hl 2 rfl) ?_
    refine h_get (C := RJx4a65c) (T := TJx4a65c) (N := 3) hx hb hts i_RJx4a65c hown hI h17 rfl 1 (by decide) f_9 rfl rfl dJx4a65c_grow_92f84_33 ?_
    refine n_eqv (show _ = .ref (ad 18) from congrArg Value.ref hed) ?_
    refine lv_iload_n hx hb dJx4a65c_grow_92f84_36 rfl (lv_at hl 0 rfl) ?_
    refine k_Aq (va_runS (As := [.ref (ad 18), .int (nI (n + max 1 (n / 2)))]) (rest := [.ref (ad 17)]) ⟨hx, hb, hml, hown, hts⟩ (c_J7_copyOf_1904c l G z ad M (n := n) (lf := lf) h18 (by omega) hel fre0) (va_cwS 2 hts (gS (lwg_of t_777 rfl) (lwg_of t_778 rfl) (lwg_of t_26 rfl) (lwg_of t_779 rfl)) rfl rfl rfl (by decide +kernel) ⟨Nat.le_of_ble_eq_true rfl, Nat.le_of_ble_eq_true rfl⟩) hI.preS rfl rfl hl.1 rfl (lv_room (Nat.le_of_ble_eq_true rfl)) dJx4a65c_grow_92f84_37 ⟨Nat.le_of_ble_eq_true rfl, Nat.le_of_ble_eq_true rfl⟩) hI (fun r_4 ad_9 M_6 H_7 locs_8 hp_5 hI => ?_)
    obtain ⟨hr_10, hm_11, hF_12, hAd_13⟩ := hp_5
    have hm_14 : M_6 29 = some (aO G (n + max 1 (n / 2)) (va_cpy lf (fun _ => none) 0 0 n)) := hm_11
    have hAd_15 : ∀ j : Nat, j ≠ 29 → ad_9 j = ad j := hAd_13
    have hF_16 : ∀ j : Nat, j ≠ 29 → M_6 j = M j := hF_12
    have hm_17 : M_6 17 = some (cList ad_9 mcn ed n) := by rw [hF_16 17 (by decide), h17]
    have hm_18 : M_6 18 = some (aO G n lf) := by rw [hF_16 18 (by decide), h18]
    have hF_19 : ∀ j : Nat, j ≠ 29 → M_6 j = M j := fun j q0 => (hF_16 j q0)
    clear hF_12
    rw [hr_10]; show W _ _ _ _ _ _ _ _ _ _ _ _ _ _ _ (F0 m 40 ls (.ref (ad_9 29) :: [.ref (ad 17)]))
    refine n_eqs (show ([.ref (ad_9 29), .ref (ad 17)] : List Value) = [.ref (ad_9 29), .ref (ad_9 17)] from by rw [hAd_15 17 (by decide)]) ?_
    refine lv_dup_x1 hx hb dJx4a65c_grow_92f84_40 rfl rfl ?_
    refine h_put (C := RJx4a65c) (T := TJx4a65c) (N := 3) hx hb hts i_RJx4a65c tyJx4a65c tyJx4a65c_ok nmJx4a65c hown hI hm_17 rfl 1 (by decide) f_9 rfl rfl rfl rfl (Nat.le_of_ble_eq_true rfl) dJx4a65c_grow_92f84_41 (fun M_20 H_21 locs_22 eM_23 hI => ?_)
    have hm_24 : M_20 17 = some (cList ad_9 mcn (ad_9 29) n) := by rw [eM_23]; exact va_up_self _ _ _
    have hm_25 : M_20 18 = some (aO G n lf) := by rw [eM_23, va_up_ne _ _ (by decide)]; exact hm_18
    have hm_26 : M_20 29 = some (aO G (n + max 1 (n / 2)) (va_cpy lf (fun _ => none) 0 0 n)) := by rw [eM_23, va_up_ne _ _ (by decide)]; exact hm_14
    have hF_27 : ∀ j : Nat, j ≠ 29 → j ≠ 17 → M_20 j = M j := fun j q0 q1 => by rw [eM_23, va_up_ne _ _ q1]; exact hF_19 j q0
    clear hm_17 hm_18 hm_14 hF_19
    have hI9 := iv_ren hI (fun j h9 => hAd_15 j h9) hm_26
    exact e_Aq hx hb hr (Or.inr ⟨_, rfl⟩) hlocks hI9 ⟨(by show some (ad_9 29) = some (va_up ad 18 (ad_9 29) 18); rw [va_up_self]),
      (by show va_up (va_up M_20 29 none) 18 (some (aO G (n + max 1 (n / 2)) (va_cpy lf (fun _ => none) 0 0 n))) 17 = some (cList (va_up ad 18 (ad_9 29)) mcn (va_up ad 18 (ad_9 29) 18) n); rw [show va_up ad 18 (ad_9 29) 18 = ad_9 29 from va_up_self _ _ _, va_up_ne _ _ (show (17 : Nat) ≠ 18 by decide), va_up_ne _ _ (show (17 : Nat) ≠ 29 by decide)]; exact hm_24),
      (by show va_up (va_up M_20 29 none) 18 (some (aO G (n + max 1 (n / 2)) (va_cpy lf (fun _ => none) 0 0 n))) 18 = some (aO G (n + max 1 (n / 2)) (va_cpy lf (fun _ => none) 0 0 n)); exact va_up_self _ _ _),
      (fun j q0 q1 => by
        show va_up (va_up M_20 29 none) 18 (some (aO G (n + max 1 (n / 2)) (va_cpy lf (fun _ => none) 0 0 n))) j = M j
        rw [va_up_ne _ _ q1]
        by_cases e9 : j = 29
        · subst e9; rw [va_up_self]; exact fre0.symm
        · rw [va_up_ne _ _ e9]; exact hF_27 j e9 q0),
      (fun j q0 => va_up_ne _ _ q0)⟩ dJx4a65c_grow_92f84_44
  · -- 7: nI n le
    have c_1 : n ≤ 0 := by have h := mt (nI_ltI (a := 0) (b := n) (by omega) (by omega)).mpr c_1; omega
    omega

/-- Jx4a65c_grow_d5877 -/
abbrev rm_c_Jx_grow0_0 : Room := { frames := 2, cells := 1, slots := 200, locals := 53 }
set_option maxHeartbeats 4000000 in
set_option maxRecDepth 100000 in
theorem c_Jx_grow0_0 (l : Launch) (G : GG) (z : Nat) (ad : Nat → Nat) (M : Mem) {mcn : Int32} (h17 : M 17 = some (cList ad mcn G.2.2.2.2 0)) (fre0 : M 18 = none) : Met l yJx4a65c_grow_d5877 wsJx4a65c_grow_d5877 rm_c_Jx_grow0_0 (Pr G z ad M [.ref (ad 17)]) (Aq G z (fun (r : Option Nat) (u : (Nat → Nat) × Mem) => r = some (u.1 18) ∧ u.2 17 = some (cList u.1 mcn (u.1 18) 0) ∧ u.2 18 = some (aO G 10 (fun _ => none)) ∧ (∀ j : Nat, j ≠ 17 → j ≠ 18 → u.2 j = M j) ∧ (∀ j : Nat, j ≠ 18 → u.1 j = ad j))) 1 200 (fr z) := by
  refine Met.ofW (cc := cJx4a65c_grow_d5877) (maxL := 1) (ret := (some (.array (.object "java/lang/Object")))) (by decide) rfl ?_
  intro p e s m args below meth c s₁ B hml hv
  obtain ⟨rfl, hv⟩ := hv
  have hI := Iv.entry hv
  have hx := B.exec
  have hb := B.bytes
  have hr := B.returns
  have hts := atoms_spec (ws := wsJx4a65c_grow_d5877) B.pre
  have hown : s.vm.findClass RJx4a65c = some m.cls := findClass_of_methodNamed B.named
  have hlocks := B.notSynchronized
  have i_RJx4a65c : ∀ w ∈ u_ws RJx4a65c TJx4a65c 3, w ∈ wsJx4a65c_grow_d5877 := fun w h => List.mem_cons_of_mem _ (iu_Jx4a65c w h)
  have f_48 := hts _ (List.mem_cons_of_mem _ (lwg_of t_134 rfl))
  have hl := lv_entry ([.ref (ad 17)]) (n := 1) (Nat.le_of_ble_eq_true rfl)
  rw [lg_entry_eq]
  generalize (lg_sl ([.ref (ad 17)]) ++ List.replicate (1 - (lg_sl ([.ref (ad 17)])).length) Slot.unset).toArray = ls at hl ⊢
  have hl : lv_has ls 1 [(0, .ref (ad 17))] := hl
  refine lv_aload_n hx hb dJx4a65c_grow_d5877_0 rfl (lv_at hl 0 rfl) ?_
  refine lv_aload_n hx hb dJx4a65c_grow_d5877_1 rfl (lv_at hl 0 rfl) ?_
  refine h_get (C := RJx4a65c) (T := TJx4a65c) (N := 3) hx hb hts i_RJx4a65c hown hI h17 rfl 2 (by decide) f_48 rfl rfl dJx4a65c_grow_d5877_2 ?_
  refine lv_iconst (v := nI 1) hx hb dJx4a65c_grow_d5877_5 (by decide) ?_
  refine lv_iadd hx hb dJx4a65c_grow_d5877_6 ?_
  refine n_eq (nI_add 0 1) ?_
  refine k_Aq (va_runV (As := [.int (nI (0 + 1))]) (rest := []) ⟨hx, hb, hml, hown, hts⟩ (c_Jx_grow1_0 l G z ad M (mcn := mcn) h17 fre0) (cwV 1 hts (gV (lwg_of t_765 rfl) (lwg_of t_767 rfl) (lwg_of ts_13 rfl) (lwg_of t_9 rfl) (lwg_of t_768 rfl)) rfl rfl rfl (by decide +kernel) ⟨Nat.le_of_ble_eq_true rfl, Nat.le_of_ble_eq_true rfl⟩) (hI.preV h17 rfl) rfl rfl hl.1 rfl (lv_room (Nat.le_of_ble_eq_true rfl)) dJx4a65c_grow_d5877_7 ⟨Nat.le_of_ble_eq_true rfl, Nat.le_of_ble_eq_true rfl⟩) hI (fun r_1 ad_6 M_3 H_4 locs_5 hp_2 hI => ?_)
  obtain ⟨hr_7, hm_8, hm_9, hF_10, hAd_11⟩ := hp_2
  have hm_12 : M_3 17 = some (cList ad_6 mcn (ad_6 18) 0) := hm_8
  have hm_13 : M_3 18 = some (aO G 10 (fun _ => none)) := hm_9
  have hAd_14 : ∀ j : Nat, j ≠ 18 → ad_6 j = ad j := hAd_11
  have hF_15 : ∀ j : Nat, j ≠ 17 → j ≠ 18 → M_3 j = M j := hF_10
  have hF_16 : ∀ j : Nat, j ≠ 17 → j ≠ 18 → M_3 j = M j := fun j q0 q1 => (hF_15 j q0 q1)
  clear hF_10
  rw [hr_7]; show W _ _ _ _ _ _ _ _ _ _ _ _ _ _ _ (F0 m 10 ls (.ref (ad_6 18) :: []))
  exact e_Aq hx hb hr (Or.inr ⟨_, rfl⟩) hlocks hI ⟨rfl, hm_12, hm_13, (fun j q0 q1 => hF_16 j q0 q1), (fun j q0 => (by show ad_6 j = ad j; rw [hAd_14 j q0]))⟩ dJx4a65c_grow_d5877_10

/-- Jx4a65c_grow_d5877 -/
abbrev rm_c_Jx_grow0_1 : Room := { frames := 4, cells := 1, slots := 200, locals := 127 }
set_option maxHeartbeats 4000000 in
set_option maxRecDepth 100000 in
theorem c_Jx_grow0_1 (l : Launch) (G : GG) (z : Nat) (ad : Nat → Nat) (M : Mem) {mcn : Int32} {ed : Nat} {n : Nat} {lf : Nat → Option Nat} (h17 : M 17 = some (cList ad mcn ed n)) (h18 : M 18 = some (aO G n lf)) (hed : ed = ad 18) (hn : 0 < n ∧ n < 120) (hel : ∀ i, i < n → ∃ kv vs, lf i = some (ad kv) ∧ M kv = some (.inr (3, vs)) ∧ kv ≠ 29) (fre0 : M 29 = none) : Met l yJx4a65c_grow_d5877 wsJx4a65c_grow_d5877 rm_c_Jx_grow0_1 (Pr G z ad M [.ref (ad 17)]) (Aq G z (fun (r : Option Nat) (u : (Nat → Nat) × Mem) => r = some (u.1 18) ∧ u.2 17 = some (cList u.1 mcn (u.1 18) n) ∧ u.2 18 = some (aO G (n + max 1 (n / 2)) (va_cpy lf (fun _ => none) 0 0 n)) ∧ (∀ j : Nat, j ≠ 17 → j ≠ 18 → u.2 j = M j) ∧ (∀ j : Nat, j ≠ 18 → u.1 j = ad j))) 1 200 (fr z) := by
  refine Met.ofW (cc := cJx4a65c_grow_d5877) (maxL := 1) (ret := (some (.array (.object "java/lang/Object")))) (by decide) rfl ?_
  intro p e s m args below meth c s₁ B hml hv
  obtain ⟨rfl, hv⟩ := hv
  have hI := Iv.entry hv
  have hx := B.exec
  have hb := B.bytes
  have hr := B.returns
  have hts := atoms_spec (ws := wsJx4a65c_grow_d5877) B.pre
  have hown : s.vm.findClass RJx4a65c = some m.cls := findClass_of_methodNamed B.named
  have hlocks := B.notSynchronized
  have i_RJx4a65c : ∀ w ∈ u_ws RJx4a65c TJx4a65c 3, w ∈ wsJx4a65c_grow_d5877 := fun w h => List.mem_cons_of_mem _ (iu_Jx4a65c w h)
  have f_48 := hts _ (List.mem_cons_of_mem _ (lwg_of t_134 rfl))
  have hl := lv_entry ([.ref (ad 17)]) (n := 1) (Nat.le_of_ble_eq_true rfl)
  rw [lg_entry_eq]
  generalize (lg_sl ([.ref (ad 17)]) ++ List.replicate (1 - (lg_sl ([.ref (ad 17)])).length) Slot.unset).toArray = ls at hl ⊢
  have hl : lv_has ls 1 [(0, .ref (ad 17))] := hl
  refine lv_aload_n hx hb dJx4a65c_grow_d5877_0 rfl (lv_at hl 0 rfl) ?_
  refine lv_aload_n hx hb dJx4a65c_grow_d5877_1 rfl (lv_at hl 0 rfl) ?_
  refine h_get (C := RJx4a65c) (T := TJx4a65c) (N := 3) hx hb hts i_RJx4a65c hown hI h17 rfl 2 (by decide) f_48 rfl rfl dJx4a65c_grow_d5877_2 ?_
  refine lv_iconst (v := nI 1) hx hb dJx4a65c_grow_d5877_5 (by decide) ?_
  refine lv_iadd hx hb dJx4a65c_grow_d5877_6 ?_
  refine n_eq (nI_add n 1) ?_
  refine k_Aq (va_runV (As := [.int (nI (n + 1))]) (rest := []) ⟨hx, hb, hml, hown, hts⟩ (c_Jx_grow1_1 l G z ad M (mcn := mcn) (ed := ed) (n := n) (lf := lf) h17 h18 (by omega) (by omega) hel fre0) (cwV 1 hts (gV (lwg_of t_765 rfl) (lwg_of t_767 rfl) (lwg_of ts_13 rfl) (lwg_of t_9 rfl) (lwg_of t_768 rfl)) rfl rfl rfl (by decide +kernel) ⟨Nat.le_of_ble_eq_true rfl, Nat.le_of_ble_eq_true rfl⟩) (hI.preV h17 rfl) rfl rfl hl.1 rfl (lv_room (Nat.le_of_ble_eq_true rfl)) dJx4a65c_grow_d5877_7 ⟨Nat.le_of_ble_eq_true rfl, Nat.le_of_ble_eq_true rfl⟩) hI (fun r_1 ad_6 M_3 H_4 locs_5 hp_2 hI => ?_)
  obtain ⟨hr_7, hm_8, hm_9, hF_10, hAd_11⟩ := hp_2
  have hm_12 : M_3 17 = some (cList ad_6 mcn (ad_6 18) n) := hm_8
  have hm_13 : M_3 18 = some (aO G (n + max 1 (n / 2)) (va_cpy lf (fun _ => none) 0 0 n)) := hm_9
  have hAd_14 : ∀ j : Nat, j ≠ 18 → ad_6 j = ad j := hAd_11
  have hF_15 : ∀ j : Nat, j ≠ 17 → j ≠ 18 → M_3 j = M j := hF_10
  have fr_16 : M_3 29 = none := by rw [hF_15 29 (by decide) (by decide)]; exact fre0
  have hF_17 : ∀ j : Nat, j ≠ 17 → j ≠ 18 → M_3 j = M j := fun j q0 q1 => (hF_15 j q0 q1)
  clear hF_10
  rw [hr_7]; show W _ _ _ _ _ _ _ _ _ _ _ _ _ _ _ (F0 m 10 ls (.ref (ad_6 18) :: []))
  exact e_Aq hx hb hr (Or.inr ⟨_, rfl⟩) hlocks hI ⟨rfl, hm_12, hm_13, (fun j q0 q1 => hF_17 j q0 q1), (fun j q0 => (by show ad_6 j = ad j; rw [hAd_14 j q0]))⟩ dJx4a65c_grow_d5877_10

/-- Jx4a65c_add_72be8 -/
abbrev rm_c_Jx_add3_0 : Room := { frames := 3, cells := 1, slots := 200, locals := 73 }
set_option maxHeartbeats 4000000 in
set_option maxRecDepth 100000 in
theorem c_Jx_add3_0 (l : Launch) (G : GG) (z : Nat) (ad : Nat → Nat) (M : Mem) {mcn : Int32} {k : Nat} {kd : Nat} {fm : Int32} {to : Int32} (h17 : M 17 = some (cList ad mcn G.2.2.2.2 0)) (hvk : M k = some (cLine ad k kd fm to)) (hk99 : 99 < k) (fre0 : M 18 = none) : Met l yJx4a65c_add_72be8 wsJx4a65c_add_72be8 rm_c_Jx_add3_0 (Pr G z ad M [.ref (ad 17), .ref (ad k), .ref G.2.2.2.2, .int (nI 0)]) (Av G z (fun (u : (Nat → Nat) × Mem) => u.2 17 = some (cList u.1 mcn (u.1 18) 1) ∧ u.2 18 = some (aO G 10 (va_up (fun _ => none) 0 (some (u.1 k)))) ∧ (∀ j : Nat, j ≠ 17 → j ≠ 18 → u.2 j = M j) ∧ (∀ j : Nat, j ≠ 18 → u.1 j = ad j))) 1 200 (fr z) := by
  refine Met.ofW (cc := cJx4a65c_add_72be8) (maxL := 4) (ret := none) (by decide) rfl ?_
  intro p e s m args below meth c s₁ B hml hv
  obtain ⟨rfl, hv⟩ := hv
  have hI := Iv.entry hv
  have hx := B.exec
  have hb := B.bytes
  have hr := B.returns
  have hts := atoms_spec (ws := wsJx4a65c_add_72be8) B.pre
  have hown : s.vm.findClass RJx4a65c = some m.cls := findClass_of_methodNamed B.named
  have hlocks := B.notSynchronized
  have f_48 := hts _ (List.mem_cons_of_mem _ (lwg_of t_134 rfl))
  have i_RJx4a65c : ∀ w ∈ u_ws RJx4a65c TJx4a65c 3, w ∈ wsJx4a65c_add_72be8 := fun w h => List.mem_cons_of_mem _ (iu_Jx4a65c w h)
  have hl := lv_entry ([.ref (ad 17), .ref (ad k), .ref G.2.2.2.2, .int (nI 0)]) (n := 4) (Nat.le_of_ble_eq_true rfl)
  rw [lg_entry_eq]
  generalize (lg_sl ([.ref (ad 17), .ref (ad k), .ref G.2.2.2.2, .int (nI 0)]) ++ List.replicate (4 - (lg_sl ([.ref (ad 17), .ref (ad k), .ref G.2.2.2.2, .int (nI 0)])).length) Slot.unset).toArray = ls at hl ⊢
  have hl : lv_has ls 4 [(0, .ref (ad 17)), (1, .ref (ad k)), (2, .ref G.2.2.2.2), (3, .int (nI 0))] := hl
  refine lv_iload_n hx hb dJx4a65c_add_72be8_0 rfl (lv_at hl 3 rfl) ?_
  refine lv_aload_n hx hb dJx4a65c_add_72be8_1 rfl (lv_at hl 2 rfl) ?_
  refine va_tlen (A := fr z) (v := nI 0) hx hb (iv_eT hI) hI.S rfl dJx4a65c_add_72be8_2 ?_
  refine lv_icmp_ne (tgt := 11) hx hb dJx4a65c_add_72be8_3 (by decide) (fun c_1 => ?_) (fun c_1 => ?_)
  · -- 3: nI 0 ne
    exact absurd (by decide) c_1
  · -- 3: nI 0 eq
    refine lv_aload_n hx hb dJx4a65c_add_72be8_6 rfl (lv_at hl 0 rfl) ?_
    refine k_Aq (va_runV (As := []) (rest := []) ⟨hx, hb, hml, hown, hts⟩ (c_Jx_grow0_0 l G z ad M (mcn := mcn) h17 fre0) (cwV 0 hts (gV (lwg_of t_761 rfl) (lwg_of t_763 rfl) (lwg_of ts_12 rfl) (lwg_of t_9 rfl) (lwg_of t_764 rfl)) rfl rfl rfl (by decide +kernel) ⟨Nat.le_of_ble_eq_true rfl, Nat.le_of_ble_eq_true rfl⟩) (hI.preV h17 rfl) rfl rfl hl.1 rfl (lv_room (Nat.le_of_ble_eq_true rfl)) dJx4a65c_add_72be8_7 ⟨Nat.le_of_ble_eq_true rfl, Nat.le_of_ble_eq_true rfl⟩) hI (fun r_2 ad_7 M_4 H_5 locs_6 hp_3 hI => ?_)
    obtain ⟨hr_8, hm_9, hm_10, hF_11, hAd_12⟩ := hp_3
    have hm_13 : M_4 17 = some (cList ad_7 mcn (ad_7 18) 0) := hm_9
    have hm_14 : M_4 18 = some (aO G 10 (fun _ => none)) := hm_10
    have hAd_15 : ∀ j : Nat, j ≠ 18 → ad_7 j = ad j := hAd_12
    have hF_16 : ∀ j : Nat, j ≠ 17 → j ≠ 18 → M_4 j = M j := hF_11
    have hm_17 : M_4 k = some (cLine ad_7 k kd fm to) := by rw [hF_16 k (by omega) (by omega), hvk]; simp only [cLine, hAd_15 (k + 1) (by omega)]
    have hF_18 : ∀ j : Nat, j ≠ 17 → j ≠ 18 → M_4 j = M j := fun j q0 q1 => (hF_16 j q0 q1)
    clear hF_11
    rw [hr_8]; show W _ _ _ _ _ _ _ _ _ _ _ _ _ _ _ (F0 m 10 ls (.ref (ad_7 18) :: []))
    refine lv_astore_n (lv' := [(2, .ref (ad_7 18)), (0, .ref (ad 17)), (1, .ref (ad k)), (3, .int (nI 0))]) hx hb dJx4a65c_add_72be8_10 rfl hl (by decide) rfl (fun ls hl => ?_)
    refine lv_aload_n hx hb dJx4a65c_add_72be8_11 rfl (lv_at hl 0 rfl) ?_
    refine lv_iload_n hx hb dJx4a65c_add_72be8_12 rfl (lv_at hl 3 rfl) ?_
    refine lv_aload_n hx hb dJx4a65c_add_72be8_13 rfl (lv_at hl 2 rfl) ?_
    refine n_eqv (show Value.ref (ad k) = .ref (ad_7 k) from by rw [hAd_15 k (by omega)]) ?_
    refine h_aast (i := 0) hx hb hI hm_14 hm_17 rfl (by omega) (by omega) dJx4a65c_add_72be8_14 (fun M_19 H_20 locs_21 eM_22 hI => ?_)
    have hm_23 : M_19 k = some (cLine ad_7 k kd fm to) := by rw [eM_22, va_up_ne _ _ (by omega)]; exact hm_17
    have hm_24 : M_19 17 = some (cList ad_7 mcn (ad_7 18) 0) := by rw [eM_22, va_up_ne _ _ (by decide)]; exact hm_13
    have hm_25 : M_19 18 = some (aO G 10 (va_up (fun _ => none) 0 (some (ad_7 k)))) := by rw [eM_22]; exact va_up_self _ _ _
    have hF_26 : ∀ j : Nat, j ≠ 17 → j ≠ 18 → M_19 j = M j := fun j q0 q1 => by rw [eM_22, va_up_ne _ _ q1]; exact hF_18 j q0 q1
    clear hm_17 hm_13 hm_14 hF_18
    refine lv_aload_n hx hb dJx4a65c_add_72be8_15 rfl (lv_at hl 1 rfl) ?_
    refine n_eqv (show Value.ref (ad 17) = .ref (ad_7 17) from by rw [hAd_15 17 (by decide)]) ?_
    refine lv_iload_n hx hb dJx4a65c_add_72be8_16 rfl (lv_at hl 3 rfl) ?_
    refine lv_iconst (v := nI 1) hx hb dJx4a65c_add_72be8_17 (by decide) ?_
    refine lv_iadd hx hb dJx4a65c_add_72be8_18 ?_
    refine n_eq (nI_add 0 1) ?_
    refine h_put (C := RJx4a65c) (T := TJx4a65c) (N := 3) hx hb hts i_RJx4a65c tyJx4a65c tyJx4a65c_ok nmJx4a65c hown hI hm_24 rfl 2 (by decide) f_48 rfl rfl rfl rfl (Nat.le_of_ble_eq_true rfl) dJx4a65c_add_72be8_19 (fun M_27 H_28 locs_29 eM_30 hI => ?_)
    have hm_31 : M_27 k = some (cLine ad_7 k kd fm to) := by rw [eM_30, va_up_ne _ _ (by omega)]; exact hm_23
    have hm_32 : M_27 17 = some (cList ad_7 mcn (ad_7 18) (0 + 1)) := by rw [eM_30]; exact va_up_self _ _ _
    have hm_33 : M_27 18 = some (aO G 10 (va_up (fun _ => none) 0 (some (ad_7 k)))) := by rw [eM_30, va_up_ne _ _ (by decide)]; exact hm_25
    have hF_34 : ∀ j : Nat, j ≠ 17 → j ≠ 18 → M_27 j = M j := fun j q0 q1 => by rw [eM_30, va_up_ne _ _ q0]; exact hF_26 j q0 q1
    clear hm_23 hm_24 hm_25 hF_26
    exact e_Av hx hb hr hlocks hI ⟨hm_32, hm_33, (fun j q0 q1 => hF_34 j q0 q1), (fun j q0 => (by show ad_7 j = ad j; rw [hAd_15 j q0]))⟩ dJx4a65c_add_72be8_22

/-- Jx4a65c_add_72be8 -/
abbrev rm_c_Jx_add3_b : Room := { frames := 0, cells := 0, slots := 0, locals := 0 }
set_option maxHeartbeats 4000000 in
set_option maxRecDepth 100000 in
theorem c_Jx_add3_b (l : Launch) (G : GG) (z : Nat) (ad : Nat → Nat) (M : Mem) {mcn : Int32} {ed : Nat} {cap : Nat} {n : Nat} {lf : Nat → Option Nat} {k : Nat} {kd : Nat} {fm : Int32} {to : Int32} (h17 : M 17 = some (cList ad mcn ed n)) (h18 : M 18 = some (aO G cap lf)) (hvk : M k = some (cLine ad k kd fm to)) (hk99 : 99 < k) (hn : n < cap ∧ cap ≤ 1000) : Met l yJx4a65c_add_72be8 wsJx4a65c_add_72be8 rm_c_Jx_add3_b (Pr G z ad M [.ref (ad 17), .ref (ad k), .ref (ad 18), .int (nI n)]) (Nv G z ad (fun (M' : Mem) => M' 17 = some (cList ad mcn ed (n + 1)) ∧ M' 18 = some (aO G cap (va_up lf n (some (ad k)))) ∧ (∀ j : Nat, j ≠ 17 → j ≠ 18 → M' j = M j))) 0 0 (fr z) := by
  refine Met.ofW (cc := cJx4a65c_add_72be8) (maxL := 4) (ret := none) (by decide) rfl ?_
  intro p e s m args below meth c s₁ B hml hv
  obtain ⟨rfl, hv⟩ := hv
  have hI := Iv.entry hv
  have hx := B.exec
  have hb := B.bytes
  have hr := B.returns
  have hts := atoms_spec (ws := wsJx4a65c_add_72be8) B.pre
  have hown : s.vm.findClass RJx4a65c = some m.cls := findClass_of_methodNamed B.named
  have hlocks := B.notSynchronized
  have f_48 := hts _ (List.mem_cons_of_mem _ (lwg_of t_134 rfl))
  have i_RJx4a65c : ∀ w ∈ u_ws RJx4a65c TJx4a65c 3, w ∈ wsJx4a65c_add_72be8 := fun w h => List.mem_cons_of_mem _ (iu_Jx4a65c w h)
  have hl := lv_entry ([.ref (ad 17), .ref (ad k), .ref (ad 18), .int (nI n)]) (n := 4) (Nat.le_of_ble_eq_true rfl)
  rw [lg_entry_eq]
  generalize (lg_sl ([.ref (ad 17), .ref (ad k), .ref (ad 18), .int (nI n)]) ++ List.replicate (4 - (lg_sl ([.ref (ad 17), .ref (ad k), .ref (ad 18), .int (nI n)])).length) Slot.unset).toArray = ls at hl ⊢
  have hl : lv_has ls 4 [(0, .ref (ad 17)), (1, .ref (ad k)), (2, .ref (ad 18)), (3, .int (nI n))] := hl
  refine lv_iload_n hx hb dJx4a65c_add_72be8_0 rfl (lv_at hl 3 rfl) ?_
  refine lv_aload_n hx hb dJx4a65c_add_72be8_1 rfl (lv_at hl 2 rfl) ?_
  refine h_alenq hx hb hI h18 dJx4a65c_add_72be8_2 ?_
  refine lv_icmp_ne (tgt := 11) hx hb dJx4a65c_add_72be8_3 (by decide) (fun c_1 => ?_) (fun c_1 => ?_)
  · -- 3: nI n ne
    have c_1 : n ≠ cap := by have h := mt (nI_eq (a := n) (b := cap) (by omega) (by omega)).mpr c_1; omega
    refine lv_aload_n hx hb dJx4a65c_add_72be8_11 rfl (lv_at hl 2 rfl) ?_
    refine lv_iload_n hx hb dJx4a65c_add_72be8_12 rfl (lv_at hl 3 rfl) ?_
    refine lv_aload_n hx hb dJx4a65c_add_72be8_13 rfl (lv_at hl 1 rfl) ?_
    refine h_aast (i := n) hx hb hI h18 hvk rfl (by omega) (by omega) dJx4a65c_add_72be8_14 (fun M_2 H_3 locs_4 eM_5 hI => ?_)
    have hm_6 : M_2 17 = some (cList ad mcn ed n) := by rw [eM_5, va_up_ne _ _ (by decide)]; exact h17
    have hm_7 : M_2 18 = some (aO G cap (va_up lf n (some (ad k)))) := by rw [eM_5]; exact va_up_self _ _ _
    have hm_8 : M_2 k = some (cLine ad k kd fm to) := by rw [eM_5, va_up_ne _ _ (by omega)]; exact hvk
    have hF_9 : ∀ j : Nat, j ≠ 18 → M_2 j = M j := fun j q0 => by rw [eM_5, va_up_ne _ _ q0]
    refine lv_aload_n hx hb dJx4a65c_add_72be8_15 rfl (lv_at hl 0 rfl) ?_
    refine lv_iload_n hx hb dJx4a65c_add_72be8_16 rfl (lv_at hl 3 rfl) ?_
    refine lv_iconst (v := nI 1) hx hb dJx4a65c_add_72be8_17 (by decide) ?_
    refine lv_iadd hx hb dJx4a65c_add_72be8_18 ?_
    refine n_eq (nI_add n 1) ?_
    refine h_put (C := RJx4a65c) (T := TJx4a65c) (N := 3) hx hb hts i_RJx4a65c tyJx4a65c tyJx4a65c_ok nmJx4a65c hown hI hm_6 rfl 2 (by decide) f_48 rfl rfl rfl rfl (Nat.le_of_ble_eq_true rfl) dJx4a65c_add_72be8_19 (fun M_10 H_11 locs_12 eM_13 hI => ?_)
    have hm_14 : M_10 17 = some (cList ad mcn ed (n + 1)) := by rw [eM_13]; exact va_up_self _ _ _
    have hm_15 : M_10 18 = some (aO G cap (va_up lf n (some (ad k)))) := by rw [eM_13, va_up_ne _ _ (by decide)]; exact hm_7
    have hm_16 : M_10 k = some (cLine ad k kd fm to) := by rw [eM_13, va_up_ne _ _ (by omega)]; exact hm_8
    have hF_17 : ∀ j : Nat, j ≠ 18 → j ≠ 17 → M_10 j = M j := fun j q0 q1 => by rw [eM_13, va_up_ne _ _ q1]; exact hF_9 j q0
    exact e_Nv hx hb hr hlocks hI ⟨hm_14, hm_15, (fun j q0 q1 => hF_17 j q1 q0)⟩ dJx4a65c_add_72be8_22
  · -- 3: nI n eq
    have c_1 : n = cap := (nI_eq (a := n) (b := cap) (by omega) (by omega)).mp (c_1)
    omega

/-- Jx4a65c_add_72be8 -/
abbrev rm_c_Jx_add3_1 : Room := { frames := 5, cells := 1, slots := 200, locals := 147 }
set_option maxHeartbeats 4000000 in
set_option maxRecDepth 100000 in
theorem c_Jx_add3_1 (l : Launch) (G : GG) (z : Nat) (ad : Nat → Nat) (M : Mem) {mcn : Int32} {ed : Nat} {n : Nat} {lf : Nat → Option Nat} {k : Nat} {kd : Nat} {fm : Int32} {to : Int32} (h17 : M 17 = some (cList ad mcn ed n)) (h18 : M 18 = some (aO G n lf)) (hvk : M k = some (cLine ad k kd fm to)) (hk99 : 99 < k) (hed : ed = ad 18) (hn : 0 < n ∧ n < 120) (hel : ∀ i, i < n → ∃ kv vs, lf i = some (ad kv) ∧ M kv = some (.inr (3, vs)) ∧ kv ≠ 29) (fre0 : M 29 = none) : Met l yJx4a65c_add_72be8 wsJx4a65c_add_72be8 rm_c_Jx_add3_1 (Pr G z ad M [.ref (ad 17), .ref (ad k), .ref (ad 18), .int (nI n)]) (Av G z (fun (u : (Nat → Nat) × Mem) => u.2 17 = some (cList u.1 mcn (u.1 18) (n + 1)) ∧ u.2 18 = some (aO G (n + max 1 (n / 2)) (va_up (va_cpy lf (fun _ => none) 0 0 n) n (some (u.1 k)))) ∧ (∀ j : Nat, j ≠ 17 → j ≠ 18 → u.2 j = M j) ∧ (∀ j : Nat, j ≠ 18 → u.1 j = ad j))) 1 200 (fr z) := by
  refine Met.ofW (cc := cJx4a65c_add_72be8) (maxL := 4) (ret := none) (by decide) rfl ?_
  intro p e s m args below meth c s₁ B hml hv
  obtain ⟨rfl, hv⟩ := hv
  have hI := Iv.entry hv
  have hx := B.exec
  have hb := B.bytes
  have hr := B.returns
  have hts := atoms_spec (ws := wsJx4a65c_add_72be8) B.pre
  have hown : s.vm.findClass RJx4a65c = some m.cls := findClass_of_methodNamed B.named
  have hlocks := B.notSynchronized
  have f_48 := hts _ (List.mem_cons_of_mem _ (lwg_of t_134 rfl))
  have i_RJx4a65c : ∀ w ∈ u_ws RJx4a65c TJx4a65c 3, w ∈ wsJx4a65c_add_72be8 := fun w h => List.mem_cons_of_mem _ (iu_Jx4a65c w h)
  have hl := lv_entry ([.ref (ad 17), .ref (ad k), .ref (ad 18), .int (nI n)]) (n := 4) (Nat.le_of_ble_eq_true rfl)
  rw [lg_entry_eq]
  generalize (lg_sl ([.ref (ad 17), .ref (ad k), .ref (ad 18), .int (nI n)]) ++ List.replicate (4 - (lg_sl ([.ref (ad 17), .ref (ad k), .ref (ad 18), .int (nI n)])).length) Slot.unset).toArray = ls at hl ⊢
  have hl : lv_has ls 4 [(0, .ref (ad 17)), (1, .ref (ad k)), (2, .ref (ad 18)), (3, .int (nI n))] := hl
  refine lv_iload_n hx hb dJx4a65c_add_72be8_0 rfl (lv_at hl 3 rfl) ?_
  refine lv_aload_n hx hb dJx4a65c_add_72be8_1 rfl (lv_at hl 2 rfl) ?_
  refine h_alenq hx hb hI h18 dJx4a65c_add_72be8_2 ?_
  refine lv_icmp_ne (tgt := 11) hx hb dJx4a65c_add_72be8_3 (by decide) (fun c_1 => ?_) (fun c_1 => ?_)
  · -- 3: nI n ne
    have c_1 : n ≠ n := by have h := mt (nI_eq (a := n) (b := n) (by omega) (by omega)).mpr c_1; omega
    omega
  · -- 3: nI n eq
    have c_1 : n = n := (nI_eq (a := n) (b := n) (by omega) (by omega)).mp (c_1)
    refine lv_aload_n hx hb dJx4a65c_add_72be8_6 rfl (lv_at hl 0 rfl) ?_
    refine k_Aq (va_runV (As := []) (rest := []) ⟨hx, hb, hml, hown, hts⟩ (c_Jx_grow0_1 l G z ad M (mcn := mcn) (ed := ed) (n := n) (lf := lf) h17 h18 (by omega) (by omega) hel fre0) (cwV 0 hts (gV (lwg_of t_761 rfl) (lwg_of t_763 rfl) (lwg_of ts_12 rfl) (lwg_of t_9 rfl) (lwg_of t_764 rfl)) rfl rfl rfl (by decide +kernel) ⟨Nat.le_of_ble_eq_true rfl, Nat.le_of_ble_eq_true rfl⟩) (hI.preV h17 rfl) rfl rfl hl.1 rfl (lv_room (Nat.le_of_ble_eq_true rfl)) dJx4a65c_add_72be8_7 ⟨Nat.le_of_ble_eq_true rfl, Nat.le_of_ble_eq_true rfl⟩) hI (fun r_2 ad_7 M_4 H_5 locs_6 hp_3 hI => ?_)
    obtain ⟨hr_8, hm_9, hm_10, hF_11, hAd_12⟩ := hp_3
    have hm_13 : M_4 17 = some (cList ad_7 mcn (ad_7 18) n) := hm_9
    have hm_14 : M_4 18 = some (aO G (n + max 1 (n / 2)) (va_cpy lf (fun _ => none) 0 0 n)) := hm_10
    have hAd_15 : ∀ j : Nat, j ≠ 18 → ad_7 j = ad j := hAd_12
    have hF_16 : ∀ j : Nat, j ≠ 17 → j ≠ 18 → M_4 j = M j := hF_11
    have hm_17 : M_4 k = some (cLine ad_7 k kd fm to) := by rw [hF_16 k (by omega) (by omega), hvk]; simp only [cLine, hAd_15 (k + 1) (by omega)]
    have fr_18 : M_4 29 = none := by rw [hF_16 29 (by decide) (by decide)]; exact fre0
    have hF_19 : ∀ j : Nat, j ≠ 17 → j ≠ 18 → M_4 j = M j := fun j q0 q1 => (hF_16 j q0 q1)
    clear hF_11
    rw [hr_8]; show W _ _ _ _ _ _ _ _ _ _ _ _ _ _ _ (F0 m 10 ls (.ref (ad_7 18) :: []))
    refine lv_astore_n (lv' := [(2, .ref (ad_7 18)), (0, .ref (ad 17)), (1, .ref (ad k)), (3, .int (nI n))]) hx hb dJx4a65c_add_72be8_10 rfl hl (by decide) rfl (fun ls hl => ?_)
    refine lv_aload_n hx hb dJx4a65c_add_72be8_11 rfl (lv_at hl 0 rfl) ?_
    refine lv_iload_n hx hb dJx4a65c_add_72be8_12 rfl (lv_at hl 3 rfl) ?_
    refine lv_aload_n hx hb dJx4a65c_add_72be8_13 rfl (lv_at hl 2 rfl) ?_
    refine n_eqv (show Value.ref (ad k) = .ref (ad_7 k) from by rw [hAd_15 k (by omega)]) ?_
    refine h_aast (i := n) hx hb hI hm_14 hm_17 rfl (by omega) (by omega) dJx4a65c_add_72be8_14 (fun M_20 H_21 locs_22 eM_23 hI => ?_)
    have hm_24 : M_20 k = some (cLine ad_7 k kd fm to) := by rw [eM_23, va_up_ne _ _ (by omega)]; exact hm_17
    have hm_25 : M_20 17 = some (cList ad_7 mcn (ad_7 18) n) := by rw [eM_23, va_up_ne _ _ (by decide)]; exact hm_13
    have hm_26 : M_20 18 = some (aO G (n + max 1 (n / 2)) (va_up (va_cpy lf (fun _ => none) 0 0 n) n (some (ad_7 k)))) := by rw [eM_23]; exact va_up_self _ _ _
    have fr_27 : M_20 29 = none := by rw [eM_23, va_up_ne _ _ (by decide)]; exact fr_18
    have hF_28 : ∀ j : Nat, j ≠ 17 → j ≠ 18 → M_20 j = M j := fun j q0 q1 => by rw [eM_23, va_up_ne _ _ q1]; exact hF_19 j q0 q1
    clear hm_17 hm_13 hm_14 fr_18 hF_19
    refine lv_aload_n hx hb dJx4a65c_add_72be8_15 rfl (lv_at hl 1 rfl) ?_
    refine n_eqv (show Value.ref (ad 17) = .ref (ad_7 17) from by rw [hAd_15 17 (by decide)]) ?_
    refine lv_iload_n hx hb dJx4a65c_add_72be8_16 rfl (lv_at hl 3 rfl) ?_
    refine lv_iconst (v := nI 1) hx hb dJx4a65c_add_72be8_17 (by decide) ?_
    refine lv_iadd hx hb dJx4a65c_add_72be8_18 ?_
    refine n_eq (nI_add n 1) ?_
    refine h_put (C := RJx4a65c) (T := TJx4a65c) (N := 3) hx hb hts i_RJx4a65c tyJx4a65c tyJx4a65c_ok nmJx4a65c hown hI hm_25 rfl 2 (by decide) f_48 rfl rfl rfl rfl (Nat.le_of_ble_eq_true rfl) dJx4a65c_add_72be8_19 (fun M_29 H_30 locs_31 eM_32 hI => ?_)
    have hm_33 : M_29 k = some (cLine ad_7 k kd fm to) := by rw [eM_32, va_up_ne _ _ (by omega)]; exact hm_24
    have hm_34 : M_29 17 = some (cList ad_7 mcn (ad_7 18) (n + 1)) := by rw [eM_32]; exact va_up_self _ _ _
    have hm_35 : M_29 18 = some (aO G (n + max 1 (n / 2)) (va_up (va_cpy lf (fun _ => none) 0 0 n) n (some (ad_7 k)))) := by rw [eM_32, va_up_ne _ _ (by decide)]; exact hm_26
    have fr_36 : M_29 29 = none := by rw [eM_32, va_up_ne _ _ (by decide)]; exact fr_27
    have hF_37 : ∀ j : Nat, j ≠ 17 → j ≠ 18 → M_29 j = M j := fun j q0 q1 => by rw [eM_32, va_up_ne _ _ q0]; exact hF_28 j q0 q1
    clear hm_24 hm_25 hm_26 fr_27 hF_28
    exact e_Av hx hb hr hlocks hI ⟨hm_34, hm_35, (fun j q0 q1 => hF_37 j q0 q1), (fun j q0 => (by show ad_7 j = ad j; rw [hAd_15 j q0]))⟩ dJx4a65c_add_72be8_22

/-- Jx4a65c_add_9ea2d -/
abbrev rm_c_Jx_add1_0 : Room := { frames := 4, cells := 1, slots := 200, locals := 96 }
set_option maxHeartbeats 4000000 in
set_option maxRecDepth 100000 in
theorem c_Jx_add1_0 (l : Launch) (G : GG) (z : Nat) (ad : Nat → Nat) (M : Mem) {mcn : Int32} {k : Nat} {kd : Nat} {fm : Int32} {to : Int32} (h17 : M 17 = some (cList ad mcn G.2.2.2.2 0)) (hvk : M k = some (cLine ad k kd fm to)) (hk99 : 99 < k) (fre0 : M 18 = none) : Met l yJx4a65c_add_9ea2d wsJx4a65c_add_9ea2d rm_c_Jx_add1_0 (Pr G z ad M [.ref (ad 17), .ref (ad k)]) (Ai G z (fun (r : Int32) (u : (Nat → Nat) × Mem) => r = nI 1 ∧ u.2 17 = some (cList u.1 (mcn + nI 1) (u.1 18) 1) ∧ u.2 18 = some (aO G 10 (va_up (fun _ => none) 0 (some (u.1 k)))) ∧ (∀ j : Nat, j ≠ 17 → j ≠ 18 → u.2 j = M j) ∧ (∀ j : Nat, j ≠ 18 → u.1 j = ad j))) 1 200 (fr z) := by
  refine Met.ofW (cc := cJx4a65c_add_9ea2d) (maxL := 2) (ret := (some .boolean)) (by decide) rfl ?_
  intro p e s m args below meth c s₁ B hml hv
  obtain ⟨rfl, hv⟩ := hv
  have hI := Iv.entry hv
  have hx := B.exec
  have hb := B.bytes
  have hr := B.returns
  have hts := atoms_spec (ws := wsJx4a65c_add_9ea2d) B.pre
  have hown : s.vm.findClass RJx4a65c = some m.cls := findClass_of_methodNamed B.named
  have hlocks := B.notSynchronized
  have i_RJx4a65c : ∀ w ∈ u_ws RJx4a65c TJx4a65c 3, w ∈ wsJx4a65c_add_9ea2d := fun w h => List.mem_cons_of_mem _ (iu_Jx4a65c w h)
  have f_63 := hts _ (List.mem_cons_of_mem _ (lwg_of t_136 rfl))
  have sf_137 := hts _ (List.mem_cons_of_mem _ (lwg_of t_137 rfl))
  have f_9 := hts _ (List.mem_cons_of_mem _ (lwg_of t_133 rfl))
  have f_48 := hts _ (List.mem_cons_of_mem _ (lwg_of t_134 rfl))
  have hl := lv_entry ([.ref (ad 17), .ref (ad k)]) (n := 2) (Nat.le_of_ble_eq_true rfl)
  rw [lg_entry_eq]
  generalize (lg_sl ([.ref (ad 17), .ref (ad k)]) ++ List.replicate (2 - (lg_sl ([.ref (ad 17), .ref (ad k)])).length) Slot.unset).toArray = ls at hl ⊢
  have hl : lv_has ls 2 [(0, .ref (ad 17)), (1, .ref (ad k))] := hl
  refine lv_aload_n hx hb dJx4a65c_add_9ea2d_0 rfl (lv_at hl 0 rfl) ?_
  refine lv_dup hx hb dJx4a65c_add_9ea2d_1 rfl ?_
  refine h_getS (C := RJx4a65c) (T := TJx4a65c) (N := 3) hx hb hts i_RJx4a65c hown hI h17 rfl 0 (by decide) f_63 (fun x9 h9 => u_same sf_137 x9 h9) rfl dJx4a65c_add_9ea2d_2 ?_
  refine lv_iconst (v := nI 1) hx hb dJx4a65c_add_9ea2d_5 (by decide) ?_
  refine lv_iadd hx hb dJx4a65c_add_9ea2d_6 ?_
  refine h_putS (C := RJx4a65c) (T := TJx4a65c) (N := 3) hx hb hts i_RJx4a65c tyJx4a65c tyJx4a65c_ok nmJx4a65c hown hI h17 rfl 0 (by decide) f_63 (fun x9 h9 => u_same sf_137 x9 h9) rfl rfl rfl (Nat.le_of_ble_eq_true rfl) dJx4a65c_add_9ea2d_7 (fun M_1 H_2 locs_3 eM_4 hI => ?_)
  have hm_5 : M_1 17 = some (cList ad (mcn + (nI 1)) G.2.2.2.2 0) := by rw [eM_4]; exact va_up_self _ _ _
  have hm_6 : M_1 k = some (cLine ad k kd fm to) := by rw [eM_4, va_up_ne _ _ (by omega)]; exact hvk
  have fr_7 : M_1 18 = none := by rw [eM_4, va_up_ne _ _ (by decide)]; exact fre0
  have hF_8 : ∀ j : Nat, j ≠ 17 → M_1 j = M j := fun j q0 => by rw [eM_4, va_up_ne _ _ q0]
  refine lv_aload_n hx hb dJx4a65c_add_9ea2d_10 rfl (lv_at hl 0 rfl) ?_
  refine lv_aload_n hx hb dJx4a65c_add_9ea2d_11 rfl (lv_at hl 1 rfl) ?_
  refine lv_aload_n hx hb dJx4a65c_add_9ea2d_12 rfl (lv_at hl 0 rfl) ?_
  refine h_get (C := RJx4a65c) (T := TJx4a65c) (N := 3) hx hb hts i_RJx4a65c hown hI hm_5 rfl 1 (by decide) f_9 rfl rfl dJx4a65c_add_9ea2d_13 ?_
  refine lv_aload_n hx hb dJx4a65c_add_9ea2d_16 rfl (lv_at hl 0 rfl) ?_
  refine h_get (C := RJx4a65c) (T := TJx4a65c) (N := 3) hx hb hts i_RJx4a65c hown hI hm_5 rfl 2 (by decide) f_48 rfl rfl dJx4a65c_add_9ea2d_17 ?_
  refine k_Av (va_runV (As := [.ref (ad k), .ref G.2.2.2.2, .int (nI 0)]) (rest := []) ⟨hx, hb, hml, hown, hts⟩ (c_Jx_add3_0 l G z ad M_1 (mcn := mcn + (nI 1)) (k := k) (kd := kd) (fm := fm) (to := to) hm_5 hm_6 (by omega) fr_7) (cwV 3 hts (gV (lwg_of t_757 rfl) (lwg_of t_759 rfl) (lwg_of ts_11 rfl) (lwg_of t_9 rfl) (lwg_of t_760 rfl)) rfl rfl rfl (by decide +kernel) ⟨Nat.le_of_ble_eq_true rfl, Nat.le_of_ble_eq_true rfl⟩) (hI.preV hm_5 rfl) rfl rfl hl.1 rfl (lv_room (Nat.le_of_ble_eq_true rfl)) dJx4a65c_add_9ea2d_20 ⟨Nat.le_of_ble_eq_true rfl, Nat.le_of_ble_eq_true rfl⟩) hI (fun ad_14 M_11 H_12 locs_13 hp_10 hI => ?_)
  obtain ⟨hm_15, hm_16, hF_17, hAd_18⟩ := hp_10
  have hm_19 : M_11 17 = some (cList ad_14 (mcn + (nI 1)) (ad_14 18) 1) := hm_15
  have hm_20 : M_11 18 = some (aO G 10 (va_up (fun _ => none) 0 (some (ad_14 k)))) := hm_16
  have hAd_21 : ∀ j : Nat, j ≠ 18 → ad_14 j = ad j := hAd_18
  have hF_22 : ∀ j : Nat, j ≠ 17 → j ≠ 18 → M_11 j = M_1 j := hF_17
  have hm_23 : M_11 k = some (cLine ad_14 k kd fm to) := by rw [hF_22 k (by omega) (by omega), hm_6]; simp only [cLine, hAd_21 (k + 1) (by omega)]
  clear hm_6
  have hF_24 : ∀ j : Nat, j ≠ 17 → j ≠ 18 → M_11 j = M j := fun j q0 q1 => (hF_22 j q0 q1).trans (hF_8 j q0)
  clear hF_8 hF_17
  refine lv_iconst (v := nI 1) hx hb dJx4a65c_add_9ea2d_23 (by decide) ?_
  exact e_Ai hx hb hr rfl hlocks hI ⟨rfl, hm_19, hm_20, (fun j q0 q1 => hF_24 j q0 q1), (fun j q0 => (by show ad_14 j = ad j; rw [hAd_21 j q0]))⟩ dJx4a65c_add_9ea2d_24

/-- Jx4a65c_add_9ea2d -/
abbrev rm_c_Jx_add1_b : Room := { frames := 1, cells := 0, slots := 0, locals := 23 }
set_option maxHeartbeats 4000000 in
set_option maxRecDepth 100000 in
theorem c_Jx_add1_b (l : Launch) (G : GG) (z : Nat) (ad : Nat → Nat) (M : Mem) {mcn : Int32} {ed : Nat} {cap : Nat} {n : Nat} {lf : Nat → Option Nat} {k : Nat} {kd : Nat} {fm : Int32} {to : Int32} (h17 : M 17 = some (cList ad mcn ed n)) (h18 : M 18 = some (aO G cap lf)) (hvk : M k = some (cLine ad k kd fm to)) (hk99 : 99 < k) (hed : ed = ad 18) (hn : n < cap ∧ cap ≤ 1000) : Met l yJx4a65c_add_9ea2d wsJx4a65c_add_9ea2d rm_c_Jx_add1_b (Pr G z ad M [.ref (ad 17), .ref (ad k)]) (Ni G z ad (fun (r : Int32) (M' : Mem) => r = nI 1 ∧ M' 17 = some (cList ad (mcn + nI 1) ed (n + 1)) ∧ M' 18 = some (aO G cap (va_up lf n (some (ad k)))) ∧ (∀ j : Nat, j ≠ 17 → j ≠ 18 → M' j = M j))) 0 0 (fr z) := by
  refine Met.ofW (cc := cJx4a65c_add_9ea2d) (maxL := 2) (ret := (some .boolean)) (by decide) rfl ?_
  intro p e s m args below meth c s₁ B hml hv
  obtain ⟨rfl, hv⟩ := hv
  have hI := Iv.entry hv
  have hx := B.exec
  have hb := B.bytes
  have hr := B.returns
  have hts := atoms_spec (ws := wsJx4a65c_add_9ea2d) B.pre
  have hown : s.vm.findClass RJx4a65c = some m.cls := findClass_of_methodNamed B.named
  have hlocks := B.notSynchronized
  have i_RJx4a65c : ∀ w ∈ u_ws RJx4a65c TJx4a65c 3, w ∈ wsJx4a65c_add_9ea2d := fun w h => List.mem_cons_of_mem _ (iu_Jx4a65c w h)
  have f_63 := hts _ (List.mem_cons_of_mem _ (lwg_of t_136 rfl))
  have sf_137 := hts _ (List.mem_cons_of_mem _ (lwg_of t_137 rfl))
  have f_9 := hts _ (List.mem_cons_of_mem _ (lwg_of t_133 rfl))
  have f_48 := hts _ (List.mem_cons_of_mem _ (lwg_of t_134 rfl))
  have hl := lv_entry ([.ref (ad 17), .ref (ad k)]) (n := 2) (Nat.le_of_ble_eq_true rfl)
  rw [lg_entry_eq]
  generalize (lg_sl ([.ref (ad 17), .ref (ad k)]) ++ List.replicate (2 - (lg_sl ([.ref (ad 17), .ref (ad k)])).length) Slot.unset).toArray = ls at hl ⊢
  have hl : lv_has ls 2 [(0, .ref (ad 17)), (1, .ref (ad k))] := hl
  refine lv_aload_n hx hb dJx4a65c_add_9ea2d_0 rfl (lv_at hl 0 rfl) ?_
  refine lv_dup hx hb dJx4a65c_add_9ea2d_1 rfl ?_
  refine h_getS (C := RJx4a65c) (T := TJx4a65c) (N := 3) hx hb hts i_RJx4a65c hown hI h17 rfl 0 (by decide) f_63 (fun x9 h9 => u_same sf_137 x9 h9) rfl dJx4a65c_add_9ea2d_2 ?_
  refine lv_iconst (v := nI 1) hx hb dJx4a65c_add_9ea2d_5 (by decide) ?_
  refine lv_iadd hx hb dJx4a65c_add_9ea2d_6 ?_
  refine h_putS (C := RJx4a65c) (T := TJx4a65c) (N := 3) hx hb hts i_RJx4a65c tyJx4a65c tyJx4a65c_ok nmJx4a65c hown hI h17 rfl 0 (by decide) f_63 (fun x9 h9 => u_same sf_137 x9 h9) rfl rfl rfl (Nat.le_of_ble_eq_true rfl) dJx4a65c_add_9ea2d_7 (fun M_1 H_2 locs_3 eM_4 hI => ?_)
  have hm_5 : M_1 17 = some (cList ad (mcn + (nI 1)) ed n) := by rw [eM_4]; exact va_up_self _ _ _
  have hm_6 : M_1 18 = some (aO G cap lf) := by rw [eM_4, va_up_ne _ _ (by decide)]; exact h18
  have hm_7 : M_1 k = some (cLine ad k kd fm to) := by rw [eM_4, va_up_ne _ _ (by omega)]; exact hvk
  have hF_8 : ∀ j : Nat, j ≠ 17 → M_1 j = M j := fun j q0 => by rw [eM_4, va_up_ne _ _ q0]
  refine lv_aload_n hx hb dJx4a65c_add_9ea2d_10 rfl (lv_at hl 0 rfl) ?_
  refine lv_aload_n hx hb dJx4a65c_add_9ea2d_11 rfl (lv_at hl 1 rfl) ?_
  refine lv_aload_n hx hb dJx4a65c_add_9ea2d_12 rfl (lv_at hl 0 rfl) ?_
  refine h_get (C := RJx4a65c) (T := TJx4a65c) (N := 3) hx hb hts i_RJx4a65c hown hI hm_5 rfl 1 (by decide) f_9 rfl rfl dJx4a65c_add_9ea2d_13 ?_
  refine n_eqv (show _ = .ref (ad 18) from congrArg Value.ref hed) ?_
  refine lv_aload_n hx hb dJx4a65c_add_9ea2d_16 rfl (lv_at hl 0 rfl) ?_
  refine h_get (C := RJx4a65c) (T := TJx4a65c) (N := 3) hx hb hts i_RJx4a65c hown hI hm_5 rfl 2 (by decide) f_48 rfl rfl dJx4a65c_add_9ea2d_17 ?_
  refine k_Nv (va_runV (As := [.ref (ad k), .ref (ad 18), .int (nI n)]) (rest := []) ⟨hx, hb, hml, hown, hts⟩ (c_Jx_add3_b l G z ad M_1 (mcn := mcn + (nI 1)) (ed := ed) (cap := cap) (n := n) (lf := lf) (k := k) (kd := kd) (fm := fm) (to := to) hm_5 hm_6 hm_7 (by omega) (by omega)) (cwV 3 hts (gV (lwg_of t_757 rfl) (lwg_of t_759 rfl) (lwg_of ts_11 rfl) (lwg_of t_9 rfl) (lwg_of t_760 rfl)) rfl rfl rfl (by decide +kernel) ⟨Nat.le_of_ble_eq_true rfl, Nat.le_of_ble_eq_true rfl⟩) (hI.preV hm_5 rfl) rfl rfl hl.1 rfl (lv_room (Nat.le_of_ble_eq_true rfl)) dJx4a65c_add_9ea2d_20 ⟨Nat.le_of_ble_eq_true rfl, Nat.le_of_ble_eq_true rfl⟩) hI (fun M_11 H_12 locs_13 hp_10 hI => ?_)
  obtain ⟨hm_14, hm_15, hF_16⟩ := hp_10
  have hm_17 : M_11 k = some (cLine ad k kd fm to) := by rw [hF_16 k (by omega) (by omega)]; exact hm_7
  have hF_18 : ∀ j : Nat, j ≠ 17 → j ≠ 18 → M_11 j = M j := fun j q0 q1 => (hF_16 j q0 q1).trans (hF_8 j q0)
  refine lv_iconst (v := nI 1) hx hb dJx4a65c_add_9ea2d_23 (by decide) ?_
  exact e_Ni hx hb hr rfl hlocks hI ⟨rfl, hm_14, hm_15, (fun j q0 q1 => hF_18 j q0 q1)⟩ dJx4a65c_add_9ea2d_24

/-- Jx4a65c_add_9ea2d -/
abbrev rm_c_Jx_add1_1 : Room := { frames := 6, cells := 1, slots := 200, locals := 170 }
set_option maxHeartbeats 4000000 in
set_option maxRecDepth 100000 in
theorem c_Jx_add1_1 (l : Launch) (G : GG) (z : Nat) (ad : Nat → Nat) (M : Mem) {mcn : Int32} {ed : Nat} {n : Nat} {lf : Nat → Option Nat} {k : Nat} {kd : Nat} {fm : Int32} {to : Int32} (h17 : M 17 = some (cList ad mcn ed n)) (h18 : M 18 = some (aO G n lf)) (hvk : M k = some (cLine ad k kd fm to)) (hk99 : 99 < k) (hed : ed = ad 18) (hn : 0 < n ∧ n < 120) (hel : ∀ i, i < n → ∃ kv vs, lf i = some (ad kv) ∧ M kv = some (.inr (3, vs)) ∧ kv ≠ 29) (fre0 : M 29 = none) : Met l yJx4a65c_add_9ea2d wsJx4a65c_add_9ea2d rm_c_Jx_add1_1 (Pr G z ad M [.ref (ad 17), .ref (ad k)]) (Ai G z (fun (r : Int32) (u : (Nat → Nat) × Mem) => r = nI 1 ∧ u.2 17 = some (cList u.1 (mcn + nI 1) (u.1 18) (n + 1)) ∧ u.2 18 = some (aO G (n + max 1 (n / 2)) (va_up (va_cpy lf (fun _ => none) 0 0 n) n (some (u.1 k)))) ∧ (∀ j : Nat, j ≠ 17 → j ≠ 18 → u.2 j = M j) ∧ (∀ j : Nat, j ≠ 18 → u.1 j = ad j))) 1 200 (fr z) := by
  refine Met.ofW (cc := cJx4a65c_add_9ea2d) (maxL := 2) (ret := (some .boolean)) (by decide) rfl ?_
  intro p e s m args below meth c s₁ B hml hv
  obtain ⟨rfl, hv⟩ := hv
  have hI := Iv.entry hv
  have hx := B.exec
  have hb := B.bytes
  have hr := B.returns
  have hts := atoms_spec (ws := wsJx4a65c_add_9ea2d) B.pre
  have hown : s.vm.findClass RJx4a65c = some m.cls := findClass_of_methodNamed B.named
  have hlocks := B.notSynchronized
  have i_RJx4a65c : ∀ w ∈ u_ws RJx4a65c TJx4a65c 3, w ∈ wsJx4a65c_add_9ea2d := fun w h => List.mem_cons_of_mem _ (iu_Jx4a65c w h)
  have f_63 := hts _ (List.mem_cons_of_mem _ (lwg_of t_136 rfl))
  have sf_137 := hts _ (List.mem_cons_of_mem _ (lwg_of t_137 rfl))
  have f_9 := hts _ (List.mem_cons_of_mem _ (lwg_of t_133 rfl))
  have f_48 := hts _ (List.mem_cons_of_mem _ (lwg_of t_134 rfl))
  have hl := lv_entry ([.ref (ad 17), .ref (ad k)]) (n := 2) (Nat.le_of_ble_eq_true rfl)
  rw [lg_entry_eq]
  generalize (lg_sl ([.ref (ad 17), .ref (ad k)]) ++ List.replicate (2 - (lg_sl ([.ref (ad 17), .ref (ad k)])).length) Slot.unset).toArray = ls at hl ⊢
  have hl : lv_has ls 2 [(0, .ref (ad 17)), (1, .ref (ad k))] := hl
  refine lv_aload_n hx hb dJx4a65c_add_9ea2d_0 rfl (lv_at hl 0 rfl) ?_
  refine lv_dup hx hb dJx4a65c_add_9ea2d_1 rfl ?_
  refine h_getS (C := RJx4a65c) (T := TJx4a65c) (N := 3) hx hb hts i_RJx4a65c hown hI h17 rfl 0 (by decide) f_63 (fun x9 h9 => u_same sf_137 x9 h9) rfl dJx4a65c_add_9ea2d_2 ?_
  refine lv_iconst (v := nI 1) hx hb dJx4a65c_add_9ea2d_5 (by decide) ?_
  refine lv_iadd hx hb dJx4a65c_add_9ea2d_6 ?_
  refine h_putS (C := RJx4a65c) (T := TJx4a65c) (N := 3) hx hb hts i_RJx4a65c tyJx4a65c tyJx4a65c_ok nmJx4a65c hown hI h17 rfl 0 (by decide) f_63 (fun x9 h9 => u_same sf_137 x9 h9) rfl rfl rfl (Nat.le_of_ble_eq_true rfl) dJx4a65c_add_9ea2d_7 (fun M_1 H_2 locs_3 eM_4 hI => ?_)
  have hm_5 : M_1 17 = some (cList ad (mcn + (nI 1)) ed n) := by rw [eM_4]; exact va_up_self _ _ _
  have hm_6 : M_1 18 = some (aO G n lf) := by rw [eM_4, va_up_ne _ _ (by decide)]; exact h18
  have hm_7 : M_1 k = some (cLine ad k kd fm to) := by rw [eM_4, va_up_ne _ _ (by omega)]; exact hvk
  have fr_8 : M_1 29 = none := by rw [eM_4, va_up_ne _ _ (by decide)]; exact fre0
  have hF_9 : ∀ j : Nat, j ≠ 17 → M_1 j = M j := fun j q0 => by rw [eM_4, va_up_ne _ _ q0]
  refine lv_aload_n hx hb dJx4a65c_add_9ea2d_10 rfl (lv_at hl 0 rfl) ?_
  refine lv_aload_n hx hb dJx4a65c_add_9ea2d_11 rfl (lv_at hl 1 rfl) ?_
  refine lv_aload_n hx hb dJx4a65c_add_9ea2d_12 rfl (lv_at hl 0 rfl) ?_
  refine h_get (C := RJx4a65c) (T := TJx4a65c) (N := 3) hx hb hts i_RJx4a65c hown hI hm_5 rfl 1 (by decide) f_9 rfl rfl dJx4a65c_add_9ea2d_13 ?_
  refine n_eqv (show _ = .ref (ad 18) from congrArg Value.ref hed) ?_
  refine lv_aload_n hx hb dJx4a65c_add_9ea2d_16 rfl (lv_at hl 0 rfl) ?_
  refine h_get (C := RJx4a65c) (T := TJx4a65c) (N := 3) hx hb hts i_RJx4a65c hown hI hm_5 rfl 2 (by decide) f_48 rfl rfl dJx4a65c_add_9ea2d_17 ?_
  refine k_Av (va_runV (As := [.ref (ad k), .ref (ad 18), .int (nI n)]) (rest := []) ⟨hx, hb, hml, hown, hts⟩ (c_Jx_add3_1 l G z ad M_1 (mcn := mcn + (nI 1)) (ed := ed) (n := n) (lf := lf) (k := k) (kd := kd) (fm := fm) (to := to) hm_5 hm_6 hm_7 (by omega) (by omega) (by omega) (fun i9 h9 => by obtain ⟨kv, vs, e1, e2, e3⟩ := hel i9 h9; exact ⟨kv, vs, e1, by rw [hF_9 kv (fun h8 => by subst h8; rw [h17] at e2; cases e2)]; exact e2, e3⟩) fr_8) (cwV 3 hts (gV (lwg_of t_757 rfl) (lwg_of t_759 rfl) (lwg_of ts_11 rfl) (lwg_of t_9 rfl) (lwg_of t_760 rfl)) rfl rfl rfl (by decide +kernel) ⟨Nat.le_of_ble_eq_true rfl, Nat.le_of_ble_eq_true rfl⟩) (hI.preV hm_5 rfl) rfl rfl hl.1 rfl (lv_room (Nat.le_of_ble_eq_true rfl)) dJx4a65c_add_9ea2d_20 ⟨Nat.le_of_ble_eq_true rfl, Nat.le_of_ble_eq_true rfl⟩) hI (fun ad_15 M_12 H_13 locs_14 hp_11 hI => ?_)
  obtain ⟨hm_16, hm_17, hF_18, hAd_19⟩ := hp_11
  have hm_20 : M_12 17 = some (cList ad_15 (mcn + (nI 1)) (ad_15 18) (n + 1)) := hm_16
  have hm_21 : M_12 18 = some (aO G (n + max 1 (n / 2)) (va_up (va_cpy lf (fun _ => none) 0 0 n) n (some (ad_15 k)))) := hm_17
  have hAd_22 : ∀ j : Nat, j ≠ 18 → ad_15 j = ad j := hAd_19
  have hF_23 : ∀ j : Nat, j ≠ 17 → j ≠ 18 → M_12 j = M_1 j := hF_18
  have hm_24 : M_12 k = some (cLine ad_15 k kd fm to) := by rw [hF_23 k (by omega) (by omega), hm_7]; simp only [cLine, hAd_22 (k + 1) (by omega)]
  have fr_25 : M_12 29 = none := by rw [hF_23 29 (by decide) (by decide)]; exact fr_8
  clear hm_7 fr_8
  have hF_26 : ∀ j : Nat, j ≠ 17 → j ≠ 18 → M_12 j = M j := fun j q0 q1 => (hF_23 j q0 q1).trans (hF_9 j q0)
  clear hF_9 hF_18
  refine lv_iconst (v := nI 1) hx hb dJx4a65c_add_9ea2d_23 (by decide) ?_
  exact e_Ai hx hb hr rfl hlocks hI ⟨rfl, hm_20, hm_21, (fun j q0 q1 => hF_26 j q0 q1), (fun j q0 => (by show ad_15 j = ad j; rw [hAd_22 j q0]))⟩ dJx4a65c_add_9ea2d_24
