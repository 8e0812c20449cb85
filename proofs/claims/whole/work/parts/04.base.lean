/-! ===== THE MEMORY: cells by places (numbers of ours), places by addresses ===== -/
abbrev Mem : Type := Nat → Option va_E
def vcell (M : Mem) (k : Nat) : va_E := (M k).getD (.inr (0, []))
def vwl (ad : Nat → Nat) (M : Mem) (dom : List Nat) : va_W := dom.map (fun k => (ad k, vcell M k))
/-- the numbers of the classes and slots; of the classes of arrays; where the texts lie, their bytes, the list's empty array -/
abbrev GG : Type := va_G × (Nat → ClassId) × (Nat → Nat) × (Nat → Nat) × Nat
/-- the heap holds the memory: the cells are apart, and lie from z on -/
def Hd (G : GG) (z : Nat) (ad : Nat → Nat) (M : Mem) (H : Heap) : Prop :=
  ∃ dom : List Nat, dom.Nodup ∧ (∀ k, k ∈ dom ↔ M k ≠ none) ∧ va_P G.1 vwCl (vwl ad M dom) H ∧ va_D (fun q : Nat => z ≤ q) (vwl ad M dom)
abbrev cty (G : GG) : List (ClassId × FieldType) := [(G.2.1 0, .int), (G.2.1 1, .boolean), (G.2.1 2, .long), (G.2.1 3, .byte), (G.2.1 4, .object "java/lang/Object")]
abbrev fr (z : Nat) : Nat → Prop := fun q => z ≤ q
def nwF : List (String × Nat × String × String × String × String) := [("LineStore", 174, "LineStore$Line", "kind", "I", "LineStore"), ("LineStore", 177, "LineStore$Line", "from", "I", "LineStore"), ("LineStore", 180, "LineStore$Line", "to", "I", "LineStore"), ("LineStore", 183, "LineStore$Line", "ends", "LLineStore$Ends;", "LineStore"), ("LineStore$Laws", 25, "LineStore$Line", "ends", "LLineStore$Ends;", "LineStore"), ("LineStore$Laws", 37, "LineStore$Line", "kind", "I", "LineStore"), ("LineStore$Lines", 43, "LineStore$Line", "ends", "LLineStore$Ends;", "LineStore"), ("LineStore$Lines", 58, "LineStore$Line", "from", "I", "LineStore"), ("LineStore$Lines", 62, "LineStore$Line", "to", "I", "LineStore"), ("LineStore$Lines", 75, "LineStore$Line", "kind", "I", "LineStore"), ("LineStore$Matcher", 48, "LineStore$Line", "kind", "I", "LineStore"), ("LineStore$Matcher", 61, "LineStore$Line", "ends", "LLineStore$Ends;", "LineStore")]
def nwM : List (String × Nat × MethodName × String) := [("LineStore", 11, ⟨"LineStore$Tape", "<init>", "()V"⟩, "LineStore"), ("LineStore", 32, ⟨"LineStore$Ends", "<init>", "()V"⟩, "LineStore"), ("LineStore", 39, ⟨"LineStore$Lines", "<init>", "()V"⟩, "LineStore"), ("LineStore", 46, ⟨"LineStore$Reader", "<init>", "()V"⟩, "LineStore"), ("LineStore", 53, ⟨"LineStore$Matcher", "<init>", "()V"⟩, "LineStore"), ("LineStore", 60, ⟨"LineStore$Question", "<init>", "()V"⟩, "LineStore"), ("LineStore$Lines", 100, ⟨"LineStore", "isIn", "(JI)Z"⟩, "LineStore"), ("LineStore$Matcher", 30, ⟨"LineStore$Question", "<init>", "()V"⟩, "LineStore"), ("LineStore$Matcher", 84, ⟨"LineStore", "isIn", "(JI)Z"⟩, "LineStore")]
def nwC : List (String × String) := [("LineStore$Line", "java/lang/Object"), ("java/lang/IndexOutOfBoundsException", "java/lang/IndexOutOfBoundsException"), ("java/lang/IllegalArgumentException", "java/lang/IllegalArgumentException"), ("java/lang/UnsupportedOperationException", "java/lang/UnsupportedOperationException"), ("java/util/NoSuchElementException", "java/util/NoSuchElementException")]
def nwD : List MethodName := [⟨"java/lang/RuntimeException", "<init>", "(Ljava/lang/String;)V"⟩, ⟨"java/lang/Exception", "<init>", "(Ljava/lang/String;)V"⟩, ⟨"java/lang/Throwable", "<init>", "(Ljava/lang/String;)V"⟩, ⟨"java/lang/Object", "getClass", "()Ljava/lang/Class;"⟩]
def nwX : List (String × String) := [("java/lang/IllegalArgumentException", "java/lang/IndexOutOfBoundsException"), ("java/lang/UnsupportedOperationException", "java/lang/IndexOutOfBoundsException"), ("java/lang/UnsupportedOperationException", "java/lang/IllegalArgumentException"), ("java/util/NoSuchElementException", "java/lang/IndexOutOfBoundsException")]
/-- what throws, catches, the list's growth and the texts ask of the start -/
def EX (z : Nat) (U : State) : Prop := (∀ x ∈ nwD, va_Nw (.declares x) U) ∧ (∀ q ∈ nwX, va_Nc q.1 q.2 U) ∧ va_AO "java/lang/Object" U ∧ (∃ mi : Nat, va_Mi "[Ljava/lang/Object;" mi U) ∧ va_Z "java/lang/String" "COMPACT_STRINGS" "Z" (.int 1) (fr z) U U.heap ∧ va_Zq "jdk/internal/util/Preconditions" "SIOOBE_FORMATTER" "Ljava/util/function/BiFunction;" (fr z) U U.heap
theorem EX.to {z : Nat} {s U : State} (h : EX z s) (hW : s.WarmedH U.vm) (hq : ∀ a : Nat, a < s.heap.size → ¬ fr z a → U.heap[a]? = s.heap[a]?) : EX z U := by
  obtain ⟨h1, h2, h3, ⟨mi, h4⟩, h5, h6⟩ := h
  have hA := hW.alike
  exact ⟨fun x m => va_Nw.warmD hW (h1 x m), fun q m => va_Nc.moved hA (h2 q m), va_AO.moved hA h3, ⟨mi, va_Mi.moved hA h4⟩, (h5.moved hA).kept hq, (h6.moved hA).kept hq⟩
theorem EX.same {z : Nat} {s U : State} (h : EX z s) (hv : U.vm = s.vm) (hh : U.heap = s.heap) : EX z U := by
  obtain ⟨h1, h2, h3, ⟨mi, h4⟩, h5, h6⟩ := h
  have hA : s.vm.Alike U.vm := by rw [hv]; exact Vm.Alike.refl _
  have hq : ∀ a : Nat, a < s.heap.size → ¬ fr z a → U.heap[a]? = s.heap[a]? := fun a _ _ => by rw [hh]
  exact ⟨fun x m => (h1 x m).same rfl hv.symm, fun q m => va_Nc.moved hA (h2 q m), va_AO.moved hA h3, ⟨mi, va_Mi.moved hA h4⟩, (h5.moved hA).kept hq, (h6.moved hA).kept hq⟩
def strL : List (String × Nat × String) := [("LineStoreModel", 189, "\x72"), ("LineStoreModel", 199, "t"), ("LineStoreModel", 201, "a"), ("LineStoreModel", 203, "b"), ("LineStoreModel", 205, "c"), ("LineStoreModel", 210, "not"), ("LineStoreModel", 212, "k"), ("LineStore", 104, "not 0 to 100"), ("LineStore", 126, "no such days"), ("LineStore", 128, "the draft has no ends"), ("LineStore", 133, "there are 120 lines"), ("LineStore", 191, "what is not 0 to 4"), ("LineStore", 194, "there is no such end"), ("LineStore", 205, "what is not 0 to 2"), ("LineStore", 215, "the text is wrong"), ("LineStore", 262, "there is no such thing"), ("LineStore", 265, "there is no such role"), ("LineStore", 267, "there is no such kind"), ("LineStore", 269, "there is no such line"), ("LineStore", 95, "not 0 to least to most to 6")]
/-- words and statics that the start gives, and that no call takes away -/
def EK (G : GG) (z : Nat) (U : State) : Prop :=
  ((∀ q ∈ nwF, va_Nw (.fieldLinkNest q.1 q.2.1 q.2.2.1 q.2.2.2.1 q.2.2.2.2.1 q.2.2.2.2.2) U) ∧ (∀ q ∈ nwM, va_Nw (.methodLinkNest q.1 q.2.1 q.2.2.1 q.2.2.2) U) ∧ (∀ q ∈ nwC, va_Nw (.castable q.1 q.2) U)) ∧
  (∀ (k : Nat) (q : String × Nat × String), strL[k]? = some q → vk_R q.1 q.2.1 q.2.2 (G.2.2.1 k) U) ∧
  (vx_Zq Bundle.tN "UNASSIGNED_STACK" Bundle.steD (fr z) U U.heap ∧ vx_Zq Bundle.tN "SUPPRESSED_SENTINEL" Bundle.listD (fr z) U U.heap) ∧
  vk_S 7 [1, 1, 1, 1, 1, 3, 1] [[114], [116], [97], [98], [99], [110, 111, 116], [107]] G.2.2.1 G.2.2.2.1 (fr z) U U.heap ∧
  va_Z "java/util/ArrayList" "DEFAULTCAPACITY_EMPTY_ELEMENTDATA" "[Ljava/lang/Object;" (.ref G.2.2.2.2) (fr z) U U.heap ∧ va_T (.object "java/lang/Object") G.2.2.2.2 0 (fun _ => .null) (fr z) U U.heap ∧ EX z U
def vK (G : GG) (z : Nat) (U : State) : Prop := va_K G.1 vwCl (cty G) U ∧ EK G z U
theorem vK.to {G : GG} {z : Nat} {s U : State} (h : vK G z s) (hW : s.WarmedH U.vm) (hq : ∀ a : Nat, a < s.heap.size → ¬ fr z a → U.heap[a]? = s.heap[a]?) : vK G z U := by
  obtain ⟨hK, ⟨h1, h2, h3⟩, h4, ⟨h5, h6⟩, h7, h8, h9, h10⟩ := h
  have hA := hW.alike
  exact ⟨va_K.moved hA hK, ⟨fun q m => va_Nw.warmF hW (h1 q m), fun q m => va_Nw.warmM hW (h2 q m), fun q m => va_Nw.warmC hW (h3 q m)⟩, fun k q hk => vk_R.warm hW (h4 k q hk), ⟨(h5.moved hA).kept hq, (h6.moved hA).kept hq⟩, (h7.moved hA).kept hq, (h8.moved hA).kept hq, (h9.moved hA).kept hq, h10.to hW hq⟩
theorem vK.same {G : GG} {z : Nat} {s U : State} (h : vK G z s) (hv : U.vm = s.vm) (hh : U.heap = s.heap) : vK G z U := by
  obtain ⟨hK, ⟨h1, h2, h3⟩, h4, ⟨h5, h6⟩, h7, h8, h9, h10⟩ := h
  have hA : s.vm.Alike U.vm := by rw [hv]; exact Vm.Alike.refl _
  have hq : ∀ a : Nat, a < s.heap.size → ¬ fr z a → U.heap[a]? = s.heap[a]? := fun a _ _ => by rw [hh]
  exact ⟨va_K.moved hA hK, ⟨fun q m => (h1 q m).same rfl hv.symm, fun q m => (h2 q m).same rfl hv.symm, fun q m => (h3 q m).same rfl hv.symm⟩, fun k q hk => (h4 k q hk).same hv, ⟨(h5.moved hA).kept hq, (h6.moved hA).kept hq⟩, (h7.moved hA).kept hq, (h8.moved hA).kept hq, (h9.moved hA).kept hq, h10.same hv hh⟩
/-- what holds between two instructions -/
def Iv (G : GG) (z : Nat) (ad : Nat → Nat) (M : Mem) (s : State) (H : Heap) (locs : List Loc) : Prop :=
  vK G z s ∧ Hd G z ad M H ∧ va_S (fun q : Nat => z ≤ q) s.heap H locs ∧ z ≤ s.heap.size
abbrev aI (G : GG) (n : Nat) (f : Nat → Int32) : va_E := .inl (G.2.1 0, n, .inl f)
abbrev aZ (G : GG) (n : Nat) (f : Nat → Int32) : va_E := .inl (G.2.1 1, n, .inl f)
abbrev aB (G : GG) (n : Nat) (f : Nat → Int32) : va_E := .inl (G.2.1 3, n, .inl f)
abbrev aJ (G : GG) (n : Nat) (f : Nat → Int64) : va_E := .inl (G.2.1 2, n, .inr (.inl f))
abbrev aO (G : GG) (n : Nat) (f : Nat → Option Nat) : va_E := .inl (G.2.1 4, n, .inr (.inr (.inr (.inr f))))
theorem vcell_of {M : Mem} {k : Nat} {e : va_E} (h : M k = some e) : vcell M k = e := by simp [vcell, h]
theorem vwl_at {ad : Nat → Nat} {M : Mem} {dom : List Nat} (hd : ∀ k, k ∈ dom ↔ M k ≠ none) {k : Nat} {e : va_E} (h : M k = some e) : ∃ q0 : Nat, dom[q0]? = some k ∧ (vwl ad M dom)[q0]? = some (ad k, e) := by
  obtain ⟨q0, hq⟩ := List.getElem?_of_mem ((hd k).mpr (by rw [h]; simp))
  exact ⟨q0, hq, by rw [vwl, List.getElem?_map, hq]; simp [vcell_of h]⟩
theorem vwl_set {ad : Nat → Nat} {M : Mem} {dom : List Nat} (hn : dom.Nodup) {k q0 : Nat} (e : va_E) (hq : dom[q0]? = some k) : (vwl ad M dom).set q0 (ad k, e) = vwl ad (va_up M k (some e)) dom := by
  apply List.ext_getElem?
  intro i
  have hlt : q0 < dom.length := (List.getElem?_eq_some_iff.mp hq).1
  by_cases hi : i = q0
  · subst hi
    have e1 : dom[i] = k := (List.getElem?_eq_some_iff.mp hq).2
    simp [vwl, vcell, va_up, hlt, e1]
  · rw [List.getElem?_set_ne (fun h => hi h.symm)]
    simp only [vwl, List.getElem?_map]
    cases h : dom[i]? with
    | none => rfl
    | some j =>
      have hj : j ≠ k := by
        intro hjk
        subst hjk
        have hl : i < dom.length := (List.getElem?_eq_some_iff.mp h).1
        have e1 : dom[i] = j := (List.getElem?_eq_some_iff.mp h).2
        have e2 : dom[q0] = j := (List.getElem?_eq_some_iff.mp hq).2
        have hp := List.pairwise_iff_getElem.mp hn
        rcases Nat.lt_trichotomy i q0 with h9 | h9 | h9
        · exact hp i q0 hl hlt h9 (e1.trans e2.symm)
        · exact hi h9
        · exact hp q0 i hlt hl h9 (e2.trans e1.symm)
      simp [vcell, va_up, hj]
theorem Hd.one {G : GG} {z : Nat} {ad : Nat → Nat} {M : Mem} {H : Heap} (h : Hd G z ad M H) {k : Nat} {e : va_E} (hk : M k = some e) : va_P G.1 vwCl [(ad k, e)] H := by
  obtain ⟨dom, hn, hd, hP, hD⟩ := h
  obtain ⟨q0, -, hq⟩ := vwl_at (ad := ad) hd hk
  intro i q hi
  have hz : i < 1 := (List.getElem?_eq_some_iff.mp hi).1
  rw [show i = 0 by omega] at hi
  cases hi
  exact hP q0 _ hq
theorem Hd.up {G : GG} {z : Nat} {ad : Nat → Nat} {M : Mem} {H1 : Heap} {dom : List Nat} {k q0 : Nat} {e e' : va_E} (hn : dom.Nodup) (hd : ∀ k, k ∈ dom ↔ M k ≠ none) (hq : dom[q0]? = some k)
    (hP : va_P G.1 vwCl ((vwl ad M dom).set q0 (ad k, e')) H1) (hD : va_D (fun q : Nat => z ≤ q) ((vwl ad M dom).set q0 (ad k, e'))) : Hd G z ad (va_up M k (some e')) H1 := by
  rw [vwl_set hn e' hq] at hP hD
  refine ⟨dom, hn, fun j => ?_, hP, hD⟩
  by_cases hj : j = k
  · subst hj
    simp [va_up, List.mem_of_getElem? hq]
  · simp only [va_up, hj, if_false]
    exact hd j
/-- a new cell at a free place -/
theorem Hd.new {G : GG} {z : Nat} {ad : Nat → Nat} {M : Mem} {H1 : Heap} {dom : List Nat} {k q : Nat} {e' : va_E} (hn : dom.Nodup) (hd : ∀ k, k ∈ dom ↔ M k ≠ none) (hk : M k = none)
    (hP : va_P G.1 vwCl (vwl ad M dom ++ [(q, e')]) H1) (hD : va_D (fun q : Nat => z ≤ q) (vwl ad M dom ++ [(q, e')])) : Hd G z (va_up ad k q) (va_up M k (some e')) H1 := by
  have hkd : k ∉ dom := fun h => (hd k).mp h hk
  have he : vwl ad M dom ++ [(q, e')] = vwl (va_up ad k q) (va_up M k (some e')) (dom ++ [k]) := by
    simp only [vwl, List.map_append, List.map_cons, List.map_nil, va_up_self, vcell, Option.getD_some]
    congr 1
    apply List.map_congr_left
    intro j hj
    have : j ≠ k := fun h => hkd (h ▸ hj)
    simp [va_up, this]
  rw [he] at hP hD
  refine ⟨dom ++ [k], ?_, fun j => ?_, hP, hD⟩
  · rw [List.nodup_append]
    refine ⟨hn, by simp, fun a ha b hb hab => ?_⟩
    simp at hb
    exact hkd (hb ▸ hab ▸ ha)
  · by_cases hj : j = k
    · subst hj
      simp [va_up]
    · simp only [va_up, hj, if_false, List.mem_append, List.mem_singleton, or_false]
      exact hd j
theorem Hd.lt {G : GG} {z : Nat} {ad : Nat → Nat} {M : Mem} {H : Heap} (h : Hd G z ad M H) {k : Nat} {e : va_E} (hk : M k = some e) : ad k < H.size := (h.one hk 0 _ rfl).lt
theorem Hd.inj {G : GG} {z : Nat} {ad : Nat → Nat} {M : Mem} {H : Heap} (h : Hd G z ad M H) {j k : Nat} {e e' : va_E} (hj : M j = some e) (hk : M k = some e') (he : ad j = ad k) : j = k := by
  obtain ⟨dom, hn, hd, hP, hD⟩ := h
  obtain ⟨q0, h0, hq0⟩ := vwl_at (ad := ad) hd hj
  obtain ⟨q1, h1, hq1⟩ := vwl_at (ad := ad) hd hk
  have := hD.1 q0 q1 _ _ hq0 hq1 he
  subst this
  rw [h0] at h1
  exact Option.some.inj h1
theorem Iv.K {G : GG} {z : Nat} {ad : Nat → Nat} {M : Mem} {s : State} {H : Heap} {locs : List Loc} (h : Iv G z ad M s H locs) : vK G z s := h.1
theorem Iv.S {G : GG} {z : Nat} {ad : Nat → Nat} {M : Mem} {s : State} {H : Heap} {locs : List Loc} (h : Iv G z ad M s H locs) : va_S (fun q : Nat => z ≤ q) s.heap H locs := h.2.2.1
theorem Iv.fr {G : GG} {z : Nat} {ad : Nat → Nat} {M : Mem} {s : State} {H : Heap} {locs : List Loc} (h : Iv G z ad M s H locs) : ∀ q : Nat, s.heap.size ≤ q → z ≤ q := fun _ hq => Nat.le_trans h.2.2.2 hq
/-! a contract's start and its ends: R the heap is as it was; N the places keep their addresses; A new places may come -/
def Pr (G : GG) (z : Nat) (ad : Nat → Nat) (M : Mem) (av : List Value) : Array Value → State → Prop := va_Pc av (fun U => vK G z U ∧ Hd G z ad M U.heap ∧ z ≤ U.heap.size)
def Ni (G : GG) (z : Nat) (ad : Nat → Nat) (post : Int32 → Mem → Prop) := va_Qi post (fun (M : Mem) t => Hd G z ad M t.heap) (fr z)
def Nl (G : GG) (z : Nat) (ad : Nat → Nat) (post : Int64 → Mem → Prop) := va_Ql post (fun (M : Mem) t => Hd G z ad M t.heap) (fr z)
def Nv (G : GG) (z : Nat) (ad : Nat → Nat) (post : Mem → Prop) := va_Qv post (fun (M : Mem) t => Hd G z ad M t.heap) (fr z)
def Ai (G : GG) (z : Nat) (post : Int32 → (Nat → Nat) × Mem → Prop) := va_Qi post (fun (u : (Nat → Nat) × Mem) t => Hd G z u.1 u.2 t.heap) (fr z)
def Av (G : GG) (z : Nat) (post : (Nat → Nat) × Mem → Prop) := va_Qv post (fun (u : (Nat → Nat) × Mem) t => Hd G z u.1 u.2 t.heap) (fr z)
theorem Pr.blind {G : GG} {z : Nat} {ad : Nat → Nat} {M : Mem} {av : List Value} : FrameBlind (Pr G z ad M av) := fun a U g mk q => by
  obtain ⟨q0, qK, qH, qz⟩ := q
  exact ⟨q0, vK.same (U := U.calling g mk a) qK rfl rfl, qH, qz⟩
def bI (b : Bool) : Int32 := if b then 1 else 0
theorem bI_t {b : Bool} (h : ¬ bI b = 0) : b = true := by cases b with
  | true => rfl
  | false => exact absurd rfl h
theorem bI_f {b : Bool} (h : bI b = 0) : b = false := by cases b with
  | false => rfl
  | true => exact absurd h (by decide)
theorem bI_nar (b : Bool) : narrow .boolean (.int (bI b)) = .int (bI b) := by cases b <;> rfl
theorem bI_vnar (b : Bool) : vp_nar .boolean (bI b) = bI b := by cases b <;> rfl
theorem bI_fit (b : Bool) : fits .boolean (.int (bI b)) = true := by cases b <;> rfl
/-! words -/
theorem gU {cx : Cond} {y : MethodName} {c : ByteArray} {n : Nat} {r : Option FieldType} (h : Cond.code y c n r ∈ lwg) : GoodIn (cx :: lwg) (Cond.code y c n r :: lwg) := by
  intro w hw
  have hw' : w ∈ lwg := by
    rcases List.mem_cons.mp hw with rfl | h2
    · exact h
    · exact h2
  exact ⟨List.mem_cons_of_mem _ hw', good_of_word (List.mem_filter.mp hw').2⟩
theorem gU_t {ws : List Cond} (h : ∀ w ∈ ws, w ∈ lwg) : GoodIn lw_tbl ws := fun w hw => ⟨(List.mem_filter.mp (h w hw)).1, good_of_word (List.mem_filter.mp (h w hw)).2⟩
theorem gU_l {cx : Cond} {ws : List Cond} (h : ∀ w ∈ ws, w ∈ lwg) : GoodIn (cx :: lwg) ws := fun w hw => ⟨List.mem_cons_of_mem _ (h w hw), good_of_word (List.mem_filter.mp (h w hw)).2⟩
theorem gV {cx : Cond} {own : String} {idx : Nat} {C : String} {y : MethodName} {c : ByteArray} {n : Nat} {r : Option FieldType} (h1 : Cond.methodLink own idx y ∈ lwg) (h2 : Cond.instanceMethod y ∈ lwg) (h3 : Cond.selects C y y ∈ lwg) (h4 : Cond.initialized C ∈ lwg) (h5 : Cond.code y c n r ∈ lwg) : GoodIn (cx :: lwg) (wsV own idx C y (Cond.code y c n r :: lwg)) := by
  refine goodIn_app (gU_l ?_) (gU h5)
  intro w hw
  simp only [List.mem_cons, List.not_mem_nil, or_false] at hw
  rcases hw with rfl | rfl | rfl | rfl <;> assumption
theorem gS {cx : Cond} {own : String} {idx : Nat} {y : MethodName} {c : ByteArray} {n : Nat} {r : Option FieldType} (h1 : Cond.methodLink own idx y ∈ lwg) (h2 : Cond.static y ∈ lwg) (h4 : Cond.initialized y.cls ∈ lwg) (h5 : Cond.code y c n r ∈ lwg) : GoodIn (cx :: lwg) (va_wsS own idx y (Cond.code y c n r :: lwg)) := by
  refine goodIn_app (gU_l ?_) (gU h5)
  intro w hw
  simp only [List.mem_cons, List.not_mem_nil, or_false] at hw
  rcases hw with rfl | rfl | rfl <;> assumption
section HR
variable {p : Program} {l : Launch} {e : Env} {R : Room} {s : State} {m : MethodId} {args : Array Value} {below : List Frame} {meth : Method} {c : Code} {H : Heap} {locs : List Loc} {cells slots : Nat} {Q : State → Prop}
variable {G : GG} {z : Nat} {ad : Nat → Nat} {M : Mem} {cc : ByteArray} {pc : Nat} {ls : Array Slot} {rest : List Value}
theorem Iv.preV (hI : Iv G z ad M s H locs) {As : List Value} {k ci : Nat} {fs : List Value} {q : vw_C} (hk : M k = some (.inr (ci, fs))) (hc : vwCl[ci]? = some q) : PreV s H q.1 (ad k) (Pr G z ad M (.ref (ad k) :: As)) As :=
  ⟨Pr.blind, va_recv hI.1.1 (hI.2.1.one hk) hc (q0 := 0) rfl, fun U hU hW => ⟨rfl, hI.1.to hW (fun a h1 h2 => by rw [hU]; exact hI.2.2.1.2.1 a h1 h2), by rw [hU]; exact hI.2.1, by rw [hU]; exact Nat.le_trans hI.2.2.2 hI.2.2.1.1⟩⟩
theorem Iv.preS (hI : Iv G z ad M s H locs) {As : List Value} : PreS s H (Pr G z ad M As) As :=
  ⟨Pr.blind, fun U hU hW => ⟨rfl, hI.1.to hW (fun a h1 h2 => by rw [hU]; exact hI.2.2.1.2.1 a h1 h2), by rw [hU]; exact hI.2.1, by rw [hU]; exact Nat.le_trans hI.2.2.2 hI.2.2.1.1⟩⟩
/-- at the entry of a method -/
theorem Iv.entry (h : vK G z s ∧ Hd G z ad M s.heap ∧ z ≤ s.heap.size) : Iv G z ad M s s.heap [] := ⟨h.1, h.2.1, va_S.rf, h.2.2⟩
theorem h_get (hx : p.tables.exec = Jvm.exec) (hb : c.code = cc) {own ref C : String} {T : u_T} {N ci index : Nat} {Ts : List Cond} (hts : ∀ w ∈ Ts, w.before args s = true) (hin : ∀ w ∈ u_ws C T N, w ∈ Ts) (hown : s.vm.findClass own = some m.cls) (hI : Iv G z ad M s H locs) {k : Nat} {fs : List Value} (hk : M k = some (.inr (ci, fs))) (hc : vwCl[ci]? = some (C, T, N)) (j : Nat) (hj : j < N)
    (hlink : (Cond.fieldLink own index ref (T j).2.1 (T j).2.2.1).before args s = true) (hsame : (T j).1 = ref) {v : Value} (hv : fs[j]? = some v) (hdg : decode cc pc = .ok (.getfield index, 3))
    (kk : W p l e R s m args below meth c H locs cells slots Q (F0 m (pc + 3) ls (v :: rest))) : W p l e R s m args below meth c H locs cells slots Q (F0 m pc ls (.ref (ad k) :: rest)) :=
  va_get (D := G.1) (cl := vwCl) (tys := cty G) (ws := [(ad k, .inr (ci, fs))]) (C := C) (T := T) (N := N) hx hb hts hin hown hI.1.1 (hI.2.1.one hk) 0 rfl hc j hj hlink (fun _ h => by rw [← hsame]; exact h) hv hdg kk
theorem h_put (hx : p.tables.exec = Jvm.exec) (hb : c.code = cc) {own ref C : String} {T : u_T} {N ci index : Nat} {Ts : List Cond} (hts : ∀ w ∈ Ts, w.before args s = true) (hin : ∀ w ∈ u_ws C T N, w ∈ Ts) (ty0 : Nat → FieldType) (hty : ∀ k, k < N → parseFieldDescriptor (T k).2.2.1 = some (ty0 k)) (hnm : ∀ a, a < N → ∀ b, b < N → a ≠ b → (T a).2.1 ≠ (T b).2.1)
    (hown : s.vm.findClass own = some m.cls) (hI : Iv G z ad M s H locs) {k : Nat} {fs : List Value} (hk : M k = some (.inr (ci, fs))) (hc : vwCl[ci]? = some (C, T, N)) (j : Nat) (hj : j < N)
    (hlink : (Cond.fieldLink own index ref (T j).2.1 (T j).2.2.1).before args s = true) (hsame : (T j).1 = ref) (hfin : (T j).2.2.2 = false) {v : Value} (hn : narrow (ty0 j) v = v) (hfit : fits (ty0 j) v = true) (hl : j < fs.length) (hdg : decode cc pc = .ok (.putfield index, 3))
    (kk : ∀ (M1 : Mem) (H1 : Heap) (locs1 : List Loc), M1 = va_up M k (some (.inr (ci, fs.set j v))) → Iv G z ad M1 s H1 locs1 → W p l e R s m args below meth c H1 locs1 cells slots Q (F0 m (pc + 3) ls rest)) : W p l e R s m args below meth c H locs cells slots Q (F0 m pc ls (v :: .ref (ad k) :: rest)) := by
  obtain ⟨hK, ⟨dom, hnd, hd, hP, hD⟩, hS, hz⟩ := hI
  obtain ⟨q0, hq, hq0⟩ := vwl_at (ad := ad) hd hk
  exact va_put (D := G.1) (cl := vwCl) (tys := cty G) (C := C) (T := T) (N := N) hx hb hts hin ty0 hty hnm hown hK.1 hP hD hS q0 hq0 hc j hj hlink (fun _ h => by rw [← hsame]; exact h) hfin (hty j hj) hn hfit hl hdg (fun H1 locs1 hP1 hD1 hS1 => kk _ H1 locs1 rfl ⟨hK, Hd.up (e := .inr (ci, fs)) hnd hd hq hP1 hD1, hS1, hz⟩)
theorem h_putF (hx : p.tables.exec = Jvm.exec) (hb : c.code = cc) {own ref C : String} {T : u_T} {N ci index : Nat} {Ts : List Cond} (hts : ∀ w ∈ Ts, w.before args s = true) (hin : ∀ w ∈ u_ws C T N, w ∈ Ts) (ty0 : Nat → FieldType) (hty : ∀ k, k < N → parseFieldDescriptor (T k).2.2.1 = some (ty0 k)) (hnm : ∀ a, a < N → ∀ b, b < N → a ≠ b → (T a).2.1 ≠ (T b).2.1)
    (hown : s.vm.findClass own = some m.cls) (hI : Iv G z ad M s H locs) {k : Nat} {fs : List Value} (hk : M k = some (.inr (ci, fs))) (hc : vwCl[ci]? = some (C, T, N)) (j : Nat) (hj : j < N)
    (hlink : (Cond.fieldLink own index ref (T j).2.1 (T j).2.2.1).before args s = true) (hsame : (T j).1 = ref) (hfin : (T j).2.2.2 = true) (hin2 : meth.name = "<init>") (hdecl : (T j).1 = own) {v : Value} (hn : narrow (ty0 j) v = v) (hfit : fits (ty0 j) v = true) (hl : j < fs.length) (hdg : decode cc pc = .ok (.putfield index, 3))
    (kk : ∀ (M1 : Mem) (H1 : Heap) (locs1 : List Loc), M1 = va_up M k (some (.inr (ci, fs.set j v))) → Iv G z ad M1 s H1 locs1 → W p l e R s m args below meth c H1 locs1 cells slots Q (F0 m (pc + 3) ls rest)) : W p l e R s m args below meth c H locs cells slots Q (F0 m pc ls (v :: .ref (ad k) :: rest)) := by
  obtain ⟨hK, ⟨dom, hnd, hd, hP, hD⟩, hS, hz⟩ := hI
  obtain ⟨q0, hq, hq0⟩ := vwl_at (ad := ad) hd hk
  exact va_putF (D := G.1) (cl := vwCl) (tys := cty G) (C := C) (T := T) (N := N) hx hb hts hin ty0 hty hnm hown hK.1 hP hD hS q0 hq0 hc j hj hlink (fun _ h => by rw [← hsame]; exact h) hfin hin2 hdecl (hty j hj) hn hfit hl hdg (fun H1 locs1 hP1 hD1 hS1 => kk _ H1 locs1 rfl ⟨hK, Hd.up (e := .inr (ci, fs)) hnd hd hq hP1 hD1, hS1, hz⟩)
theorem nwf_at {i : Nat} {q : String × Nat × String × String × String × String} (hI : Iv G z ad M s H locs) (h : nwF[i]? = some q) : (Cond.fieldLinkNest q.1 q.2.1 q.2.2.1 q.2.2.2.1 q.2.2.2.2.1 q.2.2.2.2.2).before args s = true := va_Nw.use rfl (hI.1.2.1.1 q (List.mem_of_getElem? h))
theorem nwm_at {i : Nat} {q : String × Nat × MethodName × String} (hI : Iv G z ad M s H locs) (h : nwM[i]? = some q) : va_Nw (.methodLinkNest q.1 q.2.1 q.2.2.1 q.2.2.2) s := hI.1.2.1.2.1 q (List.mem_of_getElem? h)
theorem h_getN (hx : p.tables.exec = Jvm.exec) (hb : c.code = cc) {own ref C host : String} {T : u_T} {N ci index : Nat} {Ts : List Cond} (hts : ∀ w ∈ Ts, w.before args s = true) (hin : ∀ w ∈ u_ws C T N, w ∈ Ts) (hown : s.vm.findClass own = some m.cls) (hI : Iv G z ad M s H locs) {k : Nat} {fs : List Value} (hk : M k = some (.inr (ci, fs))) (hc : vwCl[ci]? = some (C, T, N)) (j : Nat) (hj : j < N)
    (hlink : (Cond.fieldLinkNest own index ref (T j).2.1 (T j).2.2.1 host).before args s = true) (hsame : (T j).1 = ref) {v : Value} (hv : fs[j]? = some v) (hdg : decode cc pc = .ok (.getfield index, 3))
    (kk : W p l e R s m args below meth c H locs cells slots Q (F0 m (pc + 3) ls (v :: rest))) : W p l e R s m args below meth c H locs cells slots Q (F0 m pc ls (.ref (ad k) :: rest)) :=
  va_getN (D := G.1) (cl := vwCl) (tys := cty G) (ws := [(ad k, .inr (ci, fs))]) (C := C) (T := T) (N := N) hx hb hts hin hown hI.1.1 (hI.2.1.one hk) 0 rfl hc j hj hlink (fun _ h => by rw [← hsame]; exact h) hv hdg kk
theorem h_putN (hx : p.tables.exec = Jvm.exec) (hb : c.code = cc) {own ref C host : String} {T : u_T} {N ci index : Nat} {Ts : List Cond} (hts : ∀ w ∈ Ts, w.before args s = true) (hin : ∀ w ∈ u_ws C T N, w ∈ Ts) (ty0 : Nat → FieldType) (hty : ∀ k, k < N → parseFieldDescriptor (T k).2.2.1 = some (ty0 k)) (hnm : ∀ a, a < N → ∀ b, b < N → a ≠ b → (T a).2.1 ≠ (T b).2.1)
    (hown : s.vm.findClass own = some m.cls) (hI : Iv G z ad M s H locs) {k : Nat} {fs : List Value} (hk : M k = some (.inr (ci, fs))) (hc : vwCl[ci]? = some (C, T, N)) (j : Nat) (hj : j < N)
    (hlink : (Cond.fieldLinkNest own index ref (T j).2.1 (T j).2.2.1 host).before args s = true) (hsame : (T j).1 = ref) (hfin : (T j).2.2.2 = false) {v : Value} (hn : narrow (ty0 j) v = v) (hfit : fits (ty0 j) v = true) (hl : j < fs.length) (hdg : decode cc pc = .ok (.putfield index, 3))
    (kk : ∀ (M1 : Mem) (H1 : Heap) (locs1 : List Loc), M1 = va_up M k (some (.inr (ci, fs.set j v))) → Iv G z ad M1 s H1 locs1 → W p l e R s m args below meth c H1 locs1 cells slots Q (F0 m (pc + 3) ls rest)) : W p l e R s m args below meth c H locs cells slots Q (F0 m pc ls (v :: .ref (ad k) :: rest)) := by
  obtain ⟨hK, ⟨dom, hnd, hd, hP, hD⟩, hS, hz⟩ := hI
  obtain ⟨q0, hq, hq0⟩ := vwl_at (ad := ad) hd hk
  exact va_putN (D := G.1) (cl := vwCl) (tys := cty G) (C := C) (T := T) (N := N) hx hb hts hin ty0 hty hnm hown hK.1 hP hD hS q0 hq0 hc j hj hlink (fun _ h => by rw [← hsame]; exact h) hfin (hty j hj) hn hfit hl hdg (fun H1 locs1 hP1 hD1 hS1 => kk _ H1 locs1 rfl ⟨hK, Hd.up (e := .inr (ci, fs)) hnd hd hq hP1 hD1, hS1, hz⟩)
theorem h_iald (hx : p.tables.exec = Jvm.exec) (hb : c.code = cc) (hI : Iv G z ad M s H locs) {k n : Nat} {f : Nat → Int32} (hk : M k = some (aI G n f)) {i : Nat} (hi : i < n) (hn : n < 2 ^ 31) (hdg : decode cc pc = .ok (.iaload, 1))
    (kk : W p l e R s m args below meth c H locs cells slots Q (F0 m (pc + 1) ls (.int (f i) :: rest))) : W p l e R s m args below meth c H locs cells slots Q (F0 m pc ls (.int (nI i) :: .ref (ad k) :: rest)) :=
  va_iald (D := G.1) (cl := vwCl) (tys := cty G) (ws := [(ad k, aI G n f)]) hx hb hI.1.1 (hI.2.1.one hk) 0 0 rfl rfl (vp_in_nI hi hn) hdg (by rw [nI_clamp (Nat.lt_trans hi hn)]; exact kk)
theorem h_zald (hx : p.tables.exec = Jvm.exec) (hb : c.code = cc) (hI : Iv G z ad M s H locs) {k n : Nat} {f : Nat → Int32} (hk : M k = some (aZ G n f)) {i : Nat} (hi : i < n) (hn : n < 2 ^ 31) (hdg : decode cc pc = .ok (.baload, 1))
    (kk : W p l e R s m args below meth c H locs cells slots Q (F0 m (pc + 1) ls (.int (f i) :: rest))) : W p l e R s m args below meth c H locs cells slots Q (F0 m pc ls (.int (nI i) :: .ref (ad k) :: rest)) :=
  va_zald (D := G.1) (cl := vwCl) (tys := cty G) (ws := [(ad k, aZ G n f)]) hx hb hI.1.1 (hI.2.1.one hk) 0 1 rfl rfl (vp_in_nI hi hn) hdg (by rw [nI_clamp (Nat.lt_trans hi hn)]; exact kk)
theorem h_bald (hx : p.tables.exec = Jvm.exec) (hb : c.code = cc) (hI : Iv G z ad M s H locs) {k n : Nat} {f : Nat → Int32} (hk : M k = some (aB G n f)) {i : Nat} (hi : i < n) (hn : n < 2 ^ 31) (hdg : decode cc pc = .ok (.baload, 1))
    (kk : W p l e R s m args below meth c H locs cells slots Q (F0 m (pc + 1) ls (.int (f i) :: rest))) : W p l e R s m args below meth c H locs cells slots Q (F0 m pc ls (.int (nI i) :: .ref (ad k) :: rest)) :=
  va_bald (D := G.1) (cl := vwCl) (tys := cty G) (ws := [(ad k, aB G n f)]) hx hb hI.1.1 (hI.2.1.one hk) 0 3 rfl rfl (vp_in_nI hi hn) hdg (by rw [nI_clamp (Nat.lt_trans hi hn)]; exact kk)
theorem h_lald (hx : p.tables.exec = Jvm.exec) (hb : c.code = cc) (hI : Iv G z ad M s H locs) {k n : Nat} {f : Nat → Int64} (hk : M k = some (aJ G n f)) {i : Nat} (hi : i < n) (hn : n < 2 ^ 31) (hdg : decode cc pc = .ok (.laload, 1))
    (kk : W p l e R s m args below meth c H locs cells slots Q (F0 m (pc + 1) ls (.long (f i) :: rest))) : W p l e R s m args below meth c H locs cells slots Q (F0 m pc ls (.int (nI i) :: .ref (ad k) :: rest)) :=
  va_lald (D := G.1) (cl := vwCl) (tys := cty G) (ws := [(ad k, aJ G n f)]) hx hb hI.1.1 (hI.2.1.one hk) 0 2 rfl rfl (vp_in_nI hi hn) hdg (by rw [nI_clamp (Nat.lt_trans hi hn)]; exact kk)
theorem h_alen (hx : p.tables.exec = Jvm.exec) (hb : c.code = cc) (hI : Iv G z ad M s H locs) {k n : Nat} {f : Nat → Int32} (hk : M k = some (aI G n f)) (hdg : decode cc pc = .ok (.arraylength, 1))
    (kk : W p l e R s m args below meth c H locs cells slots Q (F0 m (pc + 1) ls (.int (nI n) :: rest))) : W p l e R s m args below meth c H locs cells slots Q (F0 m pc ls (.ref (ad k) :: rest)) :=
  va_alen (D := G.1) (cl := vwCl) (tys := cty G) (ws := [(ad k, aI G n f)]) hx hb hI.1.1 (hI.2.1.one hk) 0 0 rfl rfl rfl hdg kk
theorem h_iast (hx : p.tables.exec = Jvm.exec) (hb : c.code = cc) (hI : Iv G z ad M s H locs) {k n : Nat} {f : Nat → Int32} (hk : M k = some (aI G n f)) {i : Nat} {x : Int32} (hi : i < n) (hn : n < 2 ^ 31) (hdg : decode cc pc = .ok (.iastore, 1))
    (kk : ∀ (M1 : Mem) (H1 : Heap) (locs1 : List Loc), M1 = va_up M k (some (aI G n (upd f i x))) → Iv G z ad M1 s H1 locs1 → W p l e R s m args below meth c H1 locs1 cells slots Q (F0 m (pc + 1) ls rest)) : W p l e R s m args below meth c H locs cells slots Q (F0 m pc ls (.int x :: .int (nI i) :: .ref (ad k) :: rest)) := by
  obtain ⟨hK, ⟨dom, hnd, hd, hP, hD⟩, hS, hz⟩ := hI
  obtain ⟨q0, hq, hq0⟩ := vwl_at (ad := ad) hd hk
  exact va_iast (D := G.1) (cl := vwCl) (tys := cty G) hx hb hK.1 hP hD hS q0 0 hq0 rfl (vp_in_nI hi hn) hdg (fun H1 locs1 hP1 hD1 hS1 => by
    rw [nI_clamp (Nat.lt_trans hi hn)] at hP1 hD1
    exact kk _ H1 locs1 rfl ⟨hK, Hd.up (e := aI G n f) hnd hd hq hP1 hD1, hS1, hz⟩)
theorem h_zast (hx : p.tables.exec = Jvm.exec) (hb : c.code = cc) (hI : Iv G z ad M s H locs) {k n : Nat} {f : Nat → Int32} (hk : M k = some (aZ G n f)) {i : Nat} {x : Int32} (hi : i < n) (hn : n < 2 ^ 31) (hx2 : vp_nar .boolean x = x) (hdg : decode cc pc = .ok (.bastore, 1))
    (kk : ∀ (M1 : Mem) (H1 : Heap) (locs1 : List Loc), M1 = va_up M k (some (aZ G n (upd f i x))) → Iv G z ad M1 s H1 locs1 → W p l e R s m args below meth c H1 locs1 cells slots Q (F0 m (pc + 1) ls rest)) : W p l e R s m args below meth c H locs cells slots Q (F0 m pc ls (.int x :: .int (nI i) :: .ref (ad k) :: rest)) := by
  obtain ⟨hK, ⟨dom, hnd, hd, hP, hD⟩, hS, hz⟩ := hI
  obtain ⟨q0, hq, hq0⟩ := vwl_at (ad := ad) hd hk
  exact va_zast (D := G.1) (cl := vwCl) (tys := cty G) hx hb hK.1 hP hD hS q0 1 hq0 rfl (vp_in_nI hi hn) hdg (fun H1 locs1 hP1 hD1 hS1 => by
    rw [nI_clamp (Nat.lt_trans hi hn), hx2] at hP1 hD1
    exact kk _ H1 locs1 rfl ⟨hK, Hd.up (e := aZ G n f) hnd hd hq hP1 hD1, hS1, hz⟩)
theorem h_bast (hx : p.tables.exec = Jvm.exec) (hb : c.code = cc) (hI : Iv G z ad M s H locs) {k n : Nat} {f : Nat → Int32} (hk : M k = some (aB G n f)) {i : Nat} {x : Int32} (hi : i < n) (hn : n < 2 ^ 31) (hx2 : vp_nar .byte x = x) (hdg : decode cc pc = .ok (.bastore, 1))
    (kk : ∀ (M1 : Mem) (H1 : Heap) (locs1 : List Loc), M1 = va_up M k (some (aB G n (upd f i x))) → Iv G z ad M1 s H1 locs1 → W p l e R s m args below meth c H1 locs1 cells slots Q (F0 m (pc + 1) ls rest)) : W p l e R s m args below meth c H locs cells slots Q (F0 m pc ls (.int x :: .int (nI i) :: .ref (ad k) :: rest)) := by
  obtain ⟨hK, ⟨dom, hnd, hd, hP, hD⟩, hS, hz⟩ := hI
  obtain ⟨q0, hq, hq0⟩ := vwl_at (ad := ad) hd hk
  exact va_bast (D := G.1) (cl := vwCl) (tys := cty G) hx hb hK.1 hP hD hS q0 3 hq0 rfl (vp_in_nI hi hn) hdg (fun H1 locs1 hP1 hD1 hS1 => by
    rw [nI_clamp (Nat.lt_trans hi hn), hx2] at hP1 hD1
    exact kk _ H1 locs1 rfl ⟨hK, Hd.up (e := aB G n f) hnd hd hq hP1 hD1, hS1, hz⟩)
theorem h_last (hx : p.tables.exec = Jvm.exec) (hb : c.code = cc) (hI : Iv G z ad M s H locs) {k n : Nat} {f : Nat → Int64} (hk : M k = some (aJ G n f)) {i : Nat} {x : Int64} (hi : i < n) (hn : n < 2 ^ 31) (hdg : decode cc pc = .ok (.lastore, 1))
    (kk : ∀ (M1 : Mem) (H1 : Heap) (locs1 : List Loc), M1 = va_up M k (some (aJ G n (vp_updL f i x))) → Iv G z ad M1 s H1 locs1 → W p l e R s m args below meth c H1 locs1 cells slots Q (F0 m (pc + 1) ls rest)) : W p l e R s m args below meth c H locs cells slots Q (F0 m pc ls (.long x :: .int (nI i) :: .ref (ad k) :: rest)) := by
  obtain ⟨hK, ⟨dom, hnd, hd, hP, hD⟩, hS, hz⟩ := hI
  obtain ⟨q0, hq, hq0⟩ := vwl_at (ad := ad) hd hk
  exact va_last (D := G.1) (cl := vwCl) (tys := cty G) hx hb hK.1 hP hD hS q0 2 hq0 rfl (vp_in_nI hi hn) hdg (fun H1 locs1 hP1 hD1 hS1 => by
    rw [nI_clamp (Nat.lt_trans hi hn)] at hP1 hD1
    exact kk _ H1 locs1 rfl ⟨hK, Hd.up (e := aJ G n f) hnd hd hq hP1 hD1, hS1, hz⟩)
/-- new object at a free place -/
theorem h_new (hx : p.tables.exec = Jvm.exec) (hb : c.code = cc) {own C : String} {T : u_T} {N ci index : Nat} {Ts : List Cond} (hts : ∀ w ∈ Ts, w.before args s = true) (hin : ∀ w ∈ u_ws C T N, w ∈ Ts) (ty : Nat → FieldType) (hty : ∀ k, k < N → parseFieldDescriptor (T k).2.2.1 = some (ty k)) (hown : s.vm.findClass own = some m.cls) (hcl : (Cond.classLink own index C).before args s = true) (hinst : (Cond.instantiable C N).before args s = true) (hini : (Cond.initialized C).before args s = true)
    (hI : Iv G z ad M s H locs) (hc : vwCl[ci]? = some (C, T, N)) {fs : List Value} (hfs : ∀ j, j < N → defaultValue (ty j) = vp_V fs j) (hcells : cells + 1 ≤ R.cells) (hslots : slots + N ≤ R.slots) (hdg : decode cc pc = .ok (.new index, 3)) (k : Nat) (hk : M k = none)
    (kk : ∀ (ad1 : Nat → Nat) (M1 : Mem) (H1 : Heap), (∃ q, ad1 = va_up ad k q) → M1 = va_up M k (some (.inr (ci, fs))) → Iv G z ad1 M1 s H1 locs → W p l e R s m args below meth c H1 locs (cells + 1) (slots + N) Q (F0 m (pc + 3) ls (.ref (ad1 k) :: rest))) : W p l e R s m args below meth c H locs cells slots Q (F0 m pc ls rest) := by
  obtain ⟨hK, ⟨dom, hnd, hd, hP, hD⟩, hS, hz⟩ := hI
  exact va_new (D := G.1) (cl := vwCl) (tys := cty G) hx hb hts hin ty hty hown hcl hinst hini hK.1 hP hD hS (fun q hq => Nat.le_trans hz hq) hc hfs hcells hslots hdg (fun q H1 hP1 hD1 hS1 => by
    have := kk (va_up ad k q) _ H1 ⟨q, rfl⟩ rfl ⟨hK, Hd.new hnd hd hk hP1 hD1, hS1, hz⟩
    rw [va_up_self] at this
    exact this)
/-- new array of numbers at a free place; t0: its kind's place among the array classes -/
theorem h_newa (hx : p.tables.exec = Jvm.exec) (hb : c.code = cc) {atype : ArrayType} (harr : (Cond.arrayClass (newarray.typeOf atype)).before args s = true) (t0 : Nat) {ty : FieldType} (hty : newarray.typeOf atype = ty) (ht0 : (cty G)[t0]? = some (G.2.1 t0, ty)) (hpr : ∀ C, ty ≠ .object C)
    (hI : Iv G z ad M s H locs) {n : Nat} {a0 : vp_A} (ha : ∀ cA : ClassId, vp_cell cA a0 = arrV cA n (fun _ => defaultValue ty)) (hn : n < 2 ^ 20) (hbytes : n * componentBytes ty ≤ 536870912) (hcells : cells + 1 ≤ R.cells) (hslots : slots + n ≤ R.slots) (hdg : decode cc pc = .ok (.newarray atype, 2)) (k : Nat) (hk : M k = none)
    (kk : ∀ (ad1 : Nat → Nat) (M1 : Mem) (H1 : Heap), (∃ q, ad1 = va_up ad k q) → M1 = va_up M k (some (.inl (G.2.1 t0, a0))) → Iv G z ad1 M1 s H1 locs → W p l e R s m args below meth c H1 locs (cells + 1) (slots + n) Q (F0 m (pc + 2) ls (.ref (ad1 k) :: rest))) : W p l e R s m args below meth c H locs cells slots Q (F0 m pc ls (.int (nI n) :: rest)) := by
  obtain ⟨hK, ⟨dom, hnd, hd, hP, hD⟩, hS, hz⟩ := hI
  have hn' : n < 2 ^ 31 := by omega
  refine va_newa (D := G.1) (cl := vwCl) (tys := cty G) (a0 := a0) (N' := n) hx hb harr hty hK.1 hP hD hS (fun q hq => Nat.le_trans hz hq) ha (nI_pos hn') (nI_clamp hn') hbytes hcells hslots hdg (fun q cA H1 hK1 hP1 hD1 hS1 => ?_)
  have h1 := (hK1.2 (cty G).length (cA, ty) (by simp)).2
  have h2 := (hK.1.2 t0 _ ht0).2
  have hc : cA = G.2.1 t0 := by
    cases ty with
    | object C => exact absurd rfl (hpr C)
    | _ => exact Option.some.inj (Eq.trans (Eq.symm h1) h2)
  subst hc
  have := kk (va_up ad k q) _ H1 ⟨q, rfl⟩ rfl ⟨hK, Hd.new hnd hd hk hP1 hD1, hS1, hz⟩
  rw [va_up_self] at this
  exact this
/-! calls -/
theorem k_Ri {mc ms : Nat} {post : Int32 → Prop} {a : Array Value} {st0 : List Value} {free : Addr → Prop} (hr : va_Run p l e R s m args below meth c H locs cells slots mc ms (F0 m pc ls st0) rest (vp_Si post a) free) (hf : ∀ q, ¬ free q)
    (kk : ∀ r : Int32, post r → W p l e R s m args below meth c H locs (cells + mc) (slots + ms) Q (F0 m (pc + 3) ls (.int r :: rest))) : W p l e R s m args below meth c H locs cells slots Q (F0 m pc ls st0) := by
  intro T hT X
  obtain ⟨v, st₀, t, T', L, h0, X', hL, e1, e2, ⟨r, hv, hp, hh⟩, st⟩ := hr T hT X
  cases hv
  have hLn : L = [] := by
    cases L with
    | nil => rfl
    | cons q L => exact absurd (hL q List.mem_cons_self) (hf _)
  subst hLn
  rw [List.append_nil] at X'
  obtain ⟨t2, a1, b1⟩ := kk r hp T' (by rw [e1, hh, h0]) X'
  exact ⟨t2, st t2 a1, b1⟩
theorem k_Rl {mc ms : Nat} {post : Int64 → Prop} {a : Array Value} {st0 : List Value} {free : Addr → Prop} (hr : va_Run p l e R s m args below meth c H locs cells slots mc ms (F0 m pc ls st0) rest (vp_Sl post a) free) (hf : ∀ q, ¬ free q)
    (kk : ∀ r : Int64, post r → W p l e R s m args below meth c H locs (cells + mc) (slots + ms) Q (F0 m (pc + 3) ls (.long r :: rest))) : W p l e R s m args below meth c H locs cells slots Q (F0 m pc ls st0) := by
  intro T hT X
  obtain ⟨v, st₀, t, T', L, h0, X', hL, e1, e2, ⟨r, hv, hp, hh⟩, st⟩ := hr T hT X
  cases hv
  have hLn : L = [] := by
    cases L with
    | nil => rfl
    | cons q L => exact absurd (hL q List.mem_cons_self) (hf _)
  subst hLn
  rw [List.append_nil] at X'
  obtain ⟨t2, a1, b1⟩ := kk r hp T' (by rw [e1, hh, h0]) X'
  exact ⟨t2, st t2 a1, b1⟩
theorem k_Rq {mc ms : Nat} {post : Option Nat → Prop} {a : Array Value} {st0 : List Value} {free : Addr → Prop} (hr : va_Run p l e R s m args below meth c H locs cells slots mc ms (F0 m pc ls st0) rest (va_Sq post a) free) (hf : ∀ q, ¬ free q)
    (kk : ∀ r : Option Nat, post r → W p l e R s m args below meth c H locs (cells + mc) (slots + ms) Q (F0 m (pc + 3) ls (va_rf r :: rest))) : W p l e R s m args below meth c H locs cells slots Q (F0 m pc ls st0) := by
  intro T hT X
  obtain ⟨v, st₀, t, T', L, h0, X', hL, e1, e2, ⟨r, hv, hp, hh⟩, st⟩ := hr T hT X
  cases hv
  have hLn : L = [] := by
    cases L with
    | nil => rfl
    | cons q L => exact absurd (hL q List.mem_cons_self) (hf _)
  subst hLn
  rw [List.append_nil] at X'
  obtain ⟨t2, a1, b1⟩ := kk r hp T' (by rw [e1, hh, h0]) X'
  exact ⟨t2, st t2 a1, b1⟩
theorem k_Ni {mc ms : Nat} {post : Int32 → Mem → Prop} {a : Array Value} {st0 : List Value} (hr : va_Run p l e R s m args below meth c H locs cells slots mc ms (F0 m pc ls st0) rest (Ni G z ad post a) (fr z)) (hI : Iv G z ad M s H locs)
    (kk : ∀ (r : Int32) (M1 : Mem) (H1 : Heap) (locs1 : List Loc), post r M1 → Iv G z ad M1 s H1 locs1 → W p l e R s m args below meth c H1 locs1 (cells + mc) (slots + ms) Q (F0 m (pc + 3) ls (.int r :: rest))) : W p l e R s m args below meth c H locs cells slots Q (F0 m pc ls st0) :=
  va_calli hr hI.S (fun _ _ h => h) (fun _ h => h) (fun r u t H1 locs1 ht hvm hp hB _ _ hS1 => kk r u H1 locs1 hp ⟨hI.1, by rw [← ht]; exact hB, hS1, hI.2.2.2⟩)
theorem k_Nl {mc ms : Nat} {post : Int64 → Mem → Prop} {a : Array Value} {st0 : List Value} (hr : va_Run p l e R s m args below meth c H locs cells slots mc ms (F0 m pc ls st0) rest (Nl G z ad post a) (fr z)) (hI : Iv G z ad M s H locs)
    (kk : ∀ (r : Int64) (M1 : Mem) (H1 : Heap) (locs1 : List Loc), post r M1 → Iv G z ad M1 s H1 locs1 → W p l e R s m args below meth c H1 locs1 (cells + mc) (slots + ms) Q (F0 m (pc + 3) ls (.long r :: rest))) : W p l e R s m args below meth c H locs cells slots Q (F0 m pc ls st0) :=
  va_calll hr hI.S (fun _ _ h => h) (fun _ h => h) (fun r u t H1 locs1 ht hvm hp hB _ _ hS1 => kk r u H1 locs1 hp ⟨hI.1, by rw [← ht]; exact hB, hS1, hI.2.2.2⟩)
theorem k_Nv {mc ms : Nat} {post : Mem → Prop} {a : Array Value} {st0 : List Value} (hr : va_Run p l e R s m args below meth c H locs cells slots mc ms (F0 m pc ls st0) rest (Nv G z ad post a) (fr z)) (hI : Iv G z ad M s H locs)
    (kk : ∀ (M1 : Mem) (H1 : Heap) (locs1 : List Loc), post M1 → Iv G z ad M1 s H1 locs1 → W p l e R s m args below meth c H1 locs1 (cells + mc) (slots + ms) Q (F0 m (pc + 3) ls rest)) : W p l e R s m args below meth c H locs cells slots Q (F0 m pc ls st0) :=
  va_callv hr hI.S (fun _ _ h => h) (fun _ h => h) (fun u t H1 locs1 ht hvm hp hB _ _ hS1 => kk u H1 locs1 hp ⟨hI.1, by rw [← ht]; exact hB, hS1, hI.2.2.2⟩)
theorem k_Ai {mc ms : Nat} {post : Int32 → (Nat → Nat) × Mem → Prop} {a : Array Value} {st0 : List Value} (hr : va_Run p l e R s m args below meth c H locs cells slots mc ms (F0 m pc ls st0) rest (Ai G z post a) (fr z)) (hI : Iv G z ad M s H locs)
    (kk : ∀ (r : Int32) (ad1 : Nat → Nat) (M1 : Mem) (H1 : Heap) (locs1 : List Loc), post r (ad1, M1) → Iv G z ad1 M1 s H1 locs1 → W p l e R s m args below meth c H1 locs1 (cells + mc) (slots + ms) Q (F0 m (pc + 3) ls (.int r :: rest))) : W p l e R s m args below meth c H locs cells slots Q (F0 m pc ls st0) :=
  va_calli hr hI.S (fun _ _ h => h) (fun _ h => h) (fun r u t H1 locs1 ht hvm hp hB _ _ hS1 => kk r u.1 u.2 H1 locs1 hp ⟨hI.1, by rw [← ht]; exact hB, hS1, hI.2.2.2⟩)
theorem k_Av {mc ms : Nat} {post : (Nat → Nat) × Mem → Prop} {a : Array Value} {st0 : List Value} (hr : va_Run p l e R s m args below meth c H locs cells slots mc ms (F0 m pc ls st0) rest (Av G z post a) (fr z)) (hI : Iv G z ad M s H locs)
    (kk : ∀ (ad1 : Nat → Nat) (M1 : Mem) (H1 : Heap) (locs1 : List Loc), post (ad1, M1) → Iv G z ad1 M1 s H1 locs1 → W p l e R s m args below meth c H1 locs1 (cells + mc) (slots + ms) Q (F0 m (pc + 3) ls rest)) : W p l e R s m args below meth c H locs cells slots Q (F0 m pc ls st0) :=
  va_callv hr hI.S (fun _ _ h => h) (fun _ h => h) (fun u t H1 locs1 ht hvm hp hB _ _ hS1 => kk u.1 u.2 H1 locs1 hp ⟨hI.1, by rw [← ht]; exact hB, hS1, hI.2.2.2⟩)
theorem w_q {g : JFrame} (k : ∀ Q' : State → Prop, Q' = Q → W p l e R s m args below meth c H locs cells slots Q' g) : W p l e R s m args below meth c H locs cells slots Q g := k Q rfl
/-! numbers that are nI of a Nat -/
theorem n_eq {x y : Int32} (h : x = y) (k : W p l e R s m args below meth c H locs cells slots Q (F0 m pc ls (.int y :: rest))) : W p l e R s m args below meth c H locs cells slots Q (F0 m pc ls (.int x :: rest)) := h ▸ k
theorem n_eql {x y : Int64} (h : x = y) (k : W p l e R s m args below meth c H locs cells slots Q (F0 m pc ls (.long y :: rest))) : W p l e R s m args below meth c H locs cells slots Q (F0 m pc ls (.long x :: rest)) := h ▸ k
end HR
/-! ends of a method -/
section HE
variable {p : Program} {l : Launch} {e : Env} {R : Room} {s : State} {m : MethodId} {args : Array Value} {below : List Frame} {meth : Method} {c : Code} {H : Heap} {locs : List Loc} {cells slots : Nat}
variable {G : GG} {z : Nat} {ad : Nat → Nat} {M : Mem} {cc : ByteArray} {pc : Nat} {ls : Array Slot}
theorem e_Ni {post : Int32 → Mem → Prop} {v : Int32} (hx : p.tables.exec = Jvm.exec) (hb : c.code = cc) {ty : FieldType} (hr : meth.sig.returnType = some ty) (hn : narrow ty (.int v) = .int v) (hlocks : meth.locks = false) (hI : Iv G z ad M s H locs) (hp : post v M) (hdg : decode cc pc = .ok (.ireturn, 1)) : W p l e R s m args below meth c H locs cells slots (MQ below (Ni G z ad post) args s cells slots (fr z)) (F0 m pc ls [.int v]) :=
  W.zret hx hb hr hn (fun t ht hW => ⟨⟨v, M, rfl, hp, by show Hd G z ad M t.heap; rw [ht]; exact hI.2.1⟩, hI.S.F ht⟩) hI.S.2.2 hdg hlocks
theorem e_Ai {post : Int32 → (Nat → Nat) × Mem → Prop} {v : Int32} (hx : p.tables.exec = Jvm.exec) (hb : c.code = cc) {ty : FieldType} (hr : meth.sig.returnType = some ty) (hn : narrow ty (.int v) = .int v) (hlocks : meth.locks = false) (hI : Iv G z ad M s H locs) (hp : post v (ad, M)) (hdg : decode cc pc = .ok (.ireturn, 1)) : W p l e R s m args below meth c H locs cells slots (MQ below (Ai G z post) args s cells slots (fr z)) (F0 m pc ls [.int v]) :=
  W.zret hx hb hr hn (fun t ht hW => ⟨⟨v, (ad, M), rfl, hp, by show Hd G z ad M t.heap; rw [ht]; exact hI.2.1⟩, hI.S.F ht⟩) hI.S.2.2 hdg hlocks
theorem e_Nl {post : Int64 → Mem → Prop} {v : Int64} (hx : p.tables.exec = Jvm.exec) (hb : c.code = cc) (hr : meth.sig.returnType = some .long) (hlocks : meth.locks = false) (hI : Iv G z ad M s H locs) (hp : post v M) (hdg : decode cc pc = .ok (.lreturn, 1)) : W p l e R s m args below meth c H locs cells slots (MQ below (Nl G z ad post) args s cells slots (fr z)) (F0 m pc ls [.long v]) :=
  W.lret hx hb hr (fun t ht hW => ⟨⟨v, M, rfl, hp, by show Hd G z ad M t.heap; rw [ht]; exact hI.2.1⟩, hI.S.F ht⟩) hI.S.2.2 hdg hlocks
theorem e_Nv {post : Mem → Prop} (hx : p.tables.exec = Jvm.exec) (hb : c.code = cc) (hr : meth.sig.returnType = none) (hlocks : meth.locks = false) (hI : Iv G z ad M s H locs) (hp : post M) (hdg : decode cc pc = .ok (.return_, 1)) : W p l e R s m args below meth c H locs cells slots (MQ below (Nv G z ad post) args s cells slots (fr z)) (F0 m pc ls []) :=
  W.vret hx hb hr (fun t ht hW => ⟨⟨M, rfl, hp, by show Hd G z ad M t.heap; rw [ht]; exact hI.2.1⟩, hI.S.F ht⟩) hI.S.2.2 hdg hlocks
theorem e_Av {post : (Nat → Nat) × Mem → Prop} (hx : p.tables.exec = Jvm.exec) (hb : c.code = cc) (hr : meth.sig.returnType = none) (hlocks : meth.locks = false) (hI : Iv G z ad M s H locs) (hp : post (ad, M)) (hdg : decode cc pc = .ok (.return_, 1)) : W p l e R s m args below meth c H locs cells slots (MQ below (Av G z post) args s cells slots (fr z)) (F0 m pc ls []) :=
  W.vret hx hb hr (fun t ht hW => ⟨⟨(ad, M), rfl, hp, by show Hd G z ad M t.heap; rw [ht]; exact hI.2.1⟩, hI.S.F ht⟩) hI.S.2.2 hdg hlocks
theorem e_Ri {post : Int32 → Prop} {v : Int32} {free : Addr → Prop} (hx : p.tables.exec = Jvm.exec) (hb : c.code = cc) {ty : FieldType} (hr : meth.sig.returnType = some ty) (hn : narrow ty (.int v) = .int v) (hlocks : meth.locks = false) (hp : post v) (hdg : decode cc pc = .ok (.ireturn, 1)) : W p l e R s m args below meth c s.heap [] cells slots (MQ below (vp_Si post) args s cells slots free) (F0 m pc ls [.int v]) :=
  W.zret hx hb hr hn (fun t ht hW => ⟨v, rfl, hp, ht⟩) (fun q hq => nomatch hq) hdg hlocks
theorem e_Rl {post : Int64 → Prop} {v : Int64} {free : Addr → Prop} (hx : p.tables.exec = Jvm.exec) (hb : c.code = cc) (hr : meth.sig.returnType = some .long) (hlocks : meth.locks = false) (hp : post v) (hdg : decode cc pc = .ok (.lreturn, 1)) : W p l e R s m args below meth c s.heap [] cells slots (MQ below (vp_Sl post) args s cells slots free) (F0 m pc ls [.long v]) :=
  W.lret hx hb hr (fun t ht hW => ⟨v, rfl, hp, ht⟩) (fun q hq => nomatch hq) hdg hlocks
theorem e_Rq {post : Option Nat → Prop} {v : Nat} {free : Addr → Prop} (hx : p.tables.exec = Jvm.exec) (hb : c.code = cc) {rt : FieldType} (hr : meth.sig.returnType = some rt) (hrt : (∃ n, rt = .object n) ∨ ∃ t, rt = .array t) (hlocks : meth.locks = false) (hp : post (some v)) (hdg : decode cc pc = .ok (.areturn, 1)) : W p l e R s m args below meth c s.heap [] cells slots (MQ below (va_Sq post) args s cells slots free) (F0 m pc ls [.ref v]) :=
  W.aret hx hb hr hrt (Or.inr ⟨v, rfl⟩) (fun t ht hW => ⟨some v, rfl, hp, ht⟩) (fun q hq => nomatch hq) hdg hlocks
end HE
