section IC
variable {G : GG} {z : Nat} {ad : Nat → Nat} {M : Mem} {s : State} {H : Heap} {locs : List Loc}
/-- a cell of ints by another name: only what lies below its length counts -/
theorem iv_cg {k n : Nat} {c : ClassId} {f g : Nat → Int32} (hI : Iv G z ad M s H locs) (h : M k = some (.inl (c, n, .inl f))) (hg : ∀ j, j < n → f j = g j) : Iv G z ad (va_up M k (some (.inl (c, n, .inl g)))) s H locs := by
  obtain ⟨hK, ⟨dom, hn, hd, hP, hD⟩, hS⟩ := hI
  obtain ⟨q0, hq, hw⟩ := vwl_at (ad := ad) hd h
  have e : vp_cell c (n, .inl f) = vp_cell c (n, .inl g) := by
    have h9 : (fun j : Fin n => Value.int (f j.val)) = fun j => Value.int (g j.val) := funext fun j => by rw [hg j.val j.isLt]
    rw [vp_cell_i, vp_cell_i]
    unfold arrV
    rw [h9]
  have h8 : H[ad k]? = some (vp_cell c (n, .inl f)) := hP q0 _ hw
  refine ⟨hK, Hd.up (e := .inl (c, n, .inl f)) hn hd hq (va_P.set hP hD hw ?_ (fun _ _ => rfl)) (va_D.set hD hw), hS⟩
  show H[ad k]? = some (vp_cell c (n, .inl g))
  rw [h8, e]
/-- the places of lines that are not there are forgotten -/
def dropM (n : Nat) (M : Mem) : Mem := fgt M (fun j => decide (100 + 5 * n ≤ j))
theorem dropM_lt {n j : Nat} (h : j < 100 + 5 * n) : dropM n M j = M j := by
  unfold dropM fgt
  rw [if_neg (by simp; omega)]
theorem dropM_lo {n j : Nat} (h : j < 100) : dropM n M j = M j := dropM_lt (by omega)
theorem dropM_ge {n j : Nat} (h : 100 + 5 * n ≤ j) : dropM n M j = none := by
  unfold dropM fgt
  rw [if_pos (by simp; omega)]
theorem iv_drop {n : Nat} (hI : Iv G z ad M s H locs) : Iv G z ad (dropM n M) s H locs := ⟨hI.1, hd_fgt hI.2.1 _, hI.2.2⟩
theorem LSm.drop {n : Nat} {kd : Nat → Nat} {fm to : Nat → Int32} {sz : Nat → Nat} {rl en : Nat → Nat → Nat} (h : LSm G ad M n kd fm to sz rl en) : LSm G ad (dropM n M) n kd fm to sz rl en := h.mv (fun _ _ => dropM_lt (by omega)) (fun _ _ => rfl)
theorem LSm.cg {k n : Nat} {v : Option va_E} {kd : Nat → Nat} {fm to : Nat → Int32} {sz : Nat → Nat} {rl en : Nat → Nat → Nat} (h : LSm G ad M n kd fm to sz rl en) (hk : 18 < k ∧ k < 100) : LSm G ad (va_up M k v) n kd fm to sz rl en := h.keep (fun _ _ => va_up_ne _ _ (by omega))
end IC
section LV
variable {n : Nat} {kd : Nat → Nat} {fm to : Nat → Int32} {sz : Nat → Nat} {rl en : Nat → Nat → Nat} {mk : Nat → Nat} {mf mu : Nat → Int32} {mz rr ee : Nat → Nat}
theorem str_eq {P : Prop} {v1 v2 c9 : Nat} {tn mu2 T : Nat → Int32} (h1 : (P → v1 = c9 ∧ ∀ l, tn l = T l) ∧ (¬ P → v1 = 0 ∧ tn = to)) (h2 : (P → v2 = c9 ∧ ∀ l, l < n → mu2 l = T l) ∧ (¬ P → v2 = 0 ∧ ∀ l, l < n → mu2 l = to l)) : v1 = v2 ∧ ∀ l, l < n → mu2 l = tn l := by
  by_cases h : P
  · have a := h1.1 h
    have b := h2.1 h
    exact ⟨a.1.trans b.1.symm, fun l hl => (b.2 l hl).trans (a.2 l).symm⟩
  · have a := h1.2 h
    have b := h2.2 h
    refine ⟨a.1.trans b.1.symm, fun l hl => (b.2 l hl).trans ?_⟩
    rw [a.2]
theorem mrel_to {tn mu2 : Nat → Int32} (h : MRel n kd fm to sz rl en mk mf mu mz rr ee) (h2 : ∀ l, l < n → mu2 l = tn l) : MRel n kd fm tn sz rl en mk mf mu2 mz rr ee := fun i hi => ⟨(h i hi).1, (h i hi).2.1, h2 i hi, (h i hi).2.2.2⟩
theorem mrel_dr {a b c d : Nat} (h : MRel n kd fm to sz rl en mk mf mu mz rr ee) (hw : LSw n kd sz rl en) : MRel n kd fm to sz rl en mk mf mu (va_up mz 120 a) (va_up rr (720 + b) c) (va_up ee (720 + b) d) := fun i hi => by
  have hn := hw.1
  have h6 := (hw.2 i hi).2.1
  obtain ⟨h1, h2, h3, h4, h5⟩ := h i hi
  refine ⟨h1, h2, h3, ?_, fun j hj => ?_⟩
  · rw [va_up_ne _ _ (by omega)]; exact h4
  · rw [va_up_ne _ _ (by omega), va_up_ne _ _ (by omega)]; exact h5 j hj
theorem up_ltS {f : Nat → Nat} {N B v : Nat} (h : ∀ j, j < N → f j < B) (hv : v < B) : ∀ j, j < N + 1 → va_up f N v j < B := fun j hj => by
  by_cases e : j = N
  · subst e; rw [va_up_self]; exact hv
  · rw [va_up_ne _ _ e]; exact h j (by omega)
theorem dr9 {s0 x E : Nat} {r0 e0 : Nat → Nat} (h8 : mz 120 = s0) (h : ∀ j, j < s0 → rr (720 + j) = r0 j ∧ ee (720 + j) = e0 j) : ∀ j, j < s0 + 1 → va_up rr (720 + mz 120) x (720 + j) = va_up r0 s0 x j ∧ va_up ee (720 + mz 120) E (720 + j) = va_up e0 s0 E j := fun j hj => by
  rw [h8]
  by_cases e : j = s0
  · subst e; simp only [va_up_self]; exact ⟨trivial, trivial⟩
  · rw [va_up_ne _ _ (by omega), va_up_ne _ _ e, va_up_ne _ _ (by omega), va_up_ne _ _ e]; exact h j (by omega)
def thT (x : Nat) : Option Nat := if x < 40 then some x else if x < 1000 then none else some 0
def olT (x : Nat) : Option Nat := if x < 40 then none else if x < 1000 then some (x - 40) else some 0
theorem dr12 {T : (Nat → Nat) → Nat → Option Nat} {t : Nat → Option Nat} (hT : ∀ e j, T e j = t (e j)) {s0 E : Nat} {v : Option Nat} {th : Nat → Option Nat} {e0 : Nat → Nat} (h : ∀ j, j < s0 → th j = T e0 j) (hv : v = t E) : ∀ j, j < s0 + 1 → va_up th s0 v j = T (va_up e0 s0 E) j := fun j hj => by
  rw [hT]
  by_cases e : j = s0
  · subst e; rw [va_up_self, va_up_self]; exact hv
  · rw [va_up_ne _ _ e, va_up_ne _ _ e, ← hT]; exact h j (by omega)
theorem thv (b : Bool) (t : Nat) (h1 : b = true → t < 120) (h2 : b = false → t < 40) : (if b = true then (none : Option Nat) else some t) = thT (if b = true then 40 + t else t) := by
  cases b
  · have := h2 rfl; rw [if_neg (by decide), if_neg (by decide), thT, if_pos this]
  · have := h1 rfl; rw [if_pos rfl, if_pos rfl, thT, if_neg (by omega), if_pos (by omega)]
theorem olv (b : Bool) (t : Nat) (h1 : b = true → t < 120) (h2 : b = false → t < 40) : (if b = true then some t else (none : Option Nat)) = olT (if b = true then 40 + t else t) := by
  cases b
  · have := h2 rfl; rw [if_neg (by decide), if_neg (by decide), olT, if_pos this]
  · have := h1 rfl; rw [if_pos rfl, if_pos rfl, olT, if_neg (by omega), if_pos (by omega)]; exact congrArg some (by omega)
theorem e_lt (b : Bool) (t m : Nat) (h1 : b = true → t < m) (h2 : b = false → t < 40) : (if b = true then 40 + t else t) < 40 + m := by
  cases b
  · have := h2 rfl; rw [if_neg (by decide)]; omega
  · have := h1 rfl; rw [if_pos rfl]; omega
end LV

set_option maxHeartbeats 8000000 in
set_option maxRecDepth 100000 in
theorem law_7 {p : Program} {l : Launch} {e : Env} {s : State} {m : MethodId} {below : List Frame} {meth : Method} {c : Code} {b L : Nat} {xs : Nat → Int32} {Q : State → Prop} {G : GG} {z : Nat} {ad : Nat → Nat} {M : Mem} {H : Heap} {locs : List Loc} {ls : Array Slot} {i cz sy : Nat} (hst : l.stackTraces = false) (hx : p.tables.exec = Jvm.exec) (hb : c.code = code) (hml : c.maxLocals = 7) (hown : s.vm.findClass RL = some m.cls) {cx : Cond} (hts : ∀ w ∈ cx :: lwg, w.before #[Value.ref b] s = true) (hX : va_X b L xs s s.heap) (hbl : b < s.heap.size) (hbz : ¬ z ≤ b) (hI : Iv G z ad M s H locs) (hl : lv_has ls 7 [(0, .ref b), (1, .ref (ad 0)), (2, .ref (ad 60)), (3, .ref (ad 99)), (4, .int (nI i))]) (hiL : i + 6 ≤ L) (hL : L ≤ 3072) (hcz : cz + 10 ≤ 601024) (hsy : sy + 300 ≤ 7293034) {n : Nat} {kd : Nat → Nat} {fm : Nat → Int32} {to : Nat → Int32} {sz : Nat → Nat} {rl : Nat → Nat → Nat} {en : Nat → Nat → Nat} {qa : Nat} {qs : Nat} {fw : Int32} {len : Nat} {tb : Nat → Nat} {le : Nat → Nat} {mo : Nat → Nat} {al : Nat → Nat} {ho : Nat → Bool} {jn : Nat} {hg : Nat → Nat} {lst : Nat → Nat} {jd : Nat → Nat} {s0 : Nat} {r0 : Nat → Nat} {th : Nat → Option Nat} {ol : Nat → Option Nat} {e0 : Nat → Nat} {mm9 : Nat → Bool} {ff : Nat → Int32} {lq : Nat → Int32} {ra : Nat} {rb : Nat} {rt : Int32} {rv : Int32} {qm : Nat} {pz : Nat} {sx : Nat → Int64} {ft : Nat → Nat} {rx : Nat → Int64} {dm : Nat → Int64} {rc : Nat → Int32} {ao : Nat} {vr : Nat} {kn : Nat → Nat} {nq : Nat → Bool} {pn : Nat → Nat} {av : Nat → Nat} {ro : Nat → Nat} {te : Nat → Nat} {sq : Nat} {su : Nat} {kb : Nat → Nat} {nb : Nat → Bool} {pb : Nat → Nat} {ab : Nat → Nat} {rbb : Nat → Nat} {tbb : Nat → Nat} {tw : Nat} {sn : Nat} {pt : Nat} {zs : Nat} {bg : Nat} {mk : Nat → Nat} {mf : Nat → Int32} {mu : Nat → Int32} {mz : Nat → Nat} {rr : Nat → Nat} {ee : Nat → Nat} {oa : Nat → Nat} {ob : Nat → Nat} {s74 : Nat → Int32} {ak : Nat → Int32} {nm : Nat → Bool} {ap : Nat → Nat} {pr : Nat → Int32} {pf : Nat → Int32} {tf : Nat → Int32} {fv : Nat → Int32} {tr : Nat → Bool} {gv : Nat → Option Nat} {fo : Nat → Int32} {re : Nat → Bool} {us : Nat → Bool} {nx : Nat → Bool} {of : Nat → Int64} (fL : LSm G ad M n kd fm to sz rl en) (w1 : LSw n kd sz rl en) (w2 : MRel n kd fm to sz rl en mk mf mu mz rr ee) (w3 : JI jn hg lst jd oa ob) (w4 : len ≤ 400) (w5 : ∀ j, j < len → tb j < 256) (w6 : ∀ j, j < len → tf j = sB (tb j)) (w7 : s0 ≤ 6) (w8 : mz 120 = s0) (w9 : ∀ j, j < s0 → rr (720 + j) = r0 j ∧ ee (720 + j) = e0 j) (w10 : ∀ j, j < s0 → r0 j < 6) (w11 : ∀ j, j < s0 → e0 j < 40 + n) (w12 : ∀ j, j < s0 → th j = thE e0 j) (w13 : ∀ j, j < s0 → ol j = olE e0 j) (w14 : ∀ j, j < 36 → le j < 100) (w15 : ∀ j, j < 36 → mo j < 100) (w16 : ∀ j, j < 36 → al j ≤ 100) (w17 : ∀ i, i < n → (0 : Int32) ≤ fm i) (w18 : ∀ i, i < n → ∀ k, hgs sz en i k = true → fm k ≤ fm i) (w19 : ao ≤ 6) (w20 : vr < 8) (w21 : ∀ i, i < ao → ap i ≤ 4 ∧ (ak i = nI (kn i) ∧ kn i < 6) ∧ ∀ p8, p8 < ap i → (pr (4 * i + p8) = nI (ro (i * 4 + p8)) ∧ ro (i * 4 + p8) < 6) ∧ te (i * 4 + p8) < 43 ∧ pf (4 * i + p8) = tmI (te (i * 4 + p8))) (w22 : ∀ i, i < ao → nm i = nq i ∧ ap i = pn i) (w23 : ∀ i, i < ao → av i < 8) (w24 : ∀ i, i < ao → (av i).testBit 0 = false → ∀ p9, p9 < pn i → te (i * 4 + p9) ≠ 40) (w25 : ∀ v, v < 3 → vr.testBit v = true → ∃ i, i < ao ∧ nq i = false ∧ ∃ k, k < pn i ∧ te (i * 4 + k) = 40 + v) (w26 : 29 < qa ∧ qa < 38) (w27 : 29 < qs ∧ qs < 38) (w28 : qa + 7 ≤ qs ∨ qs + 7 ≤ qa) (w29 : 29 < qm ∧ qm < 51) (w30 : n = 0 → (∃ mcn : Int32, M 17 = some (cList ad mcn G.2.2.2.2 0)) ∧ M 18 = none) (w31 : M 29 = none) (w32 : ∀ j, 100 + 5 * n ≤ j → M j = none) (f_0 : M 0 = some (cStore ad qa qs fw)) (f_1 : M 1 = some (cTape ad len)) (f_2 : M 2 = some (aI G 400 (nF tb))) (f_3 : M 3 = some (cLaws ad )) (f_4 : M 4 = some (aI G 36 (nF le))) (f_5 : M 5 = some (aI G 36 (nF mo))) (f_6 : M 6 = some (aI G 36 (nF al))) (f_7 : M 7 = some (aZ G 6 (bF ho))) (f_8 : M 8 = some (cOnes ad jn)) (f_9 : M 9 = some (aI G 40 (nF hg))) (f_10 : M 10 = some (aI G 40 (nF lst))) (f_11 : M 11 = some (aI G 40 (nF jd))) (f_12 : M 12 = some (cEnds ad 12 s0)) (f_13 : M 13 = some (aI G 6 (nF r0))) (f_14 : M 14 = some (aI G 6 (oF th))) (f_15 : M 15 = some (aI G 6 (oF ol))) (f_19 : M 19 = some (aZ G 120 (bF mm9))) (f_20 : M 20 = some (aI G 120 ff)) (f_21 : M 21 = some (aI G 120 lq)) (f_22 : M 22 = some (cReader ad ra rb rt rv)) (f_23 : M 23 = some (cMatcher ad qm pz)) (f_24 : M 24 = some (aJ G 2160 sx)) (f_25 : M 25 = some (aI G 6 (nF ft))) (f_26 : M 26 = some (aJ G 240 rx)) (f_27 : M 27 = some (aJ G 3 dm)) (f_28 : M 28 = some (aI G 3 rc)) (f_qa : M qa = some (cQuestion ad qa ao vr)) (f_qa_1 : M (qa + 1) = some (aI G 6 (nF kn))) (f_qa_2 : M (qa + 2) = some (aZ G 6 (bF nq))) (f_qa_3 : M (qa + 3) = some (aI G 6 (nF pn))) (f_qa_4 : M (qa + 4) = some (aI G 6 (nF av))) (f_qa_5 : M (qa + 5) = some (aI G 24 (nF ro))) (f_qa_6 : M (qa + 6) = some (aI G 24 (nF te))) (f_qs : M qs = some (cQuestion ad qs sq su)) (f_qs_1 : M (qs + 1) = some (aI G 6 (nF kb))) (f_qs_2 : M (qs + 2) = some (aZ G 6 (bF nb))) (f_qs_3 : M (qs + 3) = some (aI G 6 (nF pb))) (f_qs_4 : M (qs + 4) = some (aI G 6 (nF ab))) (f_qs_5 : M (qs + 5) = some (aI G 24 (nF rbb))) (f_qs_6 : M (qs + 6) = some (aI G 24 (nF tbb))) (f_60 : M 60 = some (cModel ad tw n jn ao vr sn len pt zs bg fw)) (f_61 : M 61 = some (aI G 36 (nF le))) (f_62 : M 62 = some (aI G 36 (nF mo))) (f_63 : M 63 = some (aI G 36 (nF al))) (f_64 : M 64 = some (aZ G 6 (bF ho))) (f_65 : M 65 = some (aI G 120 (nF mk))) (f_66 : M 66 = some (aI G 120 mf)) (f_67 : M 67 = some (aI G 120 mu)) (f_68 : M 68 = some (aI G 121 (nF mz))) (f_69 : M 69 = some (aI G 726 (nF rr))) (f_70 : M 70 = some (aI G 726 (nF ee))) (f_71 : M 71 = some (aI G 40 (nF lst))) (f_72 : M 72 = some (aI G 40 (nF oa))) (f_73 : M 73 = some (aI G 40 (nF ob))) (f_74 : M 74 = some (aI G 120 s74)) (f_75 : M 75 = some (aI G 12 ak)) (f_76 : M 76 = some (aZ G 12 (bF nm))) (f_77 : M 77 = some (aI G 12 (nF ap))) (f_78 : M 78 = some (aI G 48 pr)) (f_79 : M 79 = some (aI G 48 pf)) (f_80 : M 80 = some (aB G 400 tf)) (f_81 : M 81 = some (aI G 5 fv)) (f_82 : M 82 = some (aZ G 384000 (bF tr))) (f_83 : M 83 = some (aI G 3 (oF gv))) (f_84 : M 84 = some (aI G 3 fo)) (f_85 : M 85 = some (aZ G 40 (bF re))) (f_86 : M 86 = some (aZ G 120 (bF us))) (f_87 : M 87 = some (aZ G 120 (bF nx))) (f_99 : M 99 = some (aJ G 1 of)) (kk : ∀ (ad1 : Nat → Nat) (M1 : Mem) (H1 : Heap) (locs1 : List Loc) (ls1 : Array Slot) (n : Nat) (kd : Nat → Nat) (fm : Nat → Int32) (to : Nat → Int32) (sz : Nat → Nat) (rl : Nat → Nat → Nat) (en : Nat → Nat → Nat) (qa : Nat) (qs : Nat) (fw : Int32) (len : Nat) (tb : Nat → Nat) (le : Nat → Nat) (mo : Nat → Nat) (al : Nat → Nat) (ho : Nat → Bool) (jn : Nat) (hg : Nat → Nat) (lst : Nat → Nat) (jd : Nat → Nat) (s0 : Nat) (r0 : Nat → Nat) (th : Nat → Option Nat) (ol : Nat → Option Nat) (e0 : Nat → Nat) (mm9 : Nat → Bool) (ff : Nat → Int32) (lq : Nat → Int32) (ra : Nat) (rb : Nat) (rt : Int32) (rv : Int32) (qm : Nat) (pz : Nat) (sx : Nat → Int64) (ft : Nat → Nat) (rx : Nat → Int64) (dm : Nat → Int64) (rc : Nat → Int32) (ao : Nat) (vr : Nat) (kn : Nat → Nat) (nq : Nat → Bool) (pn : Nat → Nat) (av : Nat → Nat) (ro : Nat → Nat) (te : Nat → Nat) (sq : Nat) (su : Nat) (kb : Nat → Nat) (nb : Nat → Bool) (pb : Nat → Nat) (ab : Nat → Nat) (rbb : Nat → Nat) (tbb : Nat → Nat) (tw : Nat) (sn : Nat) (pt : Nat) (zs : Nat) (bg : Nat) (mk : Nat → Nat) (mf : Nat → Int32) (mu : Nat → Int32) (mz : Nat → Nat) (rr : Nat → Nat) (ee : Nat → Nat) (oa : Nat → Nat) (ob : Nat → Nat) (s74 : Nat → Int32) (ak : Nat → Int32) (nm : Nat → Bool) (ap : Nat → Nat) (pr : Nat → Int32) (pf : Nat → Int32) (tf : Nat → Int32) (fv : Nat → Int32) (tr : Nat → Bool) (gv : Nat → Option Nat) (fo : Nat → Int32) (re : Nat → Bool) (us : Nat → Bool) (nx : Nat → Bool) (of : Nat → Int64), (LSm G ad1 M1 n kd fm to sz rl en) → (LSw n kd sz rl en) → (MRel n kd fm to sz rl en mk mf mu mz rr ee) → (JI jn hg lst jd oa ob) → (len ≤ 400) → (∀ j, j < len → tb j < 256) → (∀ j, j < len → tf j = sB (tb j)) → (s0 ≤ 6) → (mz 120 = s0) → (∀ j, j < s0 → rr (720 + j) = r0 j ∧ ee (720 + j) = e0 j) → (∀ j, j < s0 → r0 j < 6) → (∀ j, j < s0 → e0 j < 40 + n) → (∀ j, j < s0 → th j = thE e0 j) → (∀ j, j < s0 → ol j = olE e0 j) → (∀ j, j < 36 → le j < 100) → (∀ j, j < 36 → mo j < 100) → (∀ j, j < 36 → al j ≤ 100) → (∀ i, i < n → (0 : Int32) ≤ fm i) → (∀ i, i < n → ∀ k, hgs sz en i k = true → fm k ≤ fm i) → (ao ≤ 6) → (vr < 8) → (∀ i, i < ao → ap i ≤ 4 ∧ (ak i = nI (kn i) ∧ kn i < 6) ∧ ∀ p8, p8 < ap i → (pr (4 * i + p8) = nI (ro (i * 4 + p8)) ∧ ro (i * 4 + p8) < 6) ∧ te (i * 4 + p8) < 43 ∧ pf (4 * i + p8) = tmI (te (i * 4 + p8))) → (∀ i, i < ao → nm i = nq i ∧ ap i = pn i) → (∀ i, i < ao → av i < 8) → (∀ i, i < ao → (av i).testBit 0 = false → ∀ p9, p9 < pn i → te (i * 4 + p9) ≠ 40) → (∀ v, v < 3 → vr.testBit v = true → ∃ i, i < ao ∧ nq i = false ∧ ∃ k, k < pn i ∧ te (i * 4 + k) = 40 + v) → (29 < qa ∧ qa < 38) → (29 < qs ∧ qs < 38) → (qa + 7 ≤ qs ∨ qs + 7 ≤ qa) → (29 < qm ∧ qm < 51) → (n = 0 → (∃ mcn : Int32, M1 17 = some (cList ad1 mcn G.2.2.2.2 0)) ∧ M1 18 = none) → (M1 29 = none) → (∀ j, 100 + 5 * n ≤ j → M1 j = none) → (M1 0 = some (cStore ad1 qa qs fw)) → (M1 1 = some (cTape ad1 len)) → (M1 2 = some (aI G 400 (nF tb))) → (M1 3 = some (cLaws ad1 )) → (M1 4 = some (aI G 36 (nF le))) → (M1 5 = some (aI G 36 (nF mo))) → (M1 6 = some (aI G 36 (nF al))) → (M1 7 = some (aZ G 6 (bF ho))) → (M1 8 = some (cOnes ad1 jn)) → (M1 9 = some (aI G 40 (nF hg))) → (M1 10 = some (aI G 40 (nF lst))) → (M1 11 = some (aI G 40 (nF jd))) → (M1 12 = some (cEnds ad1 12 s0)) → (M1 13 = some (aI G 6 (nF r0))) → (M1 14 = some (aI G 6 (oF th))) → (M1 15 = some (aI G 6 (oF ol))) → (M1 19 = some (aZ G 120 (bF mm9))) → (M1 20 = some (aI G 120 ff)) → (M1 21 = some (aI G 120 lq)) → (M1 22 = some (cReader ad1 ra rb rt rv)) → (M1 23 = some (cMatcher ad1 qm pz)) → (M1 24 = some (aJ G 2160 sx)) → (M1 25 = some (aI G 6 (nF ft))) → (M1 26 = some (aJ G 240 rx)) → (M1 27 = some (aJ G 3 dm)) → (M1 28 = some (aI G 3 rc)) → (M1 qa = some (cQuestion ad1 qa ao vr)) → (M1 (qa + 1) = some (aI G 6 (nF kn))) → (M1 (qa + 2) = some (aZ G 6 (bF nq))) → (M1 (qa + 3) = some (aI G 6 (nF pn))) → (M1 (qa + 4) = some (aI G 6 (nF av))) → (M1 (qa + 5) = some (aI G 24 (nF ro))) → (M1 (qa + 6) = some (aI G 24 (nF te))) → (M1 qs = some (cQuestion ad1 qs sq su)) → (M1 (qs + 1) = some (aI G 6 (nF kb))) → (M1 (qs + 2) = some (aZ G 6 (bF nb))) → (M1 (qs + 3) = some (aI G 6 (nF pb))) → (M1 (qs + 4) = some (aI G 6 (nF ab))) → (M1 (qs + 5) = some (aI G 24 (nF rbb))) → (M1 (qs + 6) = some (aI G 24 (nF tbb))) → (M1 60 = some (cModel ad1 tw n jn ao vr sn len pt zs bg fw)) → (M1 61 = some (aI G 36 (nF le))) → (M1 62 = some (aI G 36 (nF mo))) → (M1 63 = some (aI G 36 (nF al))) → (M1 64 = some (aZ G 6 (bF ho))) → (M1 65 = some (aI G 120 (nF mk))) → (M1 66 = some (aI G 120 mf)) → (M1 67 = some (aI G 120 mu)) → (M1 68 = some (aI G 121 (nF mz))) → (M1 69 = some (aI G 726 (nF rr))) → (M1 70 = some (aI G 726 (nF ee))) → (M1 71 = some (aI G 40 (nF lst))) → (M1 72 = some (aI G 40 (nF oa))) → (M1 73 = some (aI G 40 (nF ob))) → (M1 74 = some (aI G 120 s74)) → (M1 75 = some (aI G 12 ak)) → (M1 76 = some (aZ G 12 (bF nm))) → (M1 77 = some (aI G 12 (nF ap))) → (M1 78 = some (aI G 48 pr)) → (M1 79 = some (aI G 48 pf)) → (M1 80 = some (aB G 400 tf)) → (M1 81 = some (aI G 5 fv)) → (M1 82 = some (aZ G 384000 (bF tr))) → (M1 83 = some (aI G 3 (oF gv))) → (M1 84 = some (aI G 3 fo)) → (M1 85 = some (aZ G 40 (bF re))) → (M1 86 = some (aZ G 120 (bF us))) → (M1 87 = some (aZ G 120 (bF nx))) → (M1 99 = some (aJ G 1 of)) → Iv G z ad1 M1 s H1 locs1 → lv_has ls1 7 [(0, .ref b), (1, .ref (ad1 0)), (2, .ref (ad1 60)), (3, .ref (ad1 99)), (4, .int (nI i))] → W p l e room_1 s m #[Value.ref b] below meth c H1 locs1 (cz + 10) (sy + 300) Q (F0 m 1333 ls1 [])) : W p l e room_1 s m #[Value.ref b] below meth c H locs cz sy Q (F0 m 633 ls []) := by
  have h16 := fL.1
  have hw1 := w1.1
  have hlst := ji_lst w3
  rcases (in_or n (xs (i + 1)) (by omega) : (xs (i + 1) < 0 ∨ ¬ xs (i + 1) < nI n) ∨ (∃ t : Nat, t < n ∧ xs (i + 1) = nI t)) with hc_1 | hc_2
  · skip
    refine lv_aload_n hx hb dL_law_633 rfl (lv_at hl 1 rfl) ?_
    refine lv_aload_n hx hb dL_law_634 rfl (lv_at hl 0 rfl) ?_
    refine lv_iload hx hb dL_law_635 (lv_at hl 4 rfl) ?_
    refine lv_iconst (v := nI 1) hx hb dL_law_637 (by decide) ?_
    refine lv_iadd hx hb dL_law_638 ?_
    refine n_eq (nI_add i 1) ?_
    refine va_sld (A := fr z) hx hb hX hbl hbz hI.S (vp_in_nI (n := i + 1) (by omega) (by omega)) dL_law_639 ?_
    rw [nI_clamp (by omega)]
    refine lv_aload_n hx hb dL_law_640 rfl (lv_at hl 0 rfl) ?_
    refine lv_iload hx hb dL_law_641 (lv_at hl 4 rfl) ?_
    refine lv_iconst (v := nI 2) hx hb dL_law_643 (by decide) ?_
    refine lv_iadd hx hb dL_law_644 ?_
    refine n_eq (nI_add i 2) ?_
    refine va_sld (A := fr z) hx hb hX hbl hbz hI.S (vp_in_nI (n := i + 2) (by omega) (by omega)) dL_law_645 ?_
    rw [nI_clamp (by omega)]
    refine lv_aload_n hx hb dL_law_646 rfl (lv_at hl 3 rfl) ?_
    refine k_Ni (vx_runSW (As := [.ref (ad 0), .int (xs (i + 1)), .int (xs (i + 2)), .ref (ad 99)]) (rest := []) ⟨hx, hb, hml, hown, hts⟩ (c_L_strike_a l hst G z ad M (n := n) (kd := kd) (fm := fm) (to := to) (sz := sz) (rl := rl) (en := en) (qa := qa) (qs := qs) (fw := fw) (x0 := xs (i + 1)) (x1 := xs (i + 2)) fL f_0 hc_1) (vx_cwSW 4 hts (gSW (lwg_of t_810 rfl) (lwg_of t_811 rfl) (lwg_of t_0 rfl) (lwg_of t_812 rfl)) rfl rfl rfl (by decide +kernel) ⟨Nat.le_of_ble_eq_true rfl, Nat.le_of_ble_eq_true rfl⟩) hI.preS rfl rfl hl.1 rfl (lv_room (Nat.le_of_ble_eq_true rfl)) dL_law_647 ⟨(show _ ≤ (601024 : Nat) from by omega), (show _ ≤ (7293034 : Nat) from by omega)⟩) hI (fun r_3 M_5 H_6 locs_7 hp_4 hI => ?_)
    obtain ⟨hr_8, hF_9⟩ := hp_4
    have hm_10 : M_5 0 = some (cStore ad qa qs fw) := by rw [hF_9 0 ]; exact f_0
    have hm_11 : M_5 1 = some (cTape ad len) := by rw [hF_9 1 ]; exact f_1
    have hm_12 : M_5 2 = some (aI G 400 (nF tb)) := by rw [hF_9 2 ]; exact f_2
    have hm_13 : M_5 3 = some (cLaws ad ) := by rw [hF_9 3 ]; exact f_3
    have hm_14 : M_5 4 = some (aI G 36 (nF le)) := by rw [hF_9 4 ]; exact f_4
    have hm_15 : M_5 5 = some (aI G 36 (nF mo)) := by rw [hF_9 5 ]; exact f_5
    have hm_16 : M_5 6 = some (aI G 36 (nF al)) := by rw [hF_9 6 ]; exact f_6
    have hm_17 : M_5 7 = some (aZ G 6 (bF ho)) := by rw [hF_9 7 ]; exact f_7
    have hm_18 : M_5 8 = some (cOnes ad jn) := by rw [hF_9 8 ]; exact f_8
    have hm_19 : M_5 9 = some (aI G 40 (nF hg)) := by rw [hF_9 9 ]; exact f_9
    have hm_20 : M_5 10 = some (aI G 40 (nF lst)) := by rw [hF_9 10 ]; exact f_10
    have hm_21 : M_5 11 = some (aI G 40 (nF jd)) := by rw [hF_9 11 ]; exact f_11
    have hm_22 : M_5 12 = some (cEnds ad 12 s0) := by rw [hF_9 12 ]; exact f_12
    have hm_23 : M_5 13 = some (aI G 6 (nF r0)) := by rw [hF_9 13 ]; exact f_13
    have hm_24 : M_5 14 = some (aI G 6 (oF th)) := by rw [hF_9 14 ]; exact f_14
    have hm_25 : M_5 15 = some (aI G 6 (oF ol)) := by rw [hF_9 15 ]; exact f_15
    have hm_26 : M_5 19 = some (aZ G 120 (bF mm9)) := by rw [hF_9 19 ]; exact f_19
    have hm_27 : M_5 20 = some (aI G 120 ff) := by rw [hF_9 20 ]; exact f_20
    have hm_28 : M_5 21 = some (aI G 120 lq) := by rw [hF_9 21 ]; exact f_21
    have hm_29 : M_5 22 = some (cReader ad ra rb rt rv) := by rw [hF_9 22 ]; exact f_22
    have hm_30 : M_5 23 = some (cMatcher ad qm pz) := by rw [hF_9 23 ]; exact f_23
    have hm_31 : M_5 24 = some (aJ G 2160 sx) := by rw [hF_9 24 ]; exact f_24
    have hm_32 : M_5 25 = some (aI G 6 (nF ft)) := by rw [hF_9 25 ]; exact f_25
    have hm_33 : M_5 26 = some (aJ G 240 rx) := by rw [hF_9 26 ]; exact f_26
    have hm_34 : M_5 27 = some (aJ G 3 dm) := by rw [hF_9 27 ]; exact f_27
    have hm_35 : M_5 28 = some (aI G 3 rc) := by rw [hF_9 28 ]; exact f_28
    have hm_36 : M_5 qa = some (cQuestion ad qa ao vr) := by rw [hF_9 qa ]; exact f_qa
    have hm_37 : M_5 (qa + 1) = some (aI G 6 (nF kn)) := by rw [hF_9 (qa + 1) ]; exact f_qa_1
    have hm_38 : M_5 (qa + 2) = some (aZ G 6 (bF nq)) := by rw [hF_9 (qa + 2) ]; exact f_qa_2
    have hm_39 : M_5 (qa + 3) = some (aI G 6 (nF pn)) := by rw [hF_9 (qa + 3) ]; exact f_qa_3
    have hm_40 : M_5 (qa + 4) = some (aI G 6 (nF av)) := by rw [hF_9 (qa + 4) ]; exact f_qa_4
    have hm_41 : M_5 (qa + 5) = some (aI G 24 (nF ro)) := by rw [hF_9 (qa + 5) ]; exact f_qa_5
    have hm_42 : M_5 (qa + 6) = some (aI G 24 (nF te)) := by rw [hF_9 (qa + 6) ]; exact f_qa_6
    have hm_43 : M_5 qs = some (cQuestion ad qs sq su) := by rw [hF_9 qs ]; exact f_qs
    have hm_44 : M_5 (qs + 1) = some (aI G 6 (nF kb)) := by rw [hF_9 (qs + 1) ]; exact f_qs_1
    have hm_45 : M_5 (qs + 2) = some (aZ G 6 (bF nb)) := by rw [hF_9 (qs + 2) ]; exact f_qs_2
    have hm_46 : M_5 (qs + 3) = some (aI G 6 (nF pb)) := by rw [hF_9 (qs + 3) ]; exact f_qs_3
    have hm_47 : M_5 (qs + 4) = some (aI G 6 (nF ab)) := by rw [hF_9 (qs + 4) ]; exact f_qs_4
    have hm_48 : M_5 (qs + 5) = some (aI G 24 (nF rbb)) := by rw [hF_9 (qs + 5) ]; exact f_qs_5
    have hm_49 : M_5 (qs + 6) = some (aI G 24 (nF tbb)) := by rw [hF_9 (qs + 6) ]; exact f_qs_6
    have hm_50 : M_5 60 = some (cModel ad tw n jn ao vr sn len pt zs bg fw) := by rw [hF_9 60 ]; exact f_60
    have hm_51 : M_5 61 = some (aI G 36 (nF le)) := by rw [hF_9 61 ]; exact f_61
    have hm_52 : M_5 62 = some (aI G 36 (nF mo)) := by rw [hF_9 62 ]; exact f_62
    have hm_53 : M_5 63 = some (aI G 36 (nF al)) := by rw [hF_9 63 ]; exact f_63
    have hm_54 : M_5 64 = some (aZ G 6 (bF ho)) := by rw [hF_9 64 ]; exact f_64
    have hm_55 : M_5 65 = some (aI G 120 (nF mk)) := by rw [hF_9 65 ]; exact f_65
    have hm_56 : M_5 66 = some (aI G 120 mf) := by rw [hF_9 66 ]; exact f_66
    have hm_57 : M_5 67 = some (aI G 120 mu) := by rw [hF_9 67 ]; exact f_67
    have hm_58 : M_5 68 = some (aI G 121 (nF mz)) := by rw [hF_9 68 ]; exact f_68
    have hm_59 : M_5 69 = some (aI G 726 (nF rr)) := by rw [hF_9 69 ]; exact f_69
    have hm_60 : M_5 70 = some (aI G 726 (nF ee)) := by rw [hF_9 70 ]; exact f_70
    have hm_61 : M_5 71 = some (aI G 40 (nF lst)) := by rw [hF_9 71 ]; exact f_71
    have hm_62 : M_5 72 = some (aI G 40 (nF oa)) := by rw [hF_9 72 ]; exact f_72
    have hm_63 : M_5 73 = some (aI G 40 (nF ob)) := by rw [hF_9 73 ]; exact f_73
    have hm_64 : M_5 74 = some (aI G 120 s74) := by rw [hF_9 74 ]; exact f_74
    have hm_65 : M_5 75 = some (aI G 12 ak) := by rw [hF_9 75 ]; exact f_75
    have hm_66 : M_5 76 = some (aZ G 12 (bF nm)) := by rw [hF_9 76 ]; exact f_76
    have hm_67 : M_5 77 = some (aI G 12 (nF ap)) := by rw [hF_9 77 ]; exact f_77
    have hm_68 : M_5 78 = some (aI G 48 pr) := by rw [hF_9 78 ]; exact f_78
    have hm_69 : M_5 79 = some (aI G 48 pf) := by rw [hF_9 79 ]; exact f_79
    have hm_70 : M_5 80 = some (aB G 400 tf) := by rw [hF_9 80 ]; exact f_80
    have hm_71 : M_5 81 = some (aI G 5 fv) := by rw [hF_9 81 ]; exact f_81
    have hm_72 : M_5 82 = some (aZ G 384000 (bF tr)) := by rw [hF_9 82 ]; exact f_82
    have hm_73 : M_5 83 = some (aI G 3 (oF gv)) := by rw [hF_9 83 ]; exact f_83
    have hm_74 : M_5 84 = some (aI G 3 fo) := by rw [hF_9 84 ]; exact f_84
    have hm_75 : M_5 85 = some (aZ G 40 (bF re)) := by rw [hF_9 85 ]; exact f_85
    have hm_76 : M_5 86 = some (aZ G 120 (bF us)) := by rw [hF_9 86 ]; exact f_86
    have hm_77 : M_5 87 = some (aZ G 120 (bF nx)) := by rw [hF_9 87 ]; exact f_87
    have hm_78 : M_5 99 = some (aJ G 1 of) := by rw [hF_9 99 ]; exact f_99
    have hm_79 : M_5 16 = some (cLines ad ) := by rw [hF_9 16 ]; exact h16
    have hL_80 : LSm G ad M_5 n kd fm to sz rl en := fL.keep (fun j hj => hF_9 j )
    rw [hr_8]
    refine lv_istore (lv' := [(5, .int (nI 1)), (0, .ref b), (1, .ref (ad 0)), (2, .ref (ad 60)), (3, .ref (ad 99)), (4, .int (nI i))]) hx hb dL_law_650 hl (by decide) rfl (fun ls hl => ?_)
    refine lv_aload_n hx hb dL_law_652 rfl (lv_at hl 3 rfl) ?_
    refine lv_aload_n hx hb dL_law_653 rfl (lv_at hl 1 rfl) ?_
    refine lv_iload hx hb dL_law_654 (lv_at hl 5 rfl) ?_
    refine lv_iconst (v := nI 1) hx hb dL_law_656 (by decide) ?_
    refine lv_iadd hx hb dL_law_657 ?_
    refine n_eq (nI_add i 1) ?_
    refine va_sld (A := fr z) hx hb hX hbl hbz hI.S (vp_in_nI (n := i + 1) (by omega) (by omega)) dL_law_658 ?_
    rw [nI_clamp (by omega)]
    refine lv_aload_n hx hb dL_law_659 rfl (lv_at hl 1 rfl) ?_
    refine lv_iload hx hb dL_law_660 (lv_at hl 5 rfl) ?_
    refine lv_iconst (v := nI 2) hx hb dL_law_662 (by decide) ?_
    refine lv_iadd hx hb dL_law_663 ?_
    refine n_eq (nI_add i 2) ?_
    refine va_sld (A := fr z) hx hb hX hbl hbz hI.S (vp_in_nI (n := i + 2) (by omega) (by omega)) dL_law_664 ?_
    rw [nI_clamp (by omega)]
    refine k_Ni (va_runV (As := [.int (xs (i + 1)), .int (xs (i + 2))]) (rest := []) ⟨hx, hb, hml, hown, hts⟩ (c_X10_strike_a l G z ad M_5 (th := tw) (on := jn) (ao := ao) (vr := vr) (sn := sn) (tp := len) (pt := pt) (zs := zs) (bg := bg) (fa := fw) (n := n) (x0 := xs (i + 1)) (x1 := xs (i + 2)) hm_50 hc_1 hw1) (cwV 2 hts (gV (lwg_of t_1184 rfl) (lwg_of t_1185 rfl) (lwg_of t_1186 rfl) (lwg_of t_13 rfl) (lwg_of t_1187 rfl)) rfl rfl rfl (by decide +kernel) ⟨Nat.le_of_ble_eq_true rfl, Nat.le_of_ble_eq_true rfl⟩) (hI.preV hm_50 rfl) rfl rfl hl.1 rfl (lv_room (Nat.le_of_ble_eq_true rfl)) dL_law_665 ⟨(show _ ≤ (601024 : Nat) from by omega), (show _ ≤ (7293034 : Nat) from by omega)⟩) hI (fun r_81 M_83 H_84 locs_85 hp_82 hI => ?_)
    obtain ⟨hr_86, hm_87, hF_88⟩ := hp_82
    have hm_89 : M_83 0 = some (cStore ad qa qs fw) := by rw [hF_88 0 (by omega)]; exact hm_10
    have hm_90 : M_83 1 = some (cTape ad len) := by rw [hF_88 1 (by omega)]; exact hm_11
    have hm_91 : M_83 2 = some (aI G 400 (nF tb)) := by rw [hF_88 2 (by omega)]; exact hm_12
    have hm_92 : M_83 3 = some (cLaws ad ) := by rw [hF_88 3 (by omega)]; exact hm_13
    have hm_93 : M_83 4 = some (aI G 36 (nF le)) := by rw [hF_88 4 (by omega)]; exact hm_14
    have hm_94 : M_83 5 = some (aI G 36 (nF mo)) := by rw [hF_88 5 (by omega)]; exact hm_15
    have hm_95 : M_83 6 = some (aI G 36 (nF al)) := by rw [hF_88 6 (by omega)]; exact hm_16
    have hm_96 : M_83 7 = some (aZ G 6 (bF ho)) := by rw [hF_88 7 (by omega)]; exact hm_17
    have hm_97 : M_83 8 = some (cOnes ad jn) := by rw [hF_88 8 (by omega)]; exact hm_18
    have hm_98 : M_83 9 = some (aI G 40 (nF hg)) := by rw [hF_88 9 (by omega)]; exact hm_19
    have hm_99 : M_83 10 = some (aI G 40 (nF lst)) := by rw [hF_88 10 (by omega)]; exact hm_20
    have hm_100 : M_83 11 = some (aI G 40 (nF jd)) := by rw [hF_88 11 (by omega)]; exact hm_21
    have hm_101 : M_83 12 = some (cEnds ad 12 s0) := by rw [hF_88 12 (by omega)]; exact hm_22
    have hm_102 : M_83 13 = some (aI G 6 (nF r0)) := by rw [hF_88 13 (by omega)]; exact hm_23
    have hm_103 : M_83 14 = some (aI G 6 (oF th)) := by rw [hF_88 14 (by omega)]; exact hm_24
    have hm_104 : M_83 15 = some (aI G 6 (oF ol)) := by rw [hF_88 15 (by omega)]; exact hm_25
    have hm_105 : M_83 19 = some (aZ G 120 (bF mm9)) := by rw [hF_88 19 (by omega)]; exact hm_26
    have hm_106 : M_83 20 = some (aI G 120 ff) := by rw [hF_88 20 (by omega)]; exact hm_27
    have hm_107 : M_83 21 = some (aI G 120 lq) := by rw [hF_88 21 (by omega)]; exact hm_28
    have hm_108 : M_83 22 = some (cReader ad ra rb rt rv) := by rw [hF_88 22 (by omega)]; exact hm_29
    have hm_109 : M_83 23 = some (cMatcher ad qm pz) := by rw [hF_88 23 (by omega)]; exact hm_30
    have hm_110 : M_83 24 = some (aJ G 2160 sx) := by rw [hF_88 24 (by omega)]; exact hm_31
    have hm_111 : M_83 25 = some (aI G 6 (nF ft)) := by rw [hF_88 25 (by omega)]; exact hm_32
    have hm_112 : M_83 26 = some (aJ G 240 rx) := by rw [hF_88 26 (by omega)]; exact hm_33
    have hm_113 : M_83 27 = some (aJ G 3 dm) := by rw [hF_88 27 (by omega)]; exact hm_34
    have hm_114 : M_83 28 = some (aI G 3 rc) := by rw [hF_88 28 (by omega)]; exact hm_35
    have hm_115 : M_83 qa = some (cQuestion ad qa ao vr) := by rw [hF_88 qa (by omega)]; exact hm_36
    have hm_116 : M_83 (qa + 1) = some (aI G 6 (nF kn)) := by rw [hF_88 (qa + 1) (by omega)]; exact hm_37
    have hm_117 : M_83 (qa + 2) = some (aZ G 6 (bF nq)) := by rw [hF_88 (qa + 2) (by omega)]; exact hm_38
    have hm_118 : M_83 (qa + 3) = some (aI G 6 (nF pn)) := by rw [hF_88 (qa + 3) (by omega)]; exact hm_39
    have hm_119 : M_83 (qa + 4) = some (aI G 6 (nF av)) := by rw [hF_88 (qa + 4) (by omega)]; exact hm_40
    have hm_120 : M_83 (qa + 5) = some (aI G 24 (nF ro)) := by rw [hF_88 (qa + 5) (by omega)]; exact hm_41
    have hm_121 : M_83 (qa + 6) = some (aI G 24 (nF te)) := by rw [hF_88 (qa + 6) (by omega)]; exact hm_42
    have hm_122 : M_83 qs = some (cQuestion ad qs sq su) := by rw [hF_88 qs (by omega)]; exact hm_43
    have hm_123 : M_83 (qs + 1) = some (aI G 6 (nF kb)) := by rw [hF_88 (qs + 1) (by omega)]; exact hm_44
    have hm_124 : M_83 (qs + 2) = some (aZ G 6 (bF nb)) := by rw [hF_88 (qs + 2) (by omega)]; exact hm_45
    have hm_125 : M_83 (qs + 3) = some (aI G 6 (nF pb)) := by rw [hF_88 (qs + 3) (by omega)]; exact hm_46
    have hm_126 : M_83 (qs + 4) = some (aI G 6 (nF ab)) := by rw [hF_88 (qs + 4) (by omega)]; exact hm_47
    have hm_127 : M_83 (qs + 5) = some (aI G 24 (nF rbb)) := by rw [hF_88 (qs + 5) (by omega)]; exact hm_48
    have hm_128 : M_83 (qs + 6) = some (aI G 24 (nF tbb)) := by rw [hF_88 (qs + 6) (by omega)]; exact hm_49
    have hm_129 : M_83 61 = some (aI G 36 (nF le)) := by rw [hF_88 61 (by omega)]; exact hm_51
    have hm_130 : M_83 62 = some (aI G 36 (nF mo)) := by rw [hF_88 62 (by omega)]; exact hm_52
    have hm_131 : M_83 63 = some (aI G 36 (nF al)) := by rw [hF_88 63 (by omega)]; exact hm_53
    have hm_132 : M_83 64 = some (aZ G 6 (bF ho)) := by rw [hF_88 64 (by omega)]; exact hm_54
    have hm_133 : M_83 65 = some (aI G 120 (nF mk)) := by rw [hF_88 65 (by omega)]; exact hm_55
    have hm_134 : M_83 66 = some (aI G 120 mf) := by rw [hF_88 66 (by omega)]; exact hm_56
    have hm_135 : M_83 67 = some (aI G 120 mu) := by rw [hF_88 67 (by omega)]; exact hm_57
    have hm_136 : M_83 68 = some (aI G 121 (nF mz)) := by rw [hF_88 68 (by omega)]; exact hm_58
    have hm_137 : M_83 69 = some (aI G 726 (nF rr)) := by rw [hF_88 69 (by omega)]; exact hm_59
    have hm_138 : M_83 70 = some (aI G 726 (nF ee)) := by rw [hF_88 70 (by omega)]; exact hm_60
    have hm_139 : M_83 71 = some (aI G 40 (nF lst)) := by rw [hF_88 71 (by omega)]; exact hm_61
    have hm_140 : M_83 72 = some (aI G 40 (nF oa)) := by rw [hF_88 72 (by omega)]; exact hm_62
    have hm_141 : M_83 73 = some (aI G 40 (nF ob)) := by rw [hF_88 73 (by omega)]; exact hm_63
    have hm_142 : M_83 74 = some (aI G 120 s74) := by rw [hF_88 74 (by omega)]; exact hm_64
    have hm_143 : M_83 75 = some (aI G 12 ak) := by rw [hF_88 75 (by omega)]; exact hm_65
    have hm_144 : M_83 76 = some (aZ G 12 (bF nm)) := by rw [hF_88 76 (by omega)]; exact hm_66
    have hm_145 : M_83 77 = some (aI G 12 (nF ap)) := by rw [hF_88 77 (by omega)]; exact hm_67
    have hm_146 : M_83 78 = some (aI G 48 pr) := by rw [hF_88 78 (by omega)]; exact hm_68
    have hm_147 : M_83 79 = some (aI G 48 pf) := by rw [hF_88 79 (by omega)]; exact hm_69
    have hm_148 : M_83 80 = some (aB G 400 tf) := by rw [hF_88 80 (by omega)]; exact hm_70
    have hm_149 : M_83 81 = some (aI G 5 fv) := by rw [hF_88 81 (by omega)]; exact hm_71
    have hm_150 : M_83 82 = some (aZ G 384000 (bF tr)) := by rw [hF_88 82 (by omega)]; exact hm_72
    have hm_151 : M_83 83 = some (aI G 3 (oF gv)) := by rw [hF_88 83 (by omega)]; exact hm_73
    have hm_152 : M_83 84 = some (aI G 3 fo) := by rw [hF_88 84 (by omega)]; exact hm_74
    have hm_153 : M_83 85 = some (aZ G 40 (bF re)) := by rw [hF_88 85 (by omega)]; exact hm_75
    have hm_154 : M_83 86 = some (aZ G 120 (bF us)) := by rw [hF_88 86 (by omega)]; exact hm_76
    have hm_155 : M_83 87 = some (aZ G 120 (bF nx)) := by rw [hF_88 87 (by omega)]; exact hm_77
    have hm_156 : M_83 99 = some (aJ G 1 of) := by rw [hF_88 99 (by omega)]; exact hm_78
    have hm_157 : M_83 16 = some (cLines ad ) := by rw [hF_88 16 (by omega)]; exact hm_79
    have hL_158 : LSm G ad M_83 n kd fm to sz rl en := hL_80.keep (fun j hj => hF_88 j (by omega))
    have hF_159 : ∀ j : Nat, j ≠ 60 → M_83 j = M j := fun j q0 => (hF_88 j q0).trans (hF_9 j )
    rw [hr_86]
    refine lv_istore (lv' := [(6, .int (nI 0)), (5, .int (nI 1)), (0, .ref b), (1, .ref (ad 0)), (2, .ref (ad 60)), (3, .ref (ad 99)), (4, .int (nI i))]) hx hb dL_law_668 hl (by decide) rfl (fun ls hl => ?_)
    refine lv_aload_n hx hb dL_law_670 rfl (lv_at hl 4 rfl) ?_
    refine k_Ri (va_runV (As := []) (rest := []) ⟨hx, hb, hml, hown, hts⟩ (c_X10_thrown l G z ad M_83 (th := 1) (ln := n) (on := jn) (ao := ao) (vr := vr) (sn := sn) (tp := len) (pt := pt) (zs := zs) (bg := bg) (fa := fw) hm_87) (cwV 0 hts (gV (lwg_of t_997 rfl) (lwg_of t_998 rfl) (lwg_of t_999 rfl) (lwg_of t_13 rfl) (lwg_of t_1000 rfl)) rfl rfl rfl (by decide +kernel) ⟨Nat.le_of_ble_eq_true rfl, Nat.le_of_ble_eq_true rfl⟩) (hI.preV hm_87 rfl) rfl rfl hl.1 rfl (lv_room (Nat.le_of_ble_eq_true rfl)) dL_law_671 ⟨(show _ ≤ (601024 : Nat) from by omega), (show _ ≤ (7293034 : Nat) from by omega)⟩) (fun _ h => h) (fun r_160 hp_161 => ?_)
    rw [hp_161]
    refine lv_iload hx hb dL_law_674 (lv_at hl 1 rfl) ?_
    refine lv_icmp_eq (tgt := 681) hx hb dL_law_676 (by decide) (fun c_162 => ?_) (fun c_162 => ?_)
    · -- 676: nI 1 eq
      refine lv_iload hx hb dL_law_681 (lv_at hl 1 rfl) ?_
      refine lv_if_ne (tgt := 698) hx hb dL_law_683 (by decide) (fun c_163 => ?_) (fun c_163 => ?_)
      · -- 683: nI 1 ne
        refine lv_goto (tgt := 1333) hx hb dL_law_698 (by decide) ?_
        refine W.widen (k := cz + 10) (n := sy + 300) (by omega) (by omega) ?_
        exact kk ad M_83 H_84 locs_85 ls n kd fm to sz rl en qa qs fw len tb le mo al ho jn hg lst jd s0 r0 th ol e0 mm9 ff lq ra rb rt rv qm pz sx ft rx dm rc ao vr kn nq pn av ro te sq su kb nb pb ab rbb tbb 1 sn pt zs bg mk mf mu mz rr ee oa ob s74 ak nm ap pr pf tf fv tr gv fo re us nx of hL_158 w1 w2 w3 w4 w5 w6 w7 w8 w9 w10 w11 w12 w13 w14 w15 w16 w17 w18 w19 w20 w21 w22 w23 w24 w25 w26 w27 w28 w29 (fun h9 => by rw [hF_159 17 (by omega), hF_159 18 (by omega)]; exact w30 h9) (by rw [hF_159 29 (by omega)]; exact w31) (fun j9 h9 => by rw [hF_159 j9 (by omega)]; exact w32 j9 h9) hm_89 hm_90 hm_91 hm_92 hm_93 hm_94 hm_95 hm_96 hm_97 hm_98 hm_99 hm_100 hm_101 hm_102 hm_103 hm_104 hm_105 hm_106 hm_107 hm_108 hm_109 hm_110 hm_111 hm_112 hm_113 hm_114 hm_115 hm_116 hm_117 hm_118 hm_119 hm_120 hm_121 hm_122 hm_123 hm_124 hm_125 hm_126 hm_127 hm_128 hm_87 hm_129 hm_130 hm_131 hm_132 hm_133 hm_134 hm_135 hm_136 hm_137 hm_138 hm_139 hm_140 hm_141 hm_142 hm_143 hm_144 hm_145 hm_146 hm_147 hm_148 hm_149 hm_150 hm_151 hm_152 hm_153 hm_154 hm_155 hm_156 hI (lv_sub hl [2, 3, 4, 5, 6] rfl)
      · -- 683: nI 1 eq
        exact absurd c_163 (by decide)
    · -- 676: nI 1 ne
      exact absurd (by decide) c_162
  · skip
    refine lv_aload_n hx hb dL_law_633 rfl (lv_at hl 1 rfl) ?_
    obtain ⟨t1, ht1, et1⟩ := hc_2
    refine lv_aload_n hx hb dL_law_634 rfl (lv_at hl 0 rfl) ?_
    refine lv_iload hx hb dL_law_635 (lv_at hl 4 rfl) ?_
    refine lv_iconst (v := nI 1) hx hb dL_law_637 (by decide) ?_
    refine lv_iadd hx hb dL_law_638 ?_
    refine n_eq (nI_add i 1) ?_
    refine va_sld (A := fr z) hx hb hX hbl hbz hI.S (vp_in_nI (n := i + 1) (by omega) (by omega)) dL_law_639 ?_
    rw [nI_clamp (by omega)]
    refine n_eq (show _ = nI t1 from et1) ?_
    refine lv_aload_n hx hb dL_law_640 rfl (lv_at hl 0 rfl) ?_
    refine lv_iload hx hb dL_law_641 (lv_at hl 4 rfl) ?_
    refine lv_iconst (v := nI 2) hx hb dL_law_643 (by decide) ?_
    refine lv_iadd hx hb dL_law_644 ?_
    refine n_eq (nI_add i 2) ?_
    refine va_sld (A := fr z) hx hb hX hbl hbz hI.S (vp_in_nI (n := i + 2) (by omega) (by omega)) dL_law_645 ?_
    rw [nI_clamp (by omega)]
    refine lv_aload_n hx hb dL_law_646 rfl (lv_at hl 3 rfl) ?_
    refine k_Ni (vx_runSW (As := [.ref (ad 0), .int (nI t1), .int (xs (i + 2)), .ref (ad 99)]) (rest := []) ⟨hx, hb, hml, hown, hts⟩ (c_L_strike l hst G z ad M (n := n) (kd := kd) (fm := fm) (to := to) (sz := sz) (rl := rl) (en := en) (qa := qa) (qs := qs) (fw := fw) (ho := ho) (mk := mm9) (q := t1) (d := xs (i + 2)) (of := of) fL f_0 f_3 f_7 f_19 f_99 w1 ht1) (vx_cwSW 4 hts (gSW (lwg_of t_810 rfl) (lwg_of t_811 rfl) (lwg_of t_0 rfl) (lwg_of t_812 rfl)) rfl rfl rfl (by decide +kernel) ⟨Nat.le_of_ble_eq_true rfl, Nat.le_of_ble_eq_true rfl⟩) hI.preS rfl rfl hl.1 rfl (lv_room (Nat.le_of_ble_eq_true rfl)) dL_law_647 ⟨(show _ ≤ (601024 : Nat) from by omega), (show _ ≤ (7293034 : Nat) from by omega)⟩) hI (fun r_164 M_166 H_167 locs_168 hp_165 hI => ?_)
    obtain ⟨v_175, tn_176, mk2_177, hr_169, hm_170, hm_171, hF_172, hL_173, hP_174⟩ := hp_165
    have hm_178 : M_166 0 = some (cStore ad qa qs fw) := by rw [hF_172 0 (by omega) (by omega) (by omega)]; exact f_0
    have hm_179 : M_166 1 = some (cTape ad len) := by rw [hF_172 1 (by omega) (by omega) (by omega)]; exact f_1
    have hm_180 : M_166 2 = some (aI G 400 (nF tb)) := by rw [hF_172 2 (by omega) (by omega) (by omega)]; exact f_2
    have hm_181 : M_166 3 = some (cLaws ad ) := by rw [hF_172 3 (by omega) (by omega) (by omega)]; exact f_3
    have hm_182 : M_166 4 = some (aI G 36 (nF le)) := by rw [hF_172 4 (by omega) (by omega) (by omega)]; exact f_4
    have hm_183 : M_166 5 = some (aI G 36 (nF mo)) := by rw [hF_172 5 (by omega) (by omega) (by omega)]; exact f_5
    have hm_184 : M_166 6 = some (aI G 36 (nF al)) := by rw [hF_172 6 (by omega) (by omega) (by omega)]; exact f_6
    have hm_185 : M_166 7 = some (aZ G 6 (bF ho)) := by rw [hF_172 7 (by omega) (by omega) (by omega)]; exact f_7
    have hm_186 : M_166 8 = some (cOnes ad jn) := by rw [hF_172 8 (by omega) (by omega) (by omega)]; exact f_8
    have hm_187 : M_166 9 = some (aI G 40 (nF hg)) := by rw [hF_172 9 (by omega) (by omega) (by omega)]; exact f_9
    have hm_188 : M_166 10 = some (aI G 40 (nF lst)) := by rw [hF_172 10 (by omega) (by omega) (by omega)]; exact f_10
    have hm_189 : M_166 11 = some (aI G 40 (nF jd)) := by rw [hF_172 11 (by omega) (by omega) (by omega)]; exact f_11
    have hm_190 : M_166 12 = some (cEnds ad 12 s0) := by rw [hF_172 12 (by omega) (by omega) (by omega)]; exact f_12
    have hm_191 : M_166 13 = some (aI G 6 (nF r0)) := by rw [hF_172 13 (by omega) (by omega) (by omega)]; exact f_13
    have hm_192 : M_166 14 = some (aI G 6 (oF th)) := by rw [hF_172 14 (by omega) (by omega) (by omega)]; exact f_14
    have hm_193 : M_166 15 = some (aI G 6 (oF ol)) := by rw [hF_172 15 (by omega) (by omega) (by omega)]; exact f_15
    have hm_194 : M_166 20 = some (aI G 120 ff) := by rw [hF_172 20 (by omega) (by omega) (by omega)]; exact f_20
    have hm_195 : M_166 21 = some (aI G 120 lq) := by rw [hF_172 21 (by omega) (by omega) (by omega)]; exact f_21
    have hm_196 : M_166 22 = some (cReader ad ra rb rt rv) := by rw [hF_172 22 (by omega) (by omega) (by omega)]; exact f_22
    have hm_197 : M_166 23 = some (cMatcher ad qm pz) := by rw [hF_172 23 (by omega) (by omega) (by omega)]; exact f_23
    have hm_198 : M_166 24 = some (aJ G 2160 sx) := by rw [hF_172 24 (by omega) (by omega) (by omega)]; exact f_24
    have hm_199 : M_166 25 = some (aI G 6 (nF ft)) := by rw [hF_172 25 (by omega) (by omega) (by omega)]; exact f_25
    have hm_200 : M_166 26 = some (aJ G 240 rx) := by rw [hF_172 26 (by omega) (by omega) (by omega)]; exact f_26
    have hm_201 : M_166 27 = some (aJ G 3 dm) := by rw [hF_172 27 (by omega) (by omega) (by omega)]; exact f_27
    have hm_202 : M_166 28 = some (aI G 3 rc) := by rw [hF_172 28 (by omega) (by omega) (by omega)]; exact f_28
    have hm_203 : M_166 qa = some (cQuestion ad qa ao vr) := by rw [hF_172 qa (by omega) (by omega) (by omega)]; exact f_qa
    have hm_204 : M_166 (qa + 1) = some (aI G 6 (nF kn)) := by rw [hF_172 (qa + 1) (by omega) (by omega) (by omega)]; exact f_qa_1
    have hm_205 : M_166 (qa + 2) = some (aZ G 6 (bF nq)) := by rw [hF_172 (qa + 2) (by omega) (by omega) (by omega)]; exact f_qa_2
    have hm_206 : M_166 (qa + 3) = some (aI G 6 (nF pn)) := by rw [hF_172 (qa + 3) (by omega) (by omega) (by omega)]; exact f_qa_3
    have hm_207 : M_166 (qa + 4) = some (aI G 6 (nF av)) := by rw [hF_172 (qa + 4) (by omega) (by omega) (by omega)]; exact f_qa_4
    have hm_208 : M_166 (qa + 5) = some (aI G 24 (nF ro)) := by rw [hF_172 (qa + 5) (by omega) (by omega) (by omega)]; exact f_qa_5
    have hm_209 : M_166 (qa + 6) = some (aI G 24 (nF te)) := by rw [hF_172 (qa + 6) (by omega) (by omega) (by omega)]; exact f_qa_6
    have hm_210 : M_166 qs = some (cQuestion ad qs sq su) := by rw [hF_172 qs (by omega) (by omega) (by omega)]; exact f_qs
    have hm_211 : M_166 (qs + 1) = some (aI G 6 (nF kb)) := by rw [hF_172 (qs + 1) (by omega) (by omega) (by omega)]; exact f_qs_1
    have hm_212 : M_166 (qs + 2) = some (aZ G 6 (bF nb)) := by rw [hF_172 (qs + 2) (by omega) (by omega) (by omega)]; exact f_qs_2
    have hm_213 : M_166 (qs + 3) = some (aI G 6 (nF pb)) := by rw [hF_172 (qs + 3) (by omega) (by omega) (by omega)]; exact f_qs_3
    have hm_214 : M_166 (qs + 4) = some (aI G 6 (nF ab)) := by rw [hF_172 (qs + 4) (by omega) (by omega) (by omega)]; exact f_qs_4
    have hm_215 : M_166 (qs + 5) = some (aI G 24 (nF rbb)) := by rw [hF_172 (qs + 5) (by omega) (by omega) (by omega)]; exact f_qs_5
    have hm_216 : M_166 (qs + 6) = some (aI G 24 (nF tbb)) := by rw [hF_172 (qs + 6) (by omega) (by omega) (by omega)]; exact f_qs_6
    have hm_217 : M_166 60 = some (cModel ad tw n jn ao vr sn len pt zs bg fw) := by rw [hF_172 60 (by omega) (by omega) (by omega)]; exact f_60
    have hm_218 : M_166 61 = some (aI G 36 (nF le)) := by rw [hF_172 61 (by omega) (by omega) (by omega)]; exact f_61
    have hm_219 : M_166 62 = some (aI G 36 (nF mo)) := by rw [hF_172 62 (by omega) (by omega) (by omega)]; exact f_62
    have hm_220 : M_166 63 = some (aI G 36 (nF al)) := by rw [hF_172 63 (by omega) (by omega) (by omega)]; exact f_63
    have hm_221 : M_166 64 = some (aZ G 6 (bF ho)) := by rw [hF_172 64 (by omega) (by omega) (by omega)]; exact f_64
    have hm_222 : M_166 65 = some (aI G 120 (nF mk)) := by rw [hF_172 65 (by omega) (by omega) (by omega)]; exact f_65
    have hm_223 : M_166 66 = some (aI G 120 mf) := by rw [hF_172 66 (by omega) (by omega) (by omega)]; exact f_66
    have hm_224 : M_166 67 = some (aI G 120 mu) := by rw [hF_172 67 (by omega) (by omega) (by omega)]; exact f_67
    have hm_225 : M_166 68 = some (aI G 121 (nF mz)) := by rw [hF_172 68 (by omega) (by omega) (by omega)]; exact f_68
    have hm_226 : M_166 69 = some (aI G 726 (nF rr)) := by rw [hF_172 69 (by omega) (by omega) (by omega)]; exact f_69
    have hm_227 : M_166 70 = some (aI G 726 (nF ee)) := by rw [hF_172 70 (by omega) (by omega) (by omega)]; exact f_70
    have hm_228 : M_166 71 = some (aI G 40 (nF lst)) := by rw [hF_172 71 (by omega) (by omega) (by omega)]; exact f_71
    have hm_229 : M_166 72 = some (aI G 40 (nF oa)) := by rw [hF_172 72 (by omega) (by omega) (by omega)]; exact f_72
    have hm_230 : M_166 73 = some (aI G 40 (nF ob)) := by rw [hF_172 73 (by omega) (by omega) (by omega)]; exact f_73
    have hm_231 : M_166 74 = some (aI G 120 s74) := by rw [hF_172 74 (by omega) (by omega) (by omega)]; exact f_74
    have hm_232 : M_166 75 = some (aI G 12 ak) := by rw [hF_172 75 (by omega) (by omega) (by omega)]; exact f_75
    have hm_233 : M_166 76 = some (aZ G 12 (bF nm)) := by rw [hF_172 76 (by omega) (by omega) (by omega)]; exact f_76
    have hm_234 : M_166 77 = some (aI G 12 (nF ap)) := by rw [hF_172 77 (by omega) (by omega) (by omega)]; exact f_77
    have hm_235 : M_166 78 = some (aI G 48 pr) := by rw [hF_172 78 (by omega) (by omega) (by omega)]; exact f_78
    have hm_236 : M_166 79 = some (aI G 48 pf) := by rw [hF_172 79 (by omega) (by omega) (by omega)]; exact f_79
    have hm_237 : M_166 80 = some (aB G 400 tf) := by rw [hF_172 80 (by omega) (by omega) (by omega)]; exact f_80
    have hm_238 : M_166 81 = some (aI G 5 fv) := by rw [hF_172 81 (by omega) (by omega) (by omega)]; exact f_81
    have hm_239 : M_166 82 = some (aZ G 384000 (bF tr)) := by rw [hF_172 82 (by omega) (by omega) (by omega)]; exact f_82
    have hm_240 : M_166 83 = some (aI G 3 (oF gv)) := by rw [hF_172 83 (by omega) (by omega) (by omega)]; exact f_83
    have hm_241 : M_166 84 = some (aI G 3 fo) := by rw [hF_172 84 (by omega) (by omega) (by omega)]; exact f_84
    have hm_242 : M_166 85 = some (aZ G 40 (bF re)) := by rw [hF_172 85 (by omega) (by omega) (by omega)]; exact f_85
    have hm_243 : M_166 86 = some (aZ G 120 (bF us)) := by rw [hF_172 86 (by omega) (by omega) (by omega)]; exact f_86
    have hm_244 : M_166 87 = some (aZ G 120 (bF nx)) := by rw [hF_172 87 (by omega) (by omega) (by omega)]; exact f_87
    have hm_245 : M_166 16 = some (cLines ad ) := by rw [hF_172 16 (by omega) (by omega) (by omega)]; exact h16
    have hF_246 : ∀ j : Nat, j ≠ 19 → j ≠ 99 → j < 100 → M_166 j = M j := fun j q0 q1 q2 => (hF_172 j q0 q1 q2)
    rw [hr_169]
    refine lv_istore (lv' := [(5, .int (nI 0)), (0, .ref b), (1, .ref (ad 0)), (2, .ref (ad 60)), (3, .ref (ad 99)), (4, .int (nI i))]) hx hb dL_law_650 hl (by decide) rfl (fun ls hl => ?_)
    refine lv_aload_n hx hb dL_law_652 rfl (lv_at hl 3 rfl) ?_
    refine lv_aload_n hx hb dL_law_653 rfl (lv_at hl 1 rfl) ?_
    refine lv_iload hx hb dL_law_654 (lv_at hl 5 rfl) ?_
    refine lv_iconst (v := nI 1) hx hb dL_law_656 (by decide) ?_
    refine lv_iadd hx hb dL_law_657 ?_
    refine n_eq (nI_add i 1) ?_
    refine va_sld (A := fr z) hx hb hX hbl hbz hI.S (vp_in_nI (n := i + 1) (by omega) (by omega)) dL_law_658 ?_
    rw [nI_clamp (by omega)]
    refine n_eq (show _ = nI t1 from et1) ?_
    refine lv_aload_n hx hb dL_law_659 rfl (lv_at hl 1 rfl) ?_
    refine lv_iload hx hb dL_law_660 (lv_at hl 5 rfl) ?_
    refine lv_iconst (v := nI 2) hx hb dL_law_662 (by decide) ?_
    refine lv_iadd hx hb dL_law_663 ?_
    refine n_eq (nI_add i 2) ?_
    refine va_sld (A := fr z) hx hb hX hbl hbz hI.S (vp_in_nI (n := i + 2) (by omega) (by omega)) dL_law_664 ?_
    rw [nI_clamp (by omega)]
    refine k_Ni (va_runV (As := [.int (nI t1), .int (xs (i + 2))]) (rest := []) ⟨hx, hb, hml, hown, hts⟩ (c_X10_strike l G z ad M_166 (th := tw) (on := jn) (ao := ao) (vr := vr) (sn := sn) (tp := len) (pt := pt) (zs := zs) (bg := bg) (fa := fw) (n := n) (kd := kd) (fm := fm) (to := to) (sz := sz) (rl := rl) (en := en) (mk := mk) (mf := mf) (mu := mu) (mz := mz) (rr := rr) (ee := ee) (ho := ho) (s0 := s74) (q := t1) (d := xs (i + 2)) hm_217 hm_222 hm_223 hm_224 hm_225 hm_226 hm_227 hm_221 hm_231 w1 w2 ht1 w17 w18) (cwV 2 hts (gV (lwg_of t_1184 rfl) (lwg_of t_1185 rfl) (lwg_of t_1186 rfl) (lwg_of t_13 rfl) (lwg_of t_1187 rfl)) rfl rfl rfl (by decide +kernel) ⟨Nat.le_of_ble_eq_true rfl, Nat.le_of_ble_eq_true rfl⟩) (hI.preV hm_217 rfl) rfl rfl hl.1 rfl (lv_room (Nat.le_of_ble_eq_true rfl)) dL_law_665 ⟨(show _ ≤ (601024 : Nat) from by omega), (show _ ≤ (7293034 : Nat) from by omega)⟩) hI (fun r_247 M_249 H_250 locs_251 hp_248 hI => ?_)
    obtain ⟨v_258, mu2_259, s9_260, hr_252, hm_253, hm_254, hm_255, hF_256, hP_257⟩ := hp_248
    have hm_261 : M_249 0 = some (cStore ad qa qs fw) := by rw [hF_256 0 (by omega) (by omega) (by omega)]; exact hm_178
    have hm_262 : M_249 1 = some (cTape ad len) := by rw [hF_256 1 (by omega) (by omega) (by omega)]; exact hm_179
    have hm_263 : M_249 2 = some (aI G 400 (nF tb)) := by rw [hF_256 2 (by omega) (by omega) (by omega)]; exact hm_180
    have hm_264 : M_249 3 = some (cLaws ad ) := by rw [hF_256 3 (by omega) (by omega) (by omega)]; exact hm_181
    have hm_265 : M_249 4 = some (aI G 36 (nF le)) := by rw [hF_256 4 (by omega) (by omega) (by omega)]; exact hm_182
    have hm_266 : M_249 5 = some (aI G 36 (nF mo)) := by rw [hF_256 5 (by omega) (by omega) (by omega)]; exact hm_183
    have hm_267 : M_249 6 = some (aI G 36 (nF al)) := by rw [hF_256 6 (by omega) (by omega) (by omega)]; exact hm_184
    have hm_268 : M_249 7 = some (aZ G 6 (bF ho)) := by rw [hF_256 7 (by omega) (by omega) (by omega)]; exact hm_185
    have hm_269 : M_249 8 = some (cOnes ad jn) := by rw [hF_256 8 (by omega) (by omega) (by omega)]; exact hm_186
    have hm_270 : M_249 9 = some (aI G 40 (nF hg)) := by rw [hF_256 9 (by omega) (by omega) (by omega)]; exact hm_187
    have hm_271 : M_249 10 = some (aI G 40 (nF lst)) := by rw [hF_256 10 (by omega) (by omega) (by omega)]; exact hm_188
    have hm_272 : M_249 11 = some (aI G 40 (nF jd)) := by rw [hF_256 11 (by omega) (by omega) (by omega)]; exact hm_189
    have hm_273 : M_249 12 = some (cEnds ad 12 s0) := by rw [hF_256 12 (by omega) (by omega) (by omega)]; exact hm_190
    have hm_274 : M_249 13 = some (aI G 6 (nF r0)) := by rw [hF_256 13 (by omega) (by omega) (by omega)]; exact hm_191
    have hm_275 : M_249 14 = some (aI G 6 (oF th)) := by rw [hF_256 14 (by omega) (by omega) (by omega)]; exact hm_192
    have hm_276 : M_249 15 = some (aI G 6 (oF ol)) := by rw [hF_256 15 (by omega) (by omega) (by omega)]; exact hm_193
    have hm_277 : M_249 19 = some (aZ G 120 (bF mk2_177)) := by rw [hF_256 19 (by omega) (by omega) (by omega)]; exact hm_170
    have hm_278 : M_249 20 = some (aI G 120 ff) := by rw [hF_256 20 (by omega) (by omega) (by omega)]; exact hm_194
    have hm_279 : M_249 21 = some (aI G 120 lq) := by rw [hF_256 21 (by omega) (by omega) (by omega)]; exact hm_195
    have hm_280 : M_249 22 = some (cReader ad ra rb rt rv) := by rw [hF_256 22 (by omega) (by omega) (by omega)]; exact hm_196
    have hm_281 : M_249 23 = some (cMatcher ad qm pz) := by rw [hF_256 23 (by omega) (by omega) (by omega)]; exact hm_197
    have hm_282 : M_249 24 = some (aJ G 2160 sx) := by rw [hF_256 24 (by omega) (by omega) (by omega)]; exact hm_198
    have hm_283 : M_249 25 = some (aI G 6 (nF ft)) := by rw [hF_256 25 (by omega) (by omega) (by omega)]; exact hm_199
    have hm_284 : M_249 26 = some (aJ G 240 rx) := by rw [hF_256 26 (by omega) (by omega) (by omega)]; exact hm_200
    have hm_285 : M_249 27 = some (aJ G 3 dm) := by rw [hF_256 27 (by omega) (by omega) (by omega)]; exact hm_201
    have hm_286 : M_249 28 = some (aI G 3 rc) := by rw [hF_256 28 (by omega) (by omega) (by omega)]; exact hm_202
    have hm_287 : M_249 qa = some (cQuestion ad qa ao vr) := by rw [hF_256 qa (by omega) (by omega) (by omega)]; exact hm_203
    have hm_288 : M_249 (qa + 1) = some (aI G 6 (nF kn)) := by rw [hF_256 (qa + 1) (by omega) (by omega) (by omega)]; exact hm_204
    have hm_289 : M_249 (qa + 2) = some (aZ G 6 (bF nq)) := by rw [hF_256 (qa + 2) (by omega) (by omega) (by omega)]; exact hm_205
    have hm_290 : M_249 (qa + 3) = some (aI G 6 (nF pn)) := by rw [hF_256 (qa + 3) (by omega) (by omega) (by omega)]; exact hm_206
    have hm_291 : M_249 (qa + 4) = some (aI G 6 (nF av)) := by rw [hF_256 (qa + 4) (by omega) (by omega) (by omega)]; exact hm_207
    have hm_292 : M_249 (qa + 5) = some (aI G 24 (nF ro)) := by rw [hF_256 (qa + 5) (by omega) (by omega) (by omega)]; exact hm_208
    have hm_293 : M_249 (qa + 6) = some (aI G 24 (nF te)) := by rw [hF_256 (qa + 6) (by omega) (by omega) (by omega)]; exact hm_209
    have hm_294 : M_249 qs = some (cQuestion ad qs sq su) := by rw [hF_256 qs (by omega) (by omega) (by omega)]; exact hm_210
    have hm_295 : M_249 (qs + 1) = some (aI G 6 (nF kb)) := by rw [hF_256 (qs + 1) (by omega) (by omega) (by omega)]; exact hm_211
    have hm_296 : M_249 (qs + 2) = some (aZ G 6 (bF nb)) := by rw [hF_256 (qs + 2) (by omega) (by omega) (by omega)]; exact hm_212
    have hm_297 : M_249 (qs + 3) = some (aI G 6 (nF pb)) := by rw [hF_256 (qs + 3) (by omega) (by omega) (by omega)]; exact hm_213
    have hm_298 : M_249 (qs + 4) = some (aI G 6 (nF ab)) := by rw [hF_256 (qs + 4) (by omega) (by omega) (by omega)]; exact hm_214
    have hm_299 : M_249 (qs + 5) = some (aI G 24 (nF rbb)) := by rw [hF_256 (qs + 5) (by omega) (by omega) (by omega)]; exact hm_215
    have hm_300 : M_249 (qs + 6) = some (aI G 24 (nF tbb)) := by rw [hF_256 (qs + 6) (by omega) (by omega) (by omega)]; exact hm_216
    have hm_301 : M_249 61 = some (aI G 36 (nF le)) := by rw [hF_256 61 (by omega) (by omega) (by omega)]; exact hm_218
    have hm_302 : M_249 62 = some (aI G 36 (nF mo)) := by rw [hF_256 62 (by omega) (by omega) (by omega)]; exact hm_219
    have hm_303 : M_249 63 = some (aI G 36 (nF al)) := by rw [hF_256 63 (by omega) (by omega) (by omega)]; exact hm_220
    have hm_304 : M_249 64 = some (aZ G 6 (bF ho)) := by rw [hF_256 64 (by omega) (by omega) (by omega)]; exact hm_221
    have hm_305 : M_249 65 = some (aI G 120 (nF mk)) := by rw [hF_256 65 (by omega) (by omega) (by omega)]; exact hm_222
    have hm_306 : M_249 66 = some (aI G 120 mf) := by rw [hF_256 66 (by omega) (by omega) (by omega)]; exact hm_223
    have hm_307 : M_249 68 = some (aI G 121 (nF mz)) := by rw [hF_256 68 (by omega) (by omega) (by omega)]; exact hm_225
    have hm_308 : M_249 69 = some (aI G 726 (nF rr)) := by rw [hF_256 69 (by omega) (by omega) (by omega)]; exact hm_226
    have hm_309 : M_249 70 = some (aI G 726 (nF ee)) := by rw [hF_256 70 (by omega) (by omega) (by omega)]; exact hm_227
    have hm_310 : M_249 71 = some (aI G 40 (nF lst)) := by rw [hF_256 71 (by omega) (by omega) (by omega)]; exact hm_228
    have hm_311 : M_249 72 = some (aI G 40 (nF oa)) := by rw [hF_256 72 (by omega) (by omega) (by omega)]; exact hm_229
    have hm_312 : M_249 73 = some (aI G 40 (nF ob)) := by rw [hF_256 73 (by omega) (by omega) (by omega)]; exact hm_230
    have hm_313 : M_249 75 = some (aI G 12 ak) := by rw [hF_256 75 (by omega) (by omega) (by omega)]; exact hm_232
    have hm_314 : M_249 76 = some (aZ G 12 (bF nm)) := by rw [hF_256 76 (by omega) (by omega) (by omega)]; exact hm_233
    have hm_315 : M_249 77 = some (aI G 12 (nF ap)) := by rw [hF_256 77 (by omega) (by omega) (by omega)]; exact hm_234
    have hm_316 : M_249 78 = some (aI G 48 pr) := by rw [hF_256 78 (by omega) (by omega) (by omega)]; exact hm_235
    have hm_317 : M_249 79 = some (aI G 48 pf) := by rw [hF_256 79 (by omega) (by omega) (by omega)]; exact hm_236
    have hm_318 : M_249 80 = some (aB G 400 tf) := by rw [hF_256 80 (by omega) (by omega) (by omega)]; exact hm_237
    have hm_319 : M_249 81 = some (aI G 5 fv) := by rw [hF_256 81 (by omega) (by omega) (by omega)]; exact hm_238
    have hm_320 : M_249 82 = some (aZ G 384000 (bF tr)) := by rw [hF_256 82 (by omega) (by omega) (by omega)]; exact hm_239
    have hm_321 : M_249 83 = some (aI G 3 (oF gv)) := by rw [hF_256 83 (by omega) (by omega) (by omega)]; exact hm_240
    have hm_322 : M_249 84 = some (aI G 3 fo) := by rw [hF_256 84 (by omega) (by omega) (by omega)]; exact hm_241
    have hm_323 : M_249 85 = some (aZ G 40 (bF re)) := by rw [hF_256 85 (by omega) (by omega) (by omega)]; exact hm_242
    have hm_324 : M_249 86 = some (aZ G 120 (bF us)) := by rw [hF_256 86 (by omega) (by omega) (by omega)]; exact hm_243
    have hm_325 : M_249 87 = some (aZ G 120 (bF nx)) := by rw [hF_256 87 (by omega) (by omega) (by omega)]; exact hm_244
    have hm_326 : M_249 99 = some (aJ G 1 (vp_updL of 0 ((nI v_175).toInt64))) := by rw [hF_256 99 (by omega) (by omega) (by omega)]; exact hm_171
    have hm_327 : M_249 16 = some (cLines ad ) := by rw [hF_256 16 (by omega) (by omega) (by omega)]; exact hm_245
    have hL_328 : LSm G ad M_249 n kd fm tn_176 sz rl en := hL_173.keep (fun j hj => hF_256 j (by omega) (by omega) (by omega))
    have hF_329 : ∀ j : Nat, j ≠ 19 → j ≠ 99 → j < 100 → j ≠ 60 → j ≠ 67 → j ≠ 74 → M_249 j = M j := fun j q0 q1 q2 q3 q4 q5 => (hF_256 j q3 q4 q5).trans (hF_246 j q0 q1 q2)
    rw [hr_252]
    refine lv_istore (lv' := [(6, .int (nI v_258)), (5, .int (nI 0)), (0, .ref b), (1, .ref (ad 0)), (2, .ref (ad 60)), (3, .ref (ad 99)), (4, .int (nI i))]) hx hb dL_law_668 hl (by decide) rfl (fun ls hl => ?_)
    have hvv := str_eq hP_174 hP_257
    refine lv_aload_n hx hb dL_law_670 rfl (lv_at hl 4 rfl) ?_
    refine k_Ri (va_runV (As := []) (rest := []) ⟨hx, hb, hml, hown, hts⟩ (c_X10_thrown l G z ad M_249 (th := 0) (ln := n) (on := jn) (ao := ao) (vr := vr) (sn := sn) (tp := len) (pt := pt) (zs := zs) (bg := bg) (fa := fw) hm_253) (cwV 0 hts (gV (lwg_of t_997 rfl) (lwg_of t_998 rfl) (lwg_of t_999 rfl) (lwg_of t_13 rfl) (lwg_of t_1000 rfl)) rfl rfl rfl (by decide +kernel) ⟨Nat.le_of_ble_eq_true rfl, Nat.le_of_ble_eq_true rfl⟩) (hI.preV hm_253 rfl) rfl rfl hl.1 rfl (lv_room (Nat.le_of_ble_eq_true rfl)) dL_law_671 ⟨(show _ ≤ (601024 : Nat) from by omega), (show _ ≤ (7293034 : Nat) from by omega)⟩) (fun _ h => h) (fun r_330 hp_331 => ?_)
    rw [hp_331]
    refine lv_iload hx hb dL_law_674 (lv_at hl 1 rfl) ?_
    refine lv_icmp_eq (tgt := 681) hx hb dL_law_676 (by decide) (fun c_332 => ?_) (fun c_332 => ?_)
    · -- 676: nI 0 eq
      refine lv_iload hx hb dL_law_681 (lv_at hl 1 rfl) ?_
      refine lv_if_ne (tgt := 698) hx hb dL_law_683 (by decide) (fun c_333 => ?_) (fun c_333 => ?_)
      · -- 683: nI 0 ne
        exact absurd (by decide) c_333
      · -- 683: nI 0 eq
        refine lv_aload_n hx hb dL_law_686 rfl (lv_at hl 5 rfl) ?_
        refine lv_iconst (v := nI 0) hx hb dL_law_687 (by decide) ?_
        refine h_lald (i := 0) hx hb hI hm_326 (by omega) (by decide) dL_law_688 ?_
        refine n_eql (show _ = (nI v_258).toInt64 from updL_0.trans (congrArg (fun x => (nI x).toInt64) hvv.1)) ?_
        refine lv_iload hx hb dL_law_689 (lv_at hl 0 rfl) ?_
        refine lv_i2l (v := (nI v_258).toInt64) hx hb dL_law_691 rfl ?_
        refine W.lcmp hx hb dL_law_692 ?_
        refine lv_if_eq (tgt := 698) hx hb dL_law_693 (by decide) (fun c_334 => ?_) (fun c_334 => ?_)
        · -- 693: lg_cmp ((nI v_258).toInt64) ((nI v_258).toInt64) eq
          have c_334 : (nI v_258).toInt64 = (nI v_258).toInt64 := (lg_cmp_eq _ _).mp c_334
          refine lv_goto (tgt := 1333) hx hb dL_law_698 (by decide) ?_
          refine W.widen (k := cz + 10) (n := sy + 300) (by omega) (by omega) ?_
          exact kk ad (dropM n M_249) H_250 locs_251 ls n kd fm tn_176 sz rl en qa qs fw len tb le mo al ho jn hg lst jd s0 r0 th ol e0 mk2_177 ff lq ra rb rt rv qm pz sx ft rx dm rc ao vr kn nq pn av ro te sq su kb nb pb ab rbb tbb 0 sn pt zs bg mk mf mu2_259 mz rr ee oa ob s9_260 ak nm ap pr pf tf fv tr gv fo re us nx (vp_updL of 0 ((nI v_175).toInt64)) (LSm.drop hL_328) w1 (mrel_to w2 hvv.2) w3 w4 w5 w6 w7 w8 w9 w10 w11 w12 w13 w14 w15 w16 w17 w18 w19 w20 w21 w22 w23 w24 w25 w26 w27 w28 w29 (fun h9 => by rw [dropM_lo (by decide), dropM_lo (by decide)]; exact (fun h9 => by rw [hF_329 17 (by omega) (by omega) (by omega) (by omega) (by omega) (by omega), hF_329 18 (by omega) (by omega) (by omega) (by omega) (by omega) (by omega)]; exact w30 h9) h9) ((dropM_lo (by decide)).trans (by rw [hF_329 29 (by omega) (by omega) (by omega) (by omega) (by omega) (by omega)]; exact w31)) (fun j9 h9 => dropM_ge h9) ((dropM_lo (by decide)).trans hm_261) ((dropM_lo (by decide)).trans hm_262) ((dropM_lo (by decide)).trans hm_263) ((dropM_lo (by decide)).trans hm_264) ((dropM_lo (by decide)).trans hm_265) ((dropM_lo (by decide)).trans hm_266) ((dropM_lo (by decide)).trans hm_267) ((dropM_lo (by decide)).trans hm_268) ((dropM_lo (by decide)).trans hm_269) ((dropM_lo (by decide)).trans hm_270) ((dropM_lo (by decide)).trans hm_271) ((dropM_lo (by decide)).trans hm_272) ((dropM_lo (by decide)).trans hm_273) ((dropM_lo (by decide)).trans hm_274) ((dropM_lo (by decide)).trans hm_275) ((dropM_lo (by decide)).trans hm_276) ((dropM_lo (by decide)).trans hm_277) ((dropM_lo (by decide)).trans hm_278) ((dropM_lo (by decide)).trans hm_279) ((dropM_lo (by decide)).trans hm_280) ((dropM_lo (by decide)).trans hm_281) ((dropM_lo (by decide)).trans hm_282) ((dropM_lo (by decide)).trans hm_283) ((dropM_lo (by decide)).trans hm_284) ((dropM_lo (by decide)).trans hm_285) ((dropM_lo (by decide)).trans hm_286) ((dropM_lo (by omega)).trans hm_287) ((dropM_lo (by omega)).trans hm_288) ((dropM_lo (by omega)).trans hm_289) ((dropM_lo (by omega)).trans hm_290) ((dropM_lo (by omega)).trans hm_291) ((dropM_lo (by omega)).trans hm_292) ((dropM_lo (by omega)).trans hm_293) ((dropM_lo (by omega)).trans hm_294) ((dropM_lo (by omega)).trans hm_295) ((dropM_lo (by omega)).trans hm_296) ((dropM_lo (by omega)).trans hm_297) ((dropM_lo (by omega)).trans hm_298) ((dropM_lo (by omega)).trans hm_299) ((dropM_lo (by omega)).trans hm_300) ((dropM_lo (by decide)).trans hm_253) ((dropM_lo (by decide)).trans hm_301) ((dropM_lo (by decide)).trans hm_302) ((dropM_lo (by decide)).trans hm_303) ((dropM_lo (by decide)).trans hm_304) ((dropM_lo (by decide)).trans hm_305) ((dropM_lo (by decide)).trans hm_306) ((dropM_lo (by decide)).trans hm_254) ((dropM_lo (by decide)).trans hm_307) ((dropM_lo (by decide)).trans hm_308) ((dropM_lo (by decide)).trans hm_309) ((dropM_lo (by decide)).trans hm_310) ((dropM_lo (by decide)).trans hm_311) ((dropM_lo (by decide)).trans hm_312) ((dropM_lo (by decide)).trans hm_255) ((dropM_lo (by decide)).trans hm_313) ((dropM_lo (by decide)).trans hm_314) ((dropM_lo (by decide)).trans hm_315) ((dropM_lo (by decide)).trans hm_316) ((dropM_lo (by decide)).trans hm_317) ((dropM_lo (by decide)).trans hm_318) ((dropM_lo (by decide)).trans hm_319) ((dropM_lo (by decide)).trans hm_320) ((dropM_lo (by decide)).trans hm_321) ((dropM_lo (by decide)).trans hm_322) ((dropM_lo (by decide)).trans hm_323) ((dropM_lo (by decide)).trans hm_324) ((dropM_lo (by decide)).trans hm_325) ((dropM_lo (by decide)).trans hm_326) (iv_drop hI) (lv_sub hl [2, 3, 4, 5, 6] rfl)
        · -- 693: lg_cmp ((nI v_258).toInt64) ((nI v_258).toInt64) ne
          have c_334 : (nI v_258).toInt64 ≠ (nI v_258).toInt64 := (fun h => c_334 ((lg_cmp_eq _ _).mpr h))
          exact absurd rfl c_334
    · -- 676: nI 0 ne
      exact absurd (by decide) c_332

set_option maxHeartbeats 8000000 in
set_option maxRecDepth 100000 in
theorem law_5 {p : Program} {l : Launch} {e : Env} {s : State} {m : MethodId} {below : List Frame} {meth : Method} {c : Code} {b L : Nat} {xs : Nat → Int32} {Q : State → Prop} {G : GG} {z : Nat} {ad : Nat → Nat} {M : Mem} {H : Heap} {locs : List Loc} {ls : Array Slot} {i cz sy : Nat} (hst : l.stackTraces = false) (hx : p.tables.exec = Jvm.exec) (hb : c.code = code) (hml : c.maxLocals = 7) (hown : s.vm.findClass RL = some m.cls) {cx : Cond} (hts : ∀ w ∈ cx :: lwg, w.before #[Value.ref b] s = true) (hX : va_X b L xs s s.heap) (hbl : b < s.heap.size) (hbz : ¬ z ≤ b) (hI : Iv G z ad M s H locs) (hl : lv_has ls 7 [(0, .ref b), (1, .ref (ad 0)), (2, .ref (ad 60)), (3, .ref (ad 99)), (4, .int (nI i))]) (hiL : i + 6 ≤ L) (hL : L ≤ 3072) (hcz : cz + 10 ≤ 601024) (hsy : sy + 300 ≤ 7293034) {n : Nat} {kd : Nat → Nat} {fm : Nat → Int32} {to : Nat → Int32} {sz : Nat → Nat} {rl : Nat → Nat → Nat} {en : Nat → Nat → Nat} {qa : Nat} {qs : Nat} {fw : Int32} {len : Nat} {tb : Nat → Nat} {le : Nat → Nat} {mo : Nat → Nat} {al : Nat → Nat} {ho : Nat → Bool} {jn : Nat} {hg : Nat → Nat} {lst : Nat → Nat} {jd : Nat → Nat} {s0 : Nat} {r0 : Nat → Nat} {th : Nat → Option Nat} {ol : Nat → Option Nat} {e0 : Nat → Nat} {mm9 : Nat → Bool} {ff : Nat → Int32} {lq : Nat → Int32} {ra : Nat} {rb : Nat} {rt : Int32} {rv : Int32} {qm : Nat} {pz : Nat} {sx : Nat → Int64} {ft : Nat → Nat} {rx : Nat → Int64} {dm : Nat → Int64} {rc : Nat → Int32} {ao : Nat} {vr : Nat} {kn : Nat → Nat} {nq : Nat → Bool} {pn : Nat → Nat} {av : Nat → Nat} {ro : Nat → Nat} {te : Nat → Nat} {sq : Nat} {su : Nat} {kb : Nat → Nat} {nb : Nat → Bool} {pb : Nat → Nat} {ab : Nat → Nat} {rbb : Nat → Nat} {tbb : Nat → Nat} {tw : Nat} {sn : Nat} {pt : Nat} {zs : Nat} {bg : Nat} {mk : Nat → Nat} {mf : Nat → Int32} {mu : Nat → Int32} {mz : Nat → Nat} {rr : Nat → Nat} {ee : Nat → Nat} {oa : Nat → Nat} {ob : Nat → Nat} {s74 : Nat → Int32} {ak : Nat → Int32} {nm : Nat → Bool} {ap : Nat → Nat} {pr : Nat → Int32} {pf : Nat → Int32} {tf : Nat → Int32} {fv : Nat → Int32} {tr : Nat → Bool} {gv : Nat → Option Nat} {fo : Nat → Int32} {re : Nat → Bool} {us : Nat → Bool} {nx : Nat → Bool} {of : Nat → Int64} (fL : LSm G ad M n kd fm to sz rl en) (w1 : LSw n kd sz rl en) (w2 : MRel n kd fm to sz rl en mk mf mu mz rr ee) (w3 : JI jn hg lst jd oa ob) (w4 : len ≤ 400) (w5 : ∀ j, j < len → tb j < 256) (w6 : ∀ j, j < len → tf j = sB (tb j)) (w7 : s0 ≤ 6) (w8 : mz 120 = s0) (w9 : ∀ j, j < s0 → rr (720 + j) = r0 j ∧ ee (720 + j) = e0 j) (w10 : ∀ j, j < s0 → r0 j < 6) (w11 : ∀ j, j < s0 → e0 j < 40 + n) (w12 : ∀ j, j < s0 → th j = thE e0 j) (w13 : ∀ j, j < s0 → ol j = olE e0 j) (w14 : ∀ j, j < 36 → le j < 100) (w15 : ∀ j, j < 36 → mo j < 100) (w16 : ∀ j, j < 36 → al j ≤ 100) (w17 : ∀ i, i < n → (0 : Int32) ≤ fm i) (w18 : ∀ i, i < n → ∀ k, hgs sz en i k = true → fm k ≤ fm i) (w19 : ao ≤ 6) (w20 : vr < 8) (w21 : ∀ i, i < ao → ap i ≤ 4 ∧ (ak i = nI (kn i) ∧ kn i < 6) ∧ ∀ p8, p8 < ap i → (pr (4 * i + p8) = nI (ro (i * 4 + p8)) ∧ ro (i * 4 + p8) < 6) ∧ te (i * 4 + p8) < 43 ∧ pf (4 * i + p8) = tmI (te (i * 4 + p8))) (w22 : ∀ i, i < ao → nm i = nq i ∧ ap i = pn i) (w23 : ∀ i, i < ao → av i < 8) (w24 : ∀ i, i < ao → (av i).testBit 0 = false → ∀ p9, p9 < pn i → te (i * 4 + p9) ≠ 40) (w25 : ∀ v, v < 3 → vr.testBit v = true → ∃ i, i < ao ∧ nq i = false ∧ ∃ k, k < pn i ∧ te (i * 4 + k) = 40 + v) (w26 : 29 < qa ∧ qa < 38) (w27 : 29 < qs ∧ qs < 38) (w28 : qa + 7 ≤ qs ∨ qs + 7 ≤ qa) (w29 : 29 < qm ∧ qm < 51) (w30 : n = 0 → (∃ mcn : Int32, M 17 = some (cList ad mcn G.2.2.2.2 0)) ∧ M 18 = none) (w31 : M 29 = none) (w32 : ∀ j, 100 + 5 * n ≤ j → M j = none) (f_0 : M 0 = some (cStore ad qa qs fw)) (f_1 : M 1 = some (cTape ad len)) (f_2 : M 2 = some (aI G 400 (nF tb))) (f_3 : M 3 = some (cLaws ad )) (f_4 : M 4 = some (aI G 36 (nF le))) (f_5 : M 5 = some (aI G 36 (nF mo))) (f_6 : M 6 = some (aI G 36 (nF al))) (f_7 : M 7 = some (aZ G 6 (bF ho))) (f_8 : M 8 = some (cOnes ad jn)) (f_9 : M 9 = some (aI G 40 (nF hg))) (f_10 : M 10 = some (aI G 40 (nF lst))) (f_11 : M 11 = some (aI G 40 (nF jd))) (f_12 : M 12 = some (cEnds ad 12 s0)) (f_13 : M 13 = some (aI G 6 (nF r0))) (f_14 : M 14 = some (aI G 6 (oF th))) (f_15 : M 15 = some (aI G 6 (oF ol))) (f_19 : M 19 = some (aZ G 120 (bF mm9))) (f_20 : M 20 = some (aI G 120 ff)) (f_21 : M 21 = some (aI G 120 lq)) (f_22 : M 22 = some (cReader ad ra rb rt rv)) (f_23 : M 23 = some (cMatcher ad qm pz)) (f_24 : M 24 = some (aJ G 2160 sx)) (f_25 : M 25 = some (aI G 6 (nF ft))) (f_26 : M 26 = some (aJ G 240 rx)) (f_27 : M 27 = some (aJ G 3 dm)) (f_28 : M 28 = some (aI G 3 rc)) (f_qa : M qa = some (cQuestion ad qa ao vr)) (f_qa_1 : M (qa + 1) = some (aI G 6 (nF kn))) (f_qa_2 : M (qa + 2) = some (aZ G 6 (bF nq))) (f_qa_3 : M (qa + 3) = some (aI G 6 (nF pn))) (f_qa_4 : M (qa + 4) = some (aI G 6 (nF av))) (f_qa_5 : M (qa + 5) = some (aI G 24 (nF ro))) (f_qa_6 : M (qa + 6) = some (aI G 24 (nF te))) (f_qs : M qs = some (cQuestion ad qs sq su)) (f_qs_1 : M (qs + 1) = some (aI G 6 (nF kb))) (f_qs_2 : M (qs + 2) = some (aZ G 6 (bF nb))) (f_qs_3 : M (qs + 3) = some (aI G 6 (nF pb))) (f_qs_4 : M (qs + 4) = some (aI G 6 (nF ab))) (f_qs_5 : M (qs + 5) = some (aI G 24 (nF rbb))) (f_qs_6 : M (qs + 6) = some (aI G 24 (nF tbb))) (f_60 : M 60 = some (cModel ad tw n jn ao vr sn len pt zs bg fw)) (f_61 : M 61 = some (aI G 36 (nF le))) (f_62 : M 62 = some (aI G 36 (nF mo))) (f_63 : M 63 = some (aI G 36 (nF al))) (f_64 : M 64 = some (aZ G 6 (bF ho))) (f_65 : M 65 = some (aI G 120 (nF mk))) (f_66 : M 66 = some (aI G 120 mf)) (f_67 : M 67 = some (aI G 120 mu)) (f_68 : M 68 = some (aI G 121 (nF mz))) (f_69 : M 69 = some (aI G 726 (nF rr))) (f_70 : M 70 = some (aI G 726 (nF ee))) (f_71 : M 71 = some (aI G 40 (nF lst))) (f_72 : M 72 = some (aI G 40 (nF oa))) (f_73 : M 73 = some (aI G 40 (nF ob))) (f_74 : M 74 = some (aI G 120 s74)) (f_75 : M 75 = some (aI G 12 ak)) (f_76 : M 76 = some (aZ G 12 (bF nm))) (f_77 : M 77 = some (aI G 12 (nF ap))) (f_78 : M 78 = some (aI G 48 pr)) (f_79 : M 79 = some (aI G 48 pf)) (f_80 : M 80 = some (aB G 400 tf)) (f_81 : M 81 = some (aI G 5 fv)) (f_82 : M 82 = some (aZ G 384000 (bF tr))) (f_83 : M 83 = some (aI G 3 (oF gv))) (f_84 : M 84 = some (aI G 3 fo)) (f_85 : M 85 = some (aZ G 40 (bF re))) (f_86 : M 86 = some (aZ G 120 (bF us))) (f_87 : M 87 = some (aZ G 120 (bF nx))) (f_99 : M 99 = some (aJ G 1 of)) (kk : ∀ (ad1 : Nat → Nat) (M1 : Mem) (H1 : Heap) (locs1 : List Loc) (ls1 : Array Slot) (n : Nat) (kd : Nat → Nat) (fm : Nat → Int32) (to : Nat → Int32) (sz : Nat → Nat) (rl : Nat → Nat → Nat) (en : Nat → Nat → Nat) (qa : Nat) (qs : Nat) (fw : Int32) (len : Nat) (tb : Nat → Nat) (le : Nat → Nat) (mo : Nat → Nat) (al : Nat → Nat) (ho : Nat → Bool) (jn : Nat) (hg : Nat → Nat) (lst : Nat → Nat) (jd : Nat → Nat) (s0 : Nat) (r0 : Nat → Nat) (th : Nat → Option Nat) (ol : Nat → Option Nat) (e0 : Nat → Nat) (mm9 : Nat → Bool) (ff : Nat → Int32) (lq : Nat → Int32) (ra : Nat) (rb : Nat) (rt : Int32) (rv : Int32) (qm : Nat) (pz : Nat) (sx : Nat → Int64) (ft : Nat → Nat) (rx : Nat → Int64) (dm : Nat → Int64) (rc : Nat → Int32) (ao : Nat) (vr : Nat) (kn : Nat → Nat) (nq : Nat → Bool) (pn : Nat → Nat) (av : Nat → Nat) (ro : Nat → Nat) (te : Nat → Nat) (sq : Nat) (su : Nat) (kb : Nat → Nat) (nb : Nat → Bool) (pb : Nat → Nat) (ab : Nat → Nat) (rbb : Nat → Nat) (tbb : Nat → Nat) (tw : Nat) (sn : Nat) (pt : Nat) (zs : Nat) (bg : Nat) (mk : Nat → Nat) (mf : Nat → Int32) (mu : Nat → Int32) (mz : Nat → Nat) (rr : Nat → Nat) (ee : Nat → Nat) (oa : Nat → Nat) (ob : Nat → Nat) (s74 : Nat → Int32) (ak : Nat → Int32) (nm : Nat → Bool) (ap : Nat → Nat) (pr : Nat → Int32) (pf : Nat → Int32) (tf : Nat → Int32) (fv : Nat → Int32) (tr : Nat → Bool) (gv : Nat → Option Nat) (fo : Nat → Int32) (re : Nat → Bool) (us : Nat → Bool) (nx : Nat → Bool) (of : Nat → Int64), (LSm G ad1 M1 n kd fm to sz rl en) → (LSw n kd sz rl en) → (MRel n kd fm to sz rl en mk mf mu mz rr ee) → (JI jn hg lst jd oa ob) → (len ≤ 400) → (∀ j, j < len → tb j < 256) → (∀ j, j < len → tf j = sB (tb j)) → (s0 ≤ 6) → (mz 120 = s0) → (∀ j, j < s0 → rr (720 + j) = r0 j ∧ ee (720 + j) = e0 j) → (∀ j, j < s0 → r0 j < 6) → (∀ j, j < s0 → e0 j < 40 + n) → (∀ j, j < s0 → th j = thE e0 j) → (∀ j, j < s0 → ol j = olE e0 j) → (∀ j, j < 36 → le j < 100) → (∀ j, j < 36 → mo j < 100) → (∀ j, j < 36 → al j ≤ 100) → (∀ i, i < n → (0 : Int32) ≤ fm i) → (∀ i, i < n → ∀ k, hgs sz en i k = true → fm k ≤ fm i) → (ao ≤ 6) → (vr < 8) → (∀ i, i < ao → ap i ≤ 4 ∧ (ak i = nI (kn i) ∧ kn i < 6) ∧ ∀ p8, p8 < ap i → (pr (4 * i + p8) = nI (ro (i * 4 + p8)) ∧ ro (i * 4 + p8) < 6) ∧ te (i * 4 + p8) < 43 ∧ pf (4 * i + p8) = tmI (te (i * 4 + p8))) → (∀ i, i < ao → nm i = nq i ∧ ap i = pn i) → (∀ i, i < ao → av i < 8) → (∀ i, i < ao → (av i).testBit 0 = false → ∀ p9, p9 < pn i → te (i * 4 + p9) ≠ 40) → (∀ v, v < 3 → vr.testBit v = true → ∃ i, i < ao ∧ nq i = false ∧ ∃ k, k < pn i ∧ te (i * 4 + k) = 40 + v) → (29 < qa ∧ qa < 38) → (29 < qs ∧ qs < 38) → (qa + 7 ≤ qs ∨ qs + 7 ≤ qa) → (29 < qm ∧ qm < 51) → (n = 0 → (∃ mcn : Int32, M1 17 = some (cList ad1 mcn G.2.2.2.2 0)) ∧ M1 18 = none) → (M1 29 = none) → (∀ j, 100 + 5 * n ≤ j → M1 j = none) → (M1 0 = some (cStore ad1 qa qs fw)) → (M1 1 = some (cTape ad1 len)) → (M1 2 = some (aI G 400 (nF tb))) → (M1 3 = some (cLaws ad1 )) → (M1 4 = some (aI G 36 (nF le))) → (M1 5 = some (aI G 36 (nF mo))) → (M1 6 = some (aI G 36 (nF al))) → (M1 7 = some (aZ G 6 (bF ho))) → (M1 8 = some (cOnes ad1 jn)) → (M1 9 = some (aI G 40 (nF hg))) → (M1 10 = some (aI G 40 (nF lst))) → (M1 11 = some (aI G 40 (nF jd))) → (M1 12 = some (cEnds ad1 12 s0)) → (M1 13 = some (aI G 6 (nF r0))) → (M1 14 = some (aI G 6 (oF th))) → (M1 15 = some (aI G 6 (oF ol))) → (M1 19 = some (aZ G 120 (bF mm9))) → (M1 20 = some (aI G 120 ff)) → (M1 21 = some (aI G 120 lq)) → (M1 22 = some (cReader ad1 ra rb rt rv)) → (M1 23 = some (cMatcher ad1 qm pz)) → (M1 24 = some (aJ G 2160 sx)) → (M1 25 = some (aI G 6 (nF ft))) → (M1 26 = some (aJ G 240 rx)) → (M1 27 = some (aJ G 3 dm)) → (M1 28 = some (aI G 3 rc)) → (M1 qa = some (cQuestion ad1 qa ao vr)) → (M1 (qa + 1) = some (aI G 6 (nF kn))) → (M1 (qa + 2) = some (aZ G 6 (bF nq))) → (M1 (qa + 3) = some (aI G 6 (nF pn))) → (M1 (qa + 4) = some (aI G 6 (nF av))) → (M1 (qa + 5) = some (aI G 24 (nF ro))) → (M1 (qa + 6) = some (aI G 24 (nF te))) → (M1 qs = some (cQuestion ad1 qs sq su)) → (M1 (qs + 1) = some (aI G 6 (nF kb))) → (M1 (qs + 2) = some (aZ G 6 (bF nb))) → (M1 (qs + 3) = some (aI G 6 (nF pb))) → (M1 (qs + 4) = some (aI G 6 (nF ab))) → (M1 (qs + 5) = some (aI G 24 (nF rbb))) → (M1 (qs + 6) = some (aI G 24 (nF tbb))) → (M1 60 = some (cModel ad1 tw n jn ao vr sn len pt zs bg fw)) → (M1 61 = some (aI G 36 (nF le))) → (M1 62 = some (aI G 36 (nF mo))) → (M1 63 = some (aI G 36 (nF al))) → (M1 64 = some (aZ G 6 (bF ho))) → (M1 65 = some (aI G 120 (nF mk))) → (M1 66 = some (aI G 120 mf)) → (M1 67 = some (aI G 120 mu)) → (M1 68 = some (aI G 121 (nF mz))) → (M1 69 = some (aI G 726 (nF rr))) → (M1 70 = some (aI G 726 (nF ee))) → (M1 71 = some (aI G 40 (nF lst))) → (M1 72 = some (aI G 40 (nF oa))) → (M1 73 = some (aI G 40 (nF ob))) → (M1 74 = some (aI G 120 s74)) → (M1 75 = some (aI G 12 ak)) → (M1 76 = some (aZ G 12 (bF nm))) → (M1 77 = some (aI G 12 (nF ap))) → (M1 78 = some (aI G 48 pr)) → (M1 79 = some (aI G 48 pf)) → (M1 80 = some (aB G 400 tf)) → (M1 81 = some (aI G 5 fv)) → (M1 82 = some (aZ G 384000 (bF tr))) → (M1 83 = some (aI G 3 (oF gv))) → (M1 84 = some (aI G 3 fo)) → (M1 85 = some (aZ G 40 (bF re))) → (M1 86 = some (aZ G 120 (bF us))) → (M1 87 = some (aZ G 120 (bF nx))) → (M1 99 = some (aJ G 1 of)) → Iv G z ad1 M1 s H1 locs1 → lv_has ls1 7 [(0, .ref b), (1, .ref (ad1 0)), (2, .ref (ad1 60)), (3, .ref (ad1 99)), (4, .int (nI i))] → W p l e room_1 s m #[Value.ref b] below meth c H1 locs1 (cz + 10) (sy + 300) Q (F0 m 1333 ls1 [])) : W p l e room_1 s m #[Value.ref b] below meth c H locs cz sy Q (F0 m 457 ls []) := by
  have h16 := fL.1
  have hw1 := w1.1
  have hlst := ji_lst w3
  rcases (in_or 6 (xs (i + 1)) (by omega) : (xs (i + 1) < 0 ∨ ¬ xs (i + 1) < nI 6) ∨ (∃ t : Nat, t < 6 ∧ xs (i + 1) = nI t)) with hc_1 | hc_2
  · skip
    refine lv_aload_n hx hb dL_law_457 rfl (lv_at hl 1 rfl) ?_
    refine lv_aload_n hx hb dL_law_458 rfl (lv_at hl 0 rfl) ?_
    refine lv_iload hx hb dL_law_459 (lv_at hl 4 rfl) ?_
    refine lv_iconst (v := nI 1) hx hb dL_law_461 (by decide) ?_
    refine lv_iadd hx hb dL_law_462 ?_
    refine n_eq (nI_add i 1) ?_
    refine va_sld (A := fr z) hx hb hX hbl hbz hI.S (vp_in_nI (n := i + 1) (by omega) (by omega)) dL_law_463 ?_
    rw [nI_clamp (by omega)]
    refine lv_aload_n hx hb dL_law_464 rfl (lv_at hl 0 rfl) ?_
    refine lv_iload hx hb dL_law_465 (lv_at hl 4 rfl) ?_
    refine lv_iconst (v := nI 2) hx hb dL_law_467 (by decide) ?_
    refine lv_iadd hx hb dL_law_468 ?_
    refine n_eq (nI_add i 2) ?_
    refine va_sld (A := fr z) hx hb hX hbl hbz hI.S (vp_in_nI (n := i + 2) (by omega) (by omega)) dL_law_469 ?_
    rw [nI_clamp (by omega)]
    refine lv_if_eq (tgt := 477) hx hb dL_law_470 (by decide) (fun c_3 => ?_) (fun c_3 => ?_)
    · -- 470: xs (i + 2) eq
      refine lv_iconst (v := nI 0) hx hb dL_law_477 (by decide) ?_
      refine n_eq (show _ = bI false from rfl) ?_
      refine lv_aload_n hx hb dL_law_478 rfl (lv_at hl 0 rfl) ?_
      refine lv_iload hx hb dL_law_479 (lv_at hl 4 rfl) ?_
      refine lv_iconst (v := nI 3) hx hb dL_law_481 (by decide) ?_
      refine lv_iadd hx hb dL_law_482 ?_
      refine n_eq (nI_add i 3) ?_
      refine va_sld (A := fr z) hx hb hX hbl hbz hI.S (vp_in_nI (n := i + 3) (by omega) (by omega)) dL_law_483 ?_
      rw [nI_clamp (by omega)]
      refine lv_aload_n hx hb dL_law_484 rfl (lv_at hl 3 rfl) ?_
      refine k_Ni (vx_runSW (As := [.ref (ad 0), .int (xs (i + 1)), .int (bI false), .int (xs (i + 3)), .ref (ad 99)]) (rest := []) ⟨hx, hb, hml, hown, hts⟩ (c_L_draft_a l hst G z ad M (qa := qa) (qs := qs) (fw := fw) (x0 := xs (i + 1)) (x1 := xs (i + 3)) (b := false) f_0 hc_1) (vx_cwSW 5 hts (gSW (lwg_of t_596 rfl) (lwg_of t_597 rfl) (lwg_of t_0 rfl) (lwg_of t_598 rfl)) rfl rfl rfl (by decide +kernel) ⟨Nat.le_of_ble_eq_true rfl, Nat.le_of_ble_eq_true rfl⟩) hI.preS rfl rfl hl.1 rfl (lv_room (Nat.le_of_ble_eq_true rfl)) dL_law_485 ⟨(show _ ≤ (601024 : Nat) from by omega), (show _ ≤ (7293034 : Nat) from by omega)⟩) hI (fun r_4 M_6 H_7 locs_8 hp_5 hI => ?_)
      obtain ⟨hr_9, hF_10⟩ := hp_5
      have hm_11 : M_6 0 = some (cStore ad qa qs fw) := by rw [hF_10 0 ]; exact f_0
      have hm_12 : M_6 1 = some (cTape ad len) := by rw [hF_10 1 ]; exact f_1
      have hm_13 : M_6 2 = some (aI G 400 (nF tb)) := by rw [hF_10 2 ]; exact f_2
      have hm_14 : M_6 3 = some (cLaws ad ) := by rw [hF_10 3 ]; exact f_3
      have hm_15 : M_6 4 = some (aI G 36 (nF le)) := by rw [hF_10 4 ]; exact f_4
      have hm_16 : M_6 5 = some (aI G 36 (nF mo)) := by rw [hF_10 5 ]; exact f_5
      have hm_17 : M_6 6 = some (aI G 36 (nF al)) := by rw [hF_10 6 ]; exact f_6
      have hm_18 : M_6 7 = some (aZ G 6 (bF ho)) := by rw [hF_10 7 ]; exact f_7
      have hm_19 : M_6 8 = some (cOnes ad jn) := by rw [hF_10 8 ]; exact f_8
      have hm_20 : M_6 9 = some (aI G 40 (nF hg)) := by rw [hF_10 9 ]; exact f_9
      have hm_21 : M_6 10 = some (aI G 40 (nF lst)) := by rw [hF_10 10 ]; exact f_10
      have hm_22 : M_6 11 = some (aI G 40 (nF jd)) := by rw [hF_10 11 ]; exact f_11
      have hm_23 : M_6 12 = some (cEnds ad 12 s0) := by rw [hF_10 12 ]; exact f_12
      have hm_24 : M_6 13 = some (aI G 6 (nF r0)) := by rw [hF_10 13 ]; exact f_13
      have hm_25 : M_6 14 = some (aI G 6 (oF th)) := by rw [hF_10 14 ]; exact f_14
      have hm_26 : M_6 15 = some (aI G 6 (oF ol)) := by rw [hF_10 15 ]; exact f_15
      have hm_27 : M_6 19 = some (aZ G 120 (bF mm9)) := by rw [hF_10 19 ]; exact f_19
      have hm_28 : M_6 20 = some (aI G 120 ff) := by rw [hF_10 20 ]; exact f_20
      have hm_29 : M_6 21 = some (aI G 120 lq) := by rw [hF_10 21 ]; exact f_21
      have hm_30 : M_6 22 = some (cReader ad ra rb rt rv) := by rw [hF_10 22 ]; exact f_22
      have hm_31 : M_6 23 = some (cMatcher ad qm pz) := by rw [hF_10 23 ]; exact f_23
      have hm_32 : M_6 24 = some (aJ G 2160 sx) := by rw [hF_10 24 ]; exact f_24
      have hm_33 : M_6 25 = some (aI G 6 (nF ft)) := by rw [hF_10 25 ]; exact f_25
      have hm_34 : M_6 26 = some (aJ G 240 rx) := by rw [hF_10 26 ]; exact f_26
      have hm_35 : M_6 27 = some (aJ G 3 dm) := by rw [hF_10 27 ]; exact f_27
      have hm_36 : M_6 28 = some (aI G 3 rc) := by rw [hF_10 28 ]; exact f_28
      have hm_37 : M_6 qa = some (cQuestion ad qa ao vr) := by rw [hF_10 qa ]; exact f_qa
      have hm_38 : M_6 (qa + 1) = some (aI G 6 (nF kn)) := by rw [hF_10 (qa + 1) ]; exact f_qa_1
      have hm_39 : M_6 (qa + 2) = some (aZ G 6 (bF nq)) := by rw [hF_10 (qa + 2) ]; exact f_qa_2
      have hm_40 : M_6 (qa + 3) = some (aI G 6 (nF pn)) := by rw [hF_10 (qa + 3) ]; exact f_qa_3
      have hm_41 : M_6 (qa + 4) = some (aI G 6 (nF av)) := by rw [hF_10 (qa + 4) ]; exact f_qa_4
      have hm_42 : M_6 (qa + 5) = some (aI G 24 (nF ro)) := by rw [hF_10 (qa + 5) ]; exact f_qa_5
      have hm_43 : M_6 (qa + 6) = some (aI G 24 (nF te)) := by rw [hF_10 (qa + 6) ]; exact f_qa_6
      have hm_44 : M_6 qs = some (cQuestion ad qs sq su) := by rw [hF_10 qs ]; exact f_qs
      have hm_45 : M_6 (qs + 1) = some (aI G 6 (nF kb)) := by rw [hF_10 (qs + 1) ]; exact f_qs_1
      have hm_46 : M_6 (qs + 2) = some (aZ G 6 (bF nb)) := by rw [hF_10 (qs + 2) ]; exact f_qs_2
      have hm_47 : M_6 (qs + 3) = some (aI G 6 (nF pb)) := by rw [hF_10 (qs + 3) ]; exact f_qs_3
      have hm_48 : M_6 (qs + 4) = some (aI G 6 (nF ab)) := by rw [hF_10 (qs + 4) ]; exact f_qs_4
      have hm_49 : M_6 (qs + 5) = some (aI G 24 (nF rbb)) := by rw [hF_10 (qs + 5) ]; exact f_qs_5
      have hm_50 : M_6 (qs + 6) = some (aI G 24 (nF tbb)) := by rw [hF_10 (qs + 6) ]; exact f_qs_6
      have hm_51 : M_6 60 = some (cModel ad tw n jn ao vr sn len pt zs bg fw) := by rw [hF_10 60 ]; exact f_60
      have hm_52 : M_6 61 = some (aI G 36 (nF le)) := by rw [hF_10 61 ]; exact f_61
      have hm_53 : M_6 62 = some (aI G 36 (nF mo)) := by rw [hF_10 62 ]; exact f_62
      have hm_54 : M_6 63 = some (aI G 36 (nF al)) := by rw [hF_10 63 ]; exact f_63
      have hm_55 : M_6 64 = some (aZ G 6 (bF ho)) := by rw [hF_10 64 ]; exact f_64
      have hm_56 : M_6 65 = some (aI G 120 (nF mk)) := by rw [hF_10 65 ]; exact f_65
      have hm_57 : M_6 66 = some (aI G 120 mf) := by rw [hF_10 66 ]; exact f_66
      have hm_58 : M_6 67 = some (aI G 120 mu) := by rw [hF_10 67 ]; exact f_67
      have hm_59 : M_6 68 = some (aI G 121 (nF mz)) := by rw [hF_10 68 ]; exact f_68
      have hm_60 : M_6 69 = some (aI G 726 (nF rr)) := by rw [hF_10 69 ]; exact f_69
      have hm_61 : M_6 70 = some (aI G 726 (nF ee)) := by rw [hF_10 70 ]; exact f_70
      have hm_62 : M_6 71 = some (aI G 40 (nF lst)) := by rw [hF_10 71 ]; exact f_71
      have hm_63 : M_6 72 = some (aI G 40 (nF oa)) := by rw [hF_10 72 ]; exact f_72
      have hm_64 : M_6 73 = some (aI G 40 (nF ob)) := by rw [hF_10 73 ]; exact f_73
      have hm_65 : M_6 74 = some (aI G 120 s74) := by rw [hF_10 74 ]; exact f_74
      have hm_66 : M_6 75 = some (aI G 12 ak) := by rw [hF_10 75 ]; exact f_75
      have hm_67 : M_6 76 = some (aZ G 12 (bF nm)) := by rw [hF_10 76 ]; exact f_76
      have hm_68 : M_6 77 = some (aI G 12 (nF ap)) := by rw [hF_10 77 ]; exact f_77
      have hm_69 : M_6 78 = some (aI G 48 pr) := by rw [hF_10 78 ]; exact f_78
      have hm_70 : M_6 79 = some (aI G 48 pf) := by rw [hF_10 79 ]; exact f_79
      have hm_71 : M_6 80 = some (aB G 400 tf) := by rw [hF_10 80 ]; exact f_80
      have hm_72 : M_6 81 = some (aI G 5 fv) := by rw [hF_10 81 ]; exact f_81
      have hm_73 : M_6 82 = some (aZ G 384000 (bF tr)) := by rw [hF_10 82 ]; exact f_82
      have hm_74 : M_6 83 = some (aI G 3 (oF gv)) := by rw [hF_10 83 ]; exact f_83
      have hm_75 : M_6 84 = some (aI G 3 fo) := by rw [hF_10 84 ]; exact f_84
      have hm_76 : M_6 85 = some (aZ G 40 (bF re)) := by rw [hF_10 85 ]; exact f_85
      have hm_77 : M_6 86 = some (aZ G 120 (bF us)) := by rw [hF_10 86 ]; exact f_86
      have hm_78 : M_6 87 = some (aZ G 120 (bF nx)) := by rw [hF_10 87 ]; exact f_87
      have hm_79 : M_6 99 = some (aJ G 1 of) := by rw [hF_10 99 ]; exact f_99
      have hm_80 : M_6 16 = some (cLines ad ) := by rw [hF_10 16 ]; exact h16
      have hL_81 : LSm G ad M_6 n kd fm to sz rl en := fL.keep (fun j hj => hF_10 j )
      rw [hr_9]
      refine lv_istore (lv' := [(5, .int (nI 1)), (0, .ref b), (1, .ref (ad 0)), (2, .ref (ad 60)), (3, .ref (ad 99)), (4, .int (nI i))]) hx hb dL_law_488 hl (by decide) rfl (fun ls hl => ?_)
      refine lv_aload_n hx hb dL_law_490 rfl (lv_at hl 3 rfl) ?_
      refine lv_aload_n hx hb dL_law_491 rfl (lv_at hl 1 rfl) ?_
      refine lv_iload hx hb dL_law_492 (lv_at hl 5 rfl) ?_
      refine lv_iconst (v := nI 1) hx hb dL_law_494 (by decide) ?_
      refine lv_iadd hx hb dL_law_495 ?_
      refine n_eq (nI_add i 1) ?_
      refine va_sld (A := fr z) hx hb hX hbl hbz hI.S (vp_in_nI (n := i + 1) (by omega) (by omega)) dL_law_496 ?_
      rw [nI_clamp (by omega)]
      refine lv_aload_n hx hb dL_law_497 rfl (lv_at hl 1 rfl) ?_
      refine lv_iload hx hb dL_law_498 (lv_at hl 5 rfl) ?_
      refine lv_iconst (v := nI 2) hx hb dL_law_500 (by decide) ?_
      refine lv_iadd hx hb dL_law_501 ?_
      refine n_eq (nI_add i 2) ?_
      refine va_sld (A := fr z) hx hb hX hbl hbz hI.S (vp_in_nI (n := i + 2) (by omega) (by omega)) dL_law_502 ?_
      rw [nI_clamp (by omega)]
      refine lv_if_eq (tgt := 510) hx hb dL_law_503 (by decide) (fun c_82 => ?_) (fun c_82 => ?_)
      · -- 503: xs (i + 2) eq
        refine lv_iconst (v := nI 0) hx hb dL_law_510 (by decide) ?_
        refine n_eq (show _ = bI false from rfl) ?_
        refine lv_aload_n hx hb dL_law_511 rfl (lv_at hl 1 rfl) ?_
        refine lv_iload hx hb dL_law_512 (lv_at hl 5 rfl) ?_
        refine lv_iconst (v := nI 3) hx hb dL_law_514 (by decide) ?_
        refine lv_iadd hx hb dL_law_515 ?_
        refine n_eq (nI_add i 3) ?_
        refine va_sld (A := fr z) hx hb hX hbl hbz hI.S (vp_in_nI (n := i + 3) (by omega) (by omega)) dL_law_516 ?_
        rw [nI_clamp (by omega)]
        refine k_Ni (va_runV (As := [.int (xs (i + 1)), .int (bI false), .int (xs (i + 3))]) (rest := []) ⟨hx, hb, hml, hown, hts⟩ (c_X10_draft_a l G z ad M_6 (th := tw) (ln := n) (on := jn) (ao := ao) (vr := vr) (sn := sn) (tp := len) (pt := pt) (zs := zs) (bg := bg) (fa := fw) (x0 := xs (i + 1)) (x1 := xs (i + 3)) (b := false) hm_51 hc_1) (cwV 3 hts (gV (lwg_of t_1153 rfl) (lwg_of t_1154 rfl) (lwg_of t_1155 rfl) (lwg_of t_13 rfl) (lwg_of t_1156 rfl)) rfl rfl rfl (by decide +kernel) ⟨Nat.le_of_ble_eq_true rfl, Nat.le_of_ble_eq_true rfl⟩) (hI.preV hm_51 rfl) rfl rfl hl.1 rfl (lv_room (Nat.le_of_ble_eq_true rfl)) dL_law_517 ⟨(show _ ≤ (601024 : Nat) from by omega), (show _ ≤ (7293034 : Nat) from by omega)⟩) hI (fun r_83 M_85 H_86 locs_87 hp_84 hI => ?_)
        obtain ⟨hr_88, hm_89, hF_90⟩ := hp_84
        have hm_91 : M_85 0 = some (cStore ad qa qs fw) := by rw [hF_90 0 (by omega)]; exact hm_11
        have hm_92 : M_85 1 = some (cTape ad len) := by rw [hF_90 1 (by omega)]; exact hm_12
        have hm_93 : M_85 2 = some (aI G 400 (nF tb)) := by rw [hF_90 2 (by omega)]; exact hm_13
        have hm_94 : M_85 3 = some (cLaws ad ) := by rw [hF_90 3 (by omega)]; exact hm_14
        have hm_95 : M_85 4 = some (aI G 36 (nF le)) := by rw [hF_90 4 (by omega)]; exact hm_15
        have hm_96 : M_85 5 = some (aI G 36 (nF mo)) := by rw [hF_90 5 (by omega)]; exact hm_16
        have hm_97 : M_85 6 = some (aI G 36 (nF al)) := by rw [hF_90 6 (by omega)]; exact hm_17
        have hm_98 : M_85 7 = some (aZ G 6 (bF ho)) := by rw [hF_90 7 (by omega)]; exact hm_18
        have hm_99 : M_85 8 = some (cOnes ad jn) := by rw [hF_90 8 (by omega)]; exact hm_19
        have hm_100 : M_85 9 = some (aI G 40 (nF hg)) := by rw [hF_90 9 (by omega)]; exact hm_20
        have hm_101 : M_85 10 = some (aI G 40 (nF lst)) := by rw [hF_90 10 (by omega)]; exact hm_21
        have hm_102 : M_85 11 = some (aI G 40 (nF jd)) := by rw [hF_90 11 (by omega)]; exact hm_22
        have hm_103 : M_85 12 = some (cEnds ad 12 s0) := by rw [hF_90 12 (by omega)]; exact hm_23
        have hm_104 : M_85 13 = some (aI G 6 (nF r0)) := by rw [hF_90 13 (by omega)]; exact hm_24
        have hm_105 : M_85 14 = some (aI G 6 (oF th)) := by rw [hF_90 14 (by omega)]; exact hm_25
        have hm_106 : M_85 15 = some (aI G 6 (oF ol)) := by rw [hF_90 15 (by omega)]; exact hm_26
        have hm_107 : M_85 19 = some (aZ G 120 (bF mm9)) := by rw [hF_90 19 (by omega)]; exact hm_27
        have hm_108 : M_85 20 = some (aI G 120 ff) := by rw [hF_90 20 (by omega)]; exact hm_28
        have hm_109 : M_85 21 = some (aI G 120 lq) := by rw [hF_90 21 (by omega)]; exact hm_29
        have hm_110 : M_85 22 = some (cReader ad ra rb rt rv) := by rw [hF_90 22 (by omega)]; exact hm_30
        have hm_111 : M_85 23 = some (cMatcher ad qm pz) := by rw [hF_90 23 (by omega)]; exact hm_31
        have hm_112 : M_85 24 = some (aJ G 2160 sx) := by rw [hF_90 24 (by omega)]; exact hm_32
        have hm_113 : M_85 25 = some (aI G 6 (nF ft)) := by rw [hF_90 25 (by omega)]; exact hm_33
        have hm_114 : M_85 26 = some (aJ G 240 rx) := by rw [hF_90 26 (by omega)]; exact hm_34
        have hm_115 : M_85 27 = some (aJ G 3 dm) := by rw [hF_90 27 (by omega)]; exact hm_35
        have hm_116 : M_85 28 = some (aI G 3 rc) := by rw [hF_90 28 (by omega)]; exact hm_36
        have hm_117 : M_85 qa = some (cQuestion ad qa ao vr) := by rw [hF_90 qa (by omega)]; exact hm_37
        have hm_118 : M_85 (qa + 1) = some (aI G 6 (nF kn)) := by rw [hF_90 (qa + 1) (by omega)]; exact hm_38
        have hm_119 : M_85 (qa + 2) = some (aZ G 6 (bF nq)) := by rw [hF_90 (qa + 2) (by omega)]; exact hm_39
        have hm_120 : M_85 (qa + 3) = some (aI G 6 (nF pn)) := by rw [hF_90 (qa + 3) (by omega)]; exact hm_40
        have hm_121 : M_85 (qa + 4) = some (aI G 6 (nF av)) := by rw [hF_90 (qa + 4) (by omega)]; exact hm_41
        have hm_122 : M_85 (qa + 5) = some (aI G 24 (nF ro)) := by rw [hF_90 (qa + 5) (by omega)]; exact hm_42
        have hm_123 : M_85 (qa + 6) = some (aI G 24 (nF te)) := by rw [hF_90 (qa + 6) (by omega)]; exact hm_43
        have hm_124 : M_85 qs = some (cQuestion ad qs sq su) := by rw [hF_90 qs (by omega)]; exact hm_44
        have hm_125 : M_85 (qs + 1) = some (aI G 6 (nF kb)) := by rw [hF_90 (qs + 1) (by omega)]; exact hm_45
        have hm_126 : M_85 (qs + 2) = some (aZ G 6 (bF nb)) := by rw [hF_90 (qs + 2) (by omega)]; exact hm_46
        have hm_127 : M_85 (qs + 3) = some (aI G 6 (nF pb)) := by rw [hF_90 (qs + 3) (by omega)]; exact hm_47
        have hm_128 : M_85 (qs + 4) = some (aI G 6 (nF ab)) := by rw [hF_90 (qs + 4) (by omega)]; exact hm_48
        have hm_129 : M_85 (qs + 5) = some (aI G 24 (nF rbb)) := by rw [hF_90 (qs + 5) (by omega)]; exact hm_49
        have hm_130 : M_85 (qs + 6) = some (aI G 24 (nF tbb)) := by rw [hF_90 (qs + 6) (by omega)]; exact hm_50
        have hm_131 : M_85 61 = some (aI G 36 (nF le)) := by rw [hF_90 61 (by omega)]; exact hm_52
        have hm_132 : M_85 62 = some (aI G 36 (nF mo)) := by rw [hF_90 62 (by omega)]; exact hm_53
        have hm_133 : M_85 63 = some (aI G 36 (nF al)) := by rw [hF_90 63 (by omega)]; exact hm_54
        have hm_134 : M_85 64 = some (aZ G 6 (bF ho)) := by rw [hF_90 64 (by omega)]; exact hm_55
        have hm_135 : M_85 65 = some (aI G 120 (nF mk)) := by rw [hF_90 65 (by omega)]; exact hm_56
        have hm_136 : M_85 66 = some (aI G 120 mf) := by rw [hF_90 66 (by omega)]; exact hm_57
        have hm_137 : M_85 67 = some (aI G 120 mu) := by rw [hF_90 67 (by omega)]; exact hm_58
        have hm_138 : M_85 68 = some (aI G 121 (nF mz)) := by rw [hF_90 68 (by omega)]; exact hm_59
        have hm_139 : M_85 69 = some (aI G 726 (nF rr)) := by rw [hF_90 69 (by omega)]; exact hm_60
        have hm_140 : M_85 70 = some (aI G 726 (nF ee)) := by rw [hF_90 70 (by omega)]; exact hm_61
        have hm_141 : M_85 71 = some (aI G 40 (nF lst)) := by rw [hF_90 71 (by omega)]; exact hm_62
        have hm_142 : M_85 72 = some (aI G 40 (nF oa)) := by rw [hF_90 72 (by omega)]; exact hm_63
        have hm_143 : M_85 73 = some (aI G 40 (nF ob)) := by rw [hF_90 73 (by omega)]; exact hm_64
        have hm_144 : M_85 74 = some (aI G 120 s74) := by rw [hF_90 74 (by omega)]; exact hm_65
        have hm_145 : M_85 75 = some (aI G 12 ak) := by rw [hF_90 75 (by omega)]; exact hm_66
        have hm_146 : M_85 76 = some (aZ G 12 (bF nm)) := by rw [hF_90 76 (by omega)]; exact hm_67
        have hm_147 : M_85 77 = some (aI G 12 (nF ap)) := by rw [hF_90 77 (by omega)]; exact hm_68
        have hm_148 : M_85 78 = some (aI G 48 pr) := by rw [hF_90 78 (by omega)]; exact hm_69
        have hm_149 : M_85 79 = some (aI G 48 pf) := by rw [hF_90 79 (by omega)]; exact hm_70
        have hm_150 : M_85 80 = some (aB G 400 tf) := by rw [hF_90 80 (by omega)]; exact hm_71
        have hm_151 : M_85 81 = some (aI G 5 fv) := by rw [hF_90 81 (by omega)]; exact hm_72
        have hm_152 : M_85 82 = some (aZ G 384000 (bF tr)) := by rw [hF_90 82 (by omega)]; exact hm_73
        have hm_153 : M_85 83 = some (aI G 3 (oF gv)) := by rw [hF_90 83 (by omega)]; exact hm_74
        have hm_154 : M_85 84 = some (aI G 3 fo) := by rw [hF_90 84 (by omega)]; exact hm_75
        have hm_155 : M_85 85 = some (aZ G 40 (bF re)) := by rw [hF_90 85 (by omega)]; exact hm_76
        have hm_156 : M_85 86 = some (aZ G 120 (bF us)) := by rw [hF_90 86 (by omega)]; exact hm_77
        have hm_157 : M_85 87 = some (aZ G 120 (bF nx)) := by rw [hF_90 87 (by omega)]; exact hm_78
        have hm_158 : M_85 99 = some (aJ G 1 of) := by rw [hF_90 99 (by omega)]; exact hm_79
        have hm_159 : M_85 16 = some (cLines ad ) := by rw [hF_90 16 (by omega)]; exact hm_80
        have hL_160 : LSm G ad M_85 n kd fm to sz rl en := hL_81.keep (fun j hj => hF_90 j (by omega))
        have hF_161 : ∀ j : Nat, j ≠ 60 → M_85 j = M j := fun j q0 => (hF_90 j q0).trans (hF_10 j )
        rw [hr_88]
        refine lv_istore (lv' := [(6, .int (nI 0)), (5, .int (nI 1)), (0, .ref b), (1, .ref (ad 0)), (2, .ref (ad 60)), (3, .ref (ad 99)), (4, .int (nI i))]) hx hb dL_law_520 hl (by decide) rfl (fun ls hl => ?_)
        refine lv_aload_n hx hb dL_law_522 rfl (lv_at hl 4 rfl) ?_
        refine k_Ri (va_runV (As := []) (rest := []) ⟨hx, hb, hml, hown, hts⟩ (c_X10_thrown l G z ad M_85 (th := 1) (ln := n) (on := jn) (ao := ao) (vr := vr) (sn := sn) (tp := len) (pt := pt) (zs := zs) (bg := bg) (fa := fw) hm_89) (cwV 0 hts (gV (lwg_of t_997 rfl) (lwg_of t_998 rfl) (lwg_of t_999 rfl) (lwg_of t_13 rfl) (lwg_of t_1000 rfl)) rfl rfl rfl (by decide +kernel) ⟨Nat.le_of_ble_eq_true rfl, Nat.le_of_ble_eq_true rfl⟩) (hI.preV hm_89 rfl) rfl rfl hl.1 rfl (lv_room (Nat.le_of_ble_eq_true rfl)) dL_law_523 ⟨(show _ ≤ (601024 : Nat) from by omega), (show _ ≤ (7293034 : Nat) from by omega)⟩) (fun _ h => h) (fun r_162 hp_163 => ?_)
        rw [hp_163]
        refine lv_iload hx hb dL_law_526 (lv_at hl 1 rfl) ?_
        refine lv_icmp_eq (tgt := 533) hx hb dL_law_528 (by decide) (fun c_164 => ?_) (fun c_164 => ?_)
        · -- 528: nI 1 eq
          refine lv_iload hx hb dL_law_533 (lv_at hl 1 rfl) ?_
          refine lv_if_ne (tgt := 550) hx hb dL_law_535 (by decide) (fun c_165 => ?_) (fun c_165 => ?_)
          · -- 535: nI 1 ne
            refine lv_goto (tgt := 1333) hx hb dL_law_550 (by decide) ?_
            refine W.widen (k := cz + 10) (n := sy + 300) (by omega) (by omega) ?_
            exact kk ad M_85 H_86 locs_87 ls n kd fm to sz rl en qa qs fw len tb le mo al ho jn hg lst jd s0 r0 th ol e0 mm9 ff lq ra rb rt rv qm pz sx ft rx dm rc ao vr kn nq pn av ro te sq su kb nb pb ab rbb tbb 1 sn pt zs bg mk mf mu mz rr ee oa ob s74 ak nm ap pr pf tf fv tr gv fo re us nx of hL_160 w1 w2 w3 w4 w5 w6 w7 w8 w9 w10 w11 w12 w13 w14 w15 w16 w17 w18 w19 w20 w21 w22 w23 w24 w25 w26 w27 w28 w29 (fun h9 => by rw [hF_161 17 (by omega), hF_161 18 (by omega)]; exact w30 h9) (by rw [hF_161 29 (by omega)]; exact w31) (fun j9 h9 => by rw [hF_161 j9 (by omega)]; exact w32 j9 h9) hm_91 hm_92 hm_93 hm_94 hm_95 hm_96 hm_97 hm_98 hm_99 hm_100 hm_101 hm_102 hm_103 hm_104 hm_105 hm_106 hm_107 hm_108 hm_109 hm_110 hm_111 hm_112 hm_113 hm_114 hm_115 hm_116 hm_117 hm_118 hm_119 hm_120 hm_121 hm_122 hm_123 hm_124 hm_125 hm_126 hm_127 hm_128 hm_129 hm_130 hm_89 hm_131 hm_132 hm_133 hm_134 hm_135 hm_136 hm_137 hm_138 hm_139 hm_140 hm_141 hm_142 hm_143 hm_144 hm_145 hm_146 hm_147 hm_148 hm_149 hm_150 hm_151 hm_152 hm_153 hm_154 hm_155 hm_156 hm_157 hm_158 hI (lv_sub hl [2, 3, 4, 5, 6] rfl)
          · -- 535: nI 1 eq
            exact absurd c_165 (by decide)
        · -- 528: nI 1 ne
          exact absurd (by decide) c_164
      · -- 503: xs (i + 2) ne
        exact absurd (by assumption) c_82
    · -- 470: xs (i + 2) ne
      refine lv_iconst (v := nI 1) hx hb dL_law_473 (by decide) ?_
      refine n_eq (show _ = bI true from rfl) ?_
      refine lv_goto (tgt := 478) hx hb dL_law_474 (by decide) ?_
      refine lv_aload_n hx hb dL_law_478 rfl (lv_at hl 0 rfl) ?_
      refine lv_iload hx hb dL_law_479 (lv_at hl 4 rfl) ?_
      refine lv_iconst (v := nI 3) hx hb dL_law_481 (by decide) ?_
      refine lv_iadd hx hb dL_law_482 ?_
      refine n_eq (nI_add i 3) ?_
      refine va_sld (A := fr z) hx hb hX hbl hbz hI.S (vp_in_nI (n := i + 3) (by omega) (by omega)) dL_law_483 ?_
      rw [nI_clamp (by omega)]
      refine lv_aload_n hx hb dL_law_484 rfl (lv_at hl 3 rfl) ?_
      refine k_Ni (vx_runSW (As := [.ref (ad 0), .int (xs (i + 1)), .int (bI true), .int (xs (i + 3)), .ref (ad 99)]) (rest := []) ⟨hx, hb, hml, hown, hts⟩ (c_L_draft_a l hst G z ad M (qa := qa) (qs := qs) (fw := fw) (x0 := xs (i + 1)) (x1 := xs (i + 3)) (b := true) f_0 hc_1) (vx_cwSW 5 hts (gSW (lwg_of t_596 rfl) (lwg_of t_597 rfl) (lwg_of t_0 rfl) (lwg_of t_598 rfl)) rfl rfl rfl (by decide +kernel) ⟨Nat.le_of_ble_eq_true rfl, Nat.le_of_ble_eq_true rfl⟩) hI.preS rfl rfl hl.1 rfl (lv_room (Nat.le_of_ble_eq_true rfl)) dL_law_485 ⟨(show _ ≤ (601024 : Nat) from by omega), (show _ ≤ (7293034 : Nat) from by omega)⟩) hI (fun r_166 M_168 H_169 locs_170 hp_167 hI => ?_)
      obtain ⟨hr_171, hF_172⟩ := hp_167
      have hm_173 : M_168 0 = some (cStore ad qa qs fw) := by rw [hF_172 0 ]; exact f_0
      have hm_174 : M_168 1 = some (cTape ad len) := by rw [hF_172 1 ]; exact f_1
      have hm_175 : M_168 2 = some (aI G 400 (nF tb)) := by rw [hF_172 2 ]; exact f_2
      have hm_176 : M_168 3 = some (cLaws ad ) := by rw [hF_172 3 ]; exact f_3
      have hm_177 : M_168 4 = some (aI G 36 (nF le)) := by rw [hF_172 4 ]; exact f_4
      have hm_178 : M_168 5 = some (aI G 36 (nF mo)) := by rw [hF_172 5 ]; exact f_5
      have hm_179 : M_168 6 = some (aI G 36 (nF al)) := by rw [hF_172 6 ]; exact f_6
      have hm_180 : M_168 7 = some (aZ G 6 (bF ho)) := by rw [hF_172 7 ]; exact f_7
      have hm_181 : M_168 8 = some (cOnes ad jn) := by rw [hF_172 8 ]; exact f_8
      have hm_182 : M_168 9 = some (aI G 40 (nF hg)) := by rw [hF_172 9 ]; exact f_9
      have hm_183 : M_168 10 = some (aI G 40 (nF lst)) := by rw [hF_172 10 ]; exact f_10
      have hm_184 : M_168 11 = some (aI G 40 (nF jd)) := by rw [hF_172 11 ]; exact f_11
      have hm_185 : M_168 12 = some (cEnds ad 12 s0) := by rw [hF_172 12 ]; exact f_12
      have hm_186 : M_168 13 = some (aI G 6 (nF r0)) := by rw [hF_172 13 ]; exact f_13
      have hm_187 : M_168 14 = some (aI G 6 (oF th)) := by rw [hF_172 14 ]; exact f_14
      have hm_188 : M_168 15 = some (aI G 6 (oF ol)) := by rw [hF_172 15 ]; exact f_15
      have hm_189 : M_168 19 = some (aZ G 120 (bF mm9)) := by rw [hF_172 19 ]; exact f_19
      have hm_190 : M_168 20 = some (aI G 120 ff) := by rw [hF_172 20 ]; exact f_20
      have hm_191 : M_168 21 = some (aI G 120 lq) := by rw [hF_172 21 ]; exact f_21
      have hm_192 : M_168 22 = some (cReader ad ra rb rt rv) := by rw [hF_172 22 ]; exact f_22
      have hm_193 : M_168 23 = some (cMatcher ad qm pz) := by rw [hF_172 23 ]; exact f_23
      have hm_194 : M_168 24 = some (aJ G 2160 sx) := by rw [hF_172 24 ]; exact f_24
      have hm_195 : M_168 25 = some (aI G 6 (nF ft)) := by rw [hF_172 25 ]; exact f_25
      have hm_196 : M_168 26 = some (aJ G 240 rx) := by rw [hF_172 26 ]; exact f_26
      have hm_197 : M_168 27 = some (aJ G 3 dm) := by rw [hF_172 27 ]; exact f_27
      have hm_198 : M_168 28 = some (aI G 3 rc) := by rw [hF_172 28 ]; exact f_28
      have hm_199 : M_168 qa = some (cQuestion ad qa ao vr) := by rw [hF_172 qa ]; exact f_qa
      have hm_200 : M_168 (qa + 1) = some (aI G 6 (nF kn)) := by rw [hF_172 (qa + 1) ]; exact f_qa_1
      have hm_201 : M_168 (qa + 2) = some (aZ G 6 (bF nq)) := by rw [hF_172 (qa + 2) ]; exact f_qa_2
      have hm_202 : M_168 (qa + 3) = some (aI G 6 (nF pn)) := by rw [hF_172 (qa + 3) ]; exact f_qa_3
      have hm_203 : M_168 (qa + 4) = some (aI G 6 (nF av)) := by rw [hF_172 (qa + 4) ]; exact f_qa_4
      have hm_204 : M_168 (qa + 5) = some (aI G 24 (nF ro)) := by rw [hF_172 (qa + 5) ]; exact f_qa_5
      have hm_205 : M_168 (qa + 6) = some (aI G 24 (nF te)) := by rw [hF_172 (qa + 6) ]; exact f_qa_6
      have hm_206 : M_168 qs = some (cQuestion ad qs sq su) := by rw [hF_172 qs ]; exact f_qs
      have hm_207 : M_168 (qs + 1) = some (aI G 6 (nF kb)) := by rw [hF_172 (qs + 1) ]; exact f_qs_1
      have hm_208 : M_168 (qs + 2) = some (aZ G 6 (bF nb)) := by rw [hF_172 (qs + 2) ]; exact f_qs_2
      have hm_209 : M_168 (qs + 3) = some (aI G 6 (nF pb)) := by rw [hF_172 (qs + 3) ]; exact f_qs_3
      have hm_210 : M_168 (qs + 4) = some (aI G 6 (nF ab)) := by rw [hF_172 (qs + 4) ]; exact f_qs_4
      have hm_211 : M_168 (qs + 5) = some (aI G 24 (nF rbb)) := by rw [hF_172 (qs + 5) ]; exact f_qs_5
      have hm_212 : M_168 (qs + 6) = some (aI G 24 (nF tbb)) := by rw [hF_172 (qs + 6) ]; exact f_qs_6
      have hm_213 : M_168 60 = some (cModel ad tw n jn ao vr sn len pt zs bg fw) := by rw [hF_172 60 ]; exact f_60
      have hm_214 : M_168 61 = some (aI G 36 (nF le)) := by rw [hF_172 61 ]; exact f_61
      have hm_215 : M_168 62 = some (aI G 36 (nF mo)) := by rw [hF_172 62 ]; exact f_62
      have hm_216 : M_168 63 = some (aI G 36 (nF al)) := by rw [hF_172 63 ]; exact f_63
      have hm_217 : M_168 64 = some (aZ G 6 (bF ho)) := by rw [hF_172 64 ]; exact f_64
      have hm_218 : M_168 65 = some (aI G 120 (nF mk)) := by rw [hF_172 65 ]; exact f_65
      have hm_219 : M_168 66 = some (aI G 120 mf) := by rw [hF_172 66 ]; exact f_66
      have hm_220 : M_168 67 = some (aI G 120 mu) := by rw [hF_172 67 ]; exact f_67
      have hm_221 : M_168 68 = some (aI G 121 (nF mz)) := by rw [hF_172 68 ]; exact f_68
      have hm_222 : M_168 69 = some (aI G 726 (nF rr)) := by rw [hF_172 69 ]; exact f_69
      have hm_223 : M_168 70 = some (aI G 726 (nF ee)) := by rw [hF_172 70 ]; exact f_70
      have hm_224 : M_168 71 = some (aI G 40 (nF lst)) := by rw [hF_172 71 ]; exact f_71
      have hm_225 : M_168 72 = some (aI G 40 (nF oa)) := by rw [hF_172 72 ]; exact f_72
      have hm_226 : M_168 73 = some (aI G 40 (nF ob)) := by rw [hF_172 73 ]; exact f_73
      have hm_227 : M_168 74 = some (aI G 120 s74) := by rw [hF_172 74 ]; exact f_74
      have hm_228 : M_168 75 = some (aI G 12 ak) := by rw [hF_172 75 ]; exact f_75
      have hm_229 : M_168 76 = some (aZ G 12 (bF nm)) := by rw [hF_172 76 ]; exact f_76
      have hm_230 : M_168 77 = some (aI G 12 (nF ap)) := by rw [hF_172 77 ]; exact f_77
      have hm_231 : M_168 78 = some (aI G 48 pr) := by rw [hF_172 78 ]; exact f_78
      have hm_232 : M_168 79 = some (aI G 48 pf) := by rw [hF_172 79 ]; exact f_79
      have hm_233 : M_168 80 = some (aB G 400 tf) := by rw [hF_172 80 ]; exact f_80
      have hm_234 : M_168 81 = some (aI G 5 fv) := by rw [hF_172 81 ]; exact f_81
      have hm_235 : M_168 82 = some (aZ G 384000 (bF tr)) := by rw [hF_172 82 ]; exact f_82
      have hm_236 : M_168 83 = some (aI G 3 (oF gv)) := by rw [hF_172 83 ]; exact f_83
      have hm_237 : M_168 84 = some (aI G 3 fo) := by rw [hF_172 84 ]; exact f_84
      have hm_238 : M_168 85 = some (aZ G 40 (bF re)) := by rw [hF_172 85 ]; exact f_85
      have hm_239 : M_168 86 = some (aZ G 120 (bF us)) := by rw [hF_172 86 ]; exact f_86
      have hm_240 : M_168 87 = some (aZ G 120 (bF nx)) := by rw [hF_172 87 ]; exact f_87
      have hm_241 : M_168 99 = some (aJ G 1 of) := by rw [hF_172 99 ]; exact f_99
      have hm_242 : M_168 16 = some (cLines ad ) := by rw [hF_172 16 ]; exact h16
      have hL_243 : LSm G ad M_168 n kd fm to sz rl en := fL.keep (fun j hj => hF_172 j )
      rw [hr_171]
      refine lv_istore (lv' := [(5, .int (nI 1)), (0, .ref b), (1, .ref (ad 0)), (2, .ref (ad 60)), (3, .ref (ad 99)), (4, .int (nI i))]) hx hb dL_law_488 hl (by decide) rfl (fun ls hl => ?_)
      refine lv_aload_n hx hb dL_law_490 rfl (lv_at hl 3 rfl) ?_
      refine lv_aload_n hx hb dL_law_491 rfl (lv_at hl 1 rfl) ?_
      refine lv_iload hx hb dL_law_492 (lv_at hl 5 rfl) ?_
      refine lv_iconst (v := nI 1) hx hb dL_law_494 (by decide) ?_
      refine lv_iadd hx hb dL_law_495 ?_
      refine n_eq (nI_add i 1) ?_
      refine va_sld (A := fr z) hx hb hX hbl hbz hI.S (vp_in_nI (n := i + 1) (by omega) (by omega)) dL_law_496 ?_
      rw [nI_clamp (by omega)]
      refine lv_aload_n hx hb dL_law_497 rfl (lv_at hl 1 rfl) ?_
      refine lv_iload hx hb dL_law_498 (lv_at hl 5 rfl) ?_
      refine lv_iconst (v := nI 2) hx hb dL_law_500 (by decide) ?_
      refine lv_iadd hx hb dL_law_501 ?_
      refine n_eq (nI_add i 2) ?_
      refine va_sld (A := fr z) hx hb hX hbl hbz hI.S (vp_in_nI (n := i + 2) (by omega) (by omega)) dL_law_502 ?_
      rw [nI_clamp (by omega)]
      refine lv_if_eq (tgt := 510) hx hb dL_law_503 (by decide) (fun c_244 => ?_) (fun c_244 => ?_)
      · -- 503: xs (i + 2) eq
        exact absurd c_244 (by assumption)
      · -- 503: xs (i + 2) ne
        refine lv_iconst (v := nI 1) hx hb dL_law_506 (by decide) ?_
        refine n_eq (show _ = bI true from rfl) ?_
        refine lv_goto (tgt := 511) hx hb dL_law_507 (by decide) ?_
        refine lv_aload_n hx hb dL_law_511 rfl (lv_at hl 1 rfl) ?_
        refine lv_iload hx hb dL_law_512 (lv_at hl 5 rfl) ?_
        refine lv_iconst (v := nI 3) hx hb dL_law_514 (by decide) ?_
        refine lv_iadd hx hb dL_law_515 ?_
        refine n_eq (nI_add i 3) ?_
        refine va_sld (A := fr z) hx hb hX hbl hbz hI.S (vp_in_nI (n := i + 3) (by omega) (by omega)) dL_law_516 ?_
        rw [nI_clamp (by omega)]
        refine k_Ni (va_runV (As := [.int (xs (i + 1)), .int (bI true), .int (xs (i + 3))]) (rest := []) ⟨hx, hb, hml, hown, hts⟩ (c_X10_draft_a l G z ad M_168 (th := tw) (ln := n) (on := jn) (ao := ao) (vr := vr) (sn := sn) (tp := len) (pt := pt) (zs := zs) (bg := bg) (fa := fw) (x0 := xs (i + 1)) (x1 := xs (i + 3)) (b := true) hm_213 hc_1) (cwV 3 hts (gV (lwg_of t_1153 rfl) (lwg_of t_1154 rfl) (lwg_of t_1155 rfl) (lwg_of t_13 rfl) (lwg_of t_1156 rfl)) rfl rfl rfl (by decide +kernel) ⟨Nat.le_of_ble_eq_true rfl, Nat.le_of_ble_eq_true rfl⟩) (hI.preV hm_213 rfl) rfl rfl hl.1 rfl (lv_room (Nat.le_of_ble_eq_true rfl)) dL_law_517 ⟨(show _ ≤ (601024 : Nat) from by omega), (show _ ≤ (7293034 : Nat) from by omega)⟩) hI (fun r_245 M_247 H_248 locs_249 hp_246 hI => ?_)
        obtain ⟨hr_250, hm_251, hF_252⟩ := hp_246
        have hm_253 : M_247 0 = some (cStore ad qa qs fw) := by rw [hF_252 0 (by omega)]; exact hm_173
        have hm_254 : M_247 1 = some (cTape ad len) := by rw [hF_252 1 (by omega)]; exact hm_174
        have hm_255 : M_247 2 = some (aI G 400 (nF tb)) := by rw [hF_252 2 (by omega)]; exact hm_175
        have hm_256 : M_247 3 = some (cLaws ad ) := by rw [hF_252 3 (by omega)]; exact hm_176
        have hm_257 : M_247 4 = some (aI G 36 (nF le)) := by rw [hF_252 4 (by omega)]; exact hm_177
        have hm_258 : M_247 5 = some (aI G 36 (nF mo)) := by rw [hF_252 5 (by omega)]; exact hm_178
        have hm_259 : M_247 6 = some (aI G 36 (nF al)) := by rw [hF_252 6 (by omega)]; exact hm_179
        have hm_260 : M_247 7 = some (aZ G 6 (bF ho)) := by rw [hF_252 7 (by omega)]; exact hm_180
        have hm_261 : M_247 8 = some (cOnes ad jn) := by rw [hF_252 8 (by omega)]; exact hm_181
        have hm_262 : M_247 9 = some (aI G 40 (nF hg)) := by rw [hF_252 9 (by omega)]; exact hm_182
        have hm_263 : M_247 10 = some (aI G 40 (nF lst)) := by rw [hF_252 10 (by omega)]; exact hm_183
        have hm_264 : M_247 11 = some (aI G 40 (nF jd)) := by rw [hF_252 11 (by omega)]; exact hm_184
        have hm_265 : M_247 12 = some (cEnds ad 12 s0) := by rw [hF_252 12 (by omega)]; exact hm_185
        have hm_266 : M_247 13 = some (aI G 6 (nF r0)) := by rw [hF_252 13 (by omega)]; exact hm_186
        have hm_267 : M_247 14 = some (aI G 6 (oF th)) := by rw [hF_252 14 (by omega)]; exact hm_187
        have hm_268 : M_247 15 = some (aI G 6 (oF ol)) := by rw [hF_252 15 (by omega)]; exact hm_188
        have hm_269 : M_247 19 = some (aZ G 120 (bF mm9)) := by rw [hF_252 19 (by omega)]; exact hm_189
        have hm_270 : M_247 20 = some (aI G 120 ff) := by rw [hF_252 20 (by omega)]; exact hm_190
        have hm_271 : M_247 21 = some (aI G 120 lq) := by rw [hF_252 21 (by omega)]; exact hm_191
        have hm_272 : M_247 22 = some (cReader ad ra rb rt rv) := by rw [hF_252 22 (by omega)]; exact hm_192
        have hm_273 : M_247 23 = some (cMatcher ad qm pz) := by rw [hF_252 23 (by omega)]; exact hm_193
        have hm_274 : M_247 24 = some (aJ G 2160 sx) := by rw [hF_252 24 (by omega)]; exact hm_194
        have hm_275 : M_247 25 = some (aI G 6 (nF ft)) := by rw [hF_252 25 (by omega)]; exact hm_195
        have hm_276 : M_247 26 = some (aJ G 240 rx) := by rw [hF_252 26 (by omega)]; exact hm_196
        have hm_277 : M_247 27 = some (aJ G 3 dm) := by rw [hF_252 27 (by omega)]; exact hm_197
        have hm_278 : M_247 28 = some (aI G 3 rc) := by rw [hF_252 28 (by omega)]; exact hm_198
        have hm_279 : M_247 qa = some (cQuestion ad qa ao vr) := by rw [hF_252 qa (by omega)]; exact hm_199
        have hm_280 : M_247 (qa + 1) = some (aI G 6 (nF kn)) := by rw [hF_252 (qa + 1) (by omega)]; exact hm_200
        have hm_281 : M_247 (qa + 2) = some (aZ G 6 (bF nq)) := by rw [hF_252 (qa + 2) (by omega)]; exact hm_201
        have hm_282 : M_247 (qa + 3) = some (aI G 6 (nF pn)) := by rw [hF_252 (qa + 3) (by omega)]; exact hm_202
        have hm_283 : M_247 (qa + 4) = some (aI G 6 (nF av)) := by rw [hF_252 (qa + 4) (by omega)]; exact hm_203
        have hm_284 : M_247 (qa + 5) = some (aI G 24 (nF ro)) := by rw [hF_252 (qa + 5) (by omega)]; exact hm_204
        have hm_285 : M_247 (qa + 6) = some (aI G 24 (nF te)) := by rw [hF_252 (qa + 6) (by omega)]; exact hm_205
        have hm_286 : M_247 qs = some (cQuestion ad qs sq su) := by rw [hF_252 qs (by omega)]; exact hm_206
        have hm_287 : M_247 (qs + 1) = some (aI G 6 (nF kb)) := by rw [hF_252 (qs + 1) (by omega)]; exact hm_207
        have hm_288 : M_247 (qs + 2) = some (aZ G 6 (bF nb)) := by rw [hF_252 (qs + 2) (by omega)]; exact hm_208
        have hm_289 : M_247 (qs + 3) = some (aI G 6 (nF pb)) := by rw [hF_252 (qs + 3) (by omega)]; exact hm_209
        have hm_290 : M_247 (qs + 4) = some (aI G 6 (nF ab)) := by rw [hF_252 (qs + 4) (by omega)]; exact hm_210
        have hm_291 : M_247 (qs + 5) = some (aI G 24 (nF rbb)) := by rw [hF_252 (qs + 5) (by omega)]; exact hm_211
        have hm_292 : M_247 (qs + 6) = some (aI G 24 (nF tbb)) := by rw [hF_252 (qs + 6) (by omega)]; exact hm_212
        have hm_293 : M_247 61 = some (aI G 36 (nF le)) := by rw [hF_252 61 (by omega)]; exact hm_214
        have hm_294 : M_247 62 = some (aI G 36 (nF mo)) := by rw [hF_252 62 (by omega)]; exact hm_215
        have hm_295 : M_247 63 = some (aI G 36 (nF al)) := by rw [hF_252 63 (by omega)]; exact hm_216
        have hm_296 : M_247 64 = some (aZ G 6 (bF ho)) := by rw [hF_252 64 (by omega)]; exact hm_217
        have hm_297 : M_247 65 = some (aI G 120 (nF mk)) := by rw [hF_252 65 (by omega)]; exact hm_218
        have hm_298 : M_247 66 = some (aI G 120 mf) := by rw [hF_252 66 (by omega)]; exact hm_219
        have hm_299 : M_247 67 = some (aI G 120 mu) := by rw [hF_252 67 (by omega)]; exact hm_220
        have hm_300 : M_247 68 = some (aI G 121 (nF mz)) := by rw [hF_252 68 (by omega)]; exact hm_221
        have hm_301 : M_247 69 = some (aI G 726 (nF rr)) := by rw [hF_252 69 (by omega)]; exact hm_222
        have hm_302 : M_247 70 = some (aI G 726 (nF ee)) := by rw [hF_252 70 (by omega)]; exact hm_223
        have hm_303 : M_247 71 = some (aI G 40 (nF lst)) := by rw [hF_252 71 (by omega)]; exact hm_224
        have hm_304 : M_247 72 = some (aI G 40 (nF oa)) := by rw [hF_252 72 (by omega)]; exact hm_225
        have hm_305 : M_247 73 = some (aI G 40 (nF ob)) := by rw [hF_252 73 (by omega)]; exact hm_226
        have hm_306 : M_247 74 = some (aI G 120 s74) := by rw [hF_252 74 (by omega)]; exact hm_227
        have hm_307 : M_247 75 = some (aI G 12 ak) := by rw [hF_252 75 (by omega)]; exact hm_228
        have hm_308 : M_247 76 = some (aZ G 12 (bF nm)) := by rw [hF_252 76 (by omega)]; exact hm_229
        have hm_309 : M_247 77 = some (aI G 12 (nF ap)) := by rw [hF_252 77 (by omega)]; exact hm_230
        have hm_310 : M_247 78 = some (aI G 48 pr) := by rw [hF_252 78 (by omega)]; exact hm_231
        have hm_311 : M_247 79 = some (aI G 48 pf) := by rw [hF_252 79 (by omega)]; exact hm_232
        have hm_312 : M_247 80 = some (aB G 400 tf) := by rw [hF_252 80 (by omega)]; exact hm_233
        have hm_313 : M_247 81 = some (aI G 5 fv) := by rw [hF_252 81 (by omega)]; exact hm_234
        have hm_314 : M_247 82 = some (aZ G 384000 (bF tr)) := by rw [hF_252 82 (by omega)]; exact hm_235
        have hm_315 : M_247 83 = some (aI G 3 (oF gv)) := by rw [hF_252 83 (by omega)]; exact hm_236
        have hm_316 : M_247 84 = some (aI G 3 fo) := by rw [hF_252 84 (by omega)]; exact hm_237
        have hm_317 : M_247 85 = some (aZ G 40 (bF re)) := by rw [hF_252 85 (by omega)]; exact hm_238
        have hm_318 : M_247 86 = some (aZ G 120 (bF us)) := by rw [hF_252 86 (by omega)]; exact hm_239
        have hm_319 : M_247 87 = some (aZ G 120 (bF nx)) := by rw [hF_252 87 (by omega)]; exact hm_240
        have hm_320 : M_247 99 = some (aJ G 1 of) := by rw [hF_252 99 (by omega)]; exact hm_241
        have hm_321 : M_247 16 = some (cLines ad ) := by rw [hF_252 16 (by omega)]; exact hm_242
        have hL_322 : LSm G ad M_247 n kd fm to sz rl en := hL_243.keep (fun j hj => hF_252 j (by omega))
        have hF_323 : ∀ j : Nat, j ≠ 60 → M_247 j = M j := fun j q0 => (hF_252 j q0).trans (hF_172 j )
        rw [hr_250]
        refine lv_istore (lv' := [(6, .int (nI 0)), (5, .int (nI 1)), (0, .ref b), (1, .ref (ad 0)), (2, .ref (ad 60)), (3, .ref (ad 99)), (4, .int (nI i))]) hx hb dL_law_520 hl (by decide) rfl (fun ls hl => ?_)
        refine lv_aload_n hx hb dL_law_522 rfl (lv_at hl 4 rfl) ?_
        refine k_Ri (va_runV (As := []) (rest := []) ⟨hx, hb, hml, hown, hts⟩ (c_X10_thrown l G z ad M_247 (th := 1) (ln := n) (on := jn) (ao := ao) (vr := vr) (sn := sn) (tp := len) (pt := pt) (zs := zs) (bg := bg) (fa := fw) hm_251) (cwV 0 hts (gV (lwg_of t_997 rfl) (lwg_of t_998 rfl) (lwg_of t_999 rfl) (lwg_of t_13 rfl) (lwg_of t_1000 rfl)) rfl rfl rfl (by decide +kernel) ⟨Nat.le_of_ble_eq_true rfl, Nat.le_of_ble_eq_true rfl⟩) (hI.preV hm_251 rfl) rfl rfl hl.1 rfl (lv_room (Nat.le_of_ble_eq_true rfl)) dL_law_523 ⟨(show _ ≤ (601024 : Nat) from by omega), (show _ ≤ (7293034 : Nat) from by omega)⟩) (fun _ h => h) (fun r_324 hp_325 => ?_)
        rw [hp_325]
        refine lv_iload hx hb dL_law_526 (lv_at hl 1 rfl) ?_
        refine lv_icmp_eq (tgt := 533) hx hb dL_law_528 (by decide) (fun c_326 => ?_) (fun c_326 => ?_)
        · -- 528: nI 1 eq
          refine lv_iload hx hb dL_law_533 (lv_at hl 1 rfl) ?_
          refine lv_if_ne (tgt := 550) hx hb dL_law_535 (by decide) (fun c_327 => ?_) (fun c_327 => ?_)
          · -- 535: nI 1 ne
            refine lv_goto (tgt := 1333) hx hb dL_law_550 (by decide) ?_
            refine W.widen (k := cz + 10) (n := sy + 300) (by omega) (by omega) ?_
            exact kk ad M_247 H_248 locs_249 ls n kd fm to sz rl en qa qs fw len tb le mo al ho jn hg lst jd s0 r0 th ol e0 mm9 ff lq ra rb rt rv qm pz sx ft rx dm rc ao vr kn nq pn av ro te sq su kb nb pb ab rbb tbb 1 sn pt zs bg mk mf mu mz rr ee oa ob s74 ak nm ap pr pf tf fv tr gv fo re us nx of hL_322 w1 w2 w3 w4 w5 w6 w7 w8 w9 w10 w11 w12 w13 w14 w15 w16 w17 w18 w19 w20 w21 w22 w23 w24 w25 w26 w27 w28 w29 (fun h9 => by rw [hF_323 17 (by omega), hF_323 18 (by omega)]; exact w30 h9) (by rw [hF_323 29 (by omega)]; exact w31) (fun j9 h9 => by rw [hF_323 j9 (by omega)]; exact w32 j9 h9) hm_253 hm_254 hm_255 hm_256 hm_257 hm_258 hm_259 hm_260 hm_261 hm_262 hm_263 hm_264 hm_265 hm_266 hm_267 hm_268 hm_269 hm_270 hm_271 hm_272 hm_273 hm_274 hm_275 hm_276 hm_277 hm_278 hm_279 hm_280 hm_281 hm_282 hm_283 hm_284 hm_285 hm_286 hm_287 hm_288 hm_289 hm_290 hm_291 hm_292 hm_251 hm_293 hm_294 hm_295 hm_296 hm_297 hm_298 hm_299 hm_300 hm_301 hm_302 hm_303 hm_304 hm_305 hm_306 hm_307 hm_308 hm_309 hm_310 hm_311 hm_312 hm_313 hm_314 hm_315 hm_316 hm_317 hm_318 hm_319 hm_320 hI (lv_sub hl [2, 3, 4, 5, 6] rfl)
          · -- 535: nI 1 eq
            exact absurd c_327 (by decide)
        · -- 528: nI 1 ne
          exact absurd (by decide) c_326
  · skip
    refine lv_aload_n hx hb dL_law_457 rfl (lv_at hl 1 rfl) ?_
    obtain ⟨t1, ht1, et1⟩ := hc_2
    refine lv_aload_n hx hb dL_law_458 rfl (lv_at hl 0 rfl) ?_
    refine lv_iload hx hb dL_law_459 (lv_at hl 4 rfl) ?_
    refine lv_iconst (v := nI 1) hx hb dL_law_461 (by decide) ?_
    refine lv_iadd hx hb dL_law_462 ?_
    refine n_eq (nI_add i 1) ?_
    refine va_sld (A := fr z) hx hb hX hbl hbz hI.S (vp_in_nI (n := i + 1) (by omega) (by omega)) dL_law_463 ?_
    rw [nI_clamp (by omega)]
    refine n_eq (show _ = nI t1 from et1) ?_
    refine lv_aload_n hx hb dL_law_464 rfl (lv_at hl 0 rfl) ?_
    refine lv_iload hx hb dL_law_465 (lv_at hl 4 rfl) ?_
    refine lv_iconst (v := nI 2) hx hb dL_law_467 (by decide) ?_
    refine lv_iadd hx hb dL_law_468 ?_
    refine n_eq (nI_add i 2) ?_
    refine va_sld (A := fr z) hx hb hX hbl hbz hI.S (vp_in_nI (n := i + 2) (by omega) (by omega)) dL_law_469 ?_
    rw [nI_clamp (by omega)]
    refine lv_if_eq (tgt := 477) hx hb dL_law_470 (by decide) (fun c_328 => ?_) (fun c_328 => ?_)
    · -- 470: xs (i + 2) eq
      refine lv_iconst (v := nI 0) hx hb dL_law_477 (by decide) ?_
      refine n_eq (show _ = bI false from rfl) ?_
      refine lv_aload_n hx hb dL_law_478 rfl (lv_at hl 0 rfl) ?_
      rcases (in_or 40 (xs (i + 3)) (by omega) : (xs (i + 3) < 0 ∨ ¬ xs (i + 3) < nI 40) ∨ (∃ t : Nat, t < 40 ∧ xs (i + 3) = nI t)) with hc_329 | hc_330
      · skip
        refine lv_iload hx hb dL_law_479 (lv_at hl 4 rfl) ?_
        refine lv_iconst (v := nI 3) hx hb dL_law_481 (by decide) ?_
        refine lv_iadd hx hb dL_law_482 ?_
        refine n_eq (nI_add i 3) ?_
        refine va_sld (A := fr z) hx hb hX hbl hbz hI.S (vp_in_nI (n := i + 3) (by omega) (by omega)) dL_law_483 ?_
        rw [nI_clamp (by omega)]
        refine lv_aload_n hx hb dL_law_484 rfl (lv_at hl 3 rfl) ?_
        refine k_Ni (vx_runSW (As := [.ref (ad 0), .int (nI t1), .int (bI false), .int (xs (i + 3)), .ref (ad 99)]) (rest := []) ⟨hx, hb, hml, hown, hts⟩ (c_L_draft_c l hst G z ad M (qa := qa) (qs := qs) (fw := fw) (ro := t1) (x1 := xs (i + 3)) (b := false) f_0 ht1 rfl hc_329) (vx_cwSW 5 hts (gSW (lwg_of t_596 rfl) (lwg_of t_597 rfl) (lwg_of t_0 rfl) (lwg_of t_598 rfl)) rfl rfl rfl (by decide +kernel) ⟨Nat.le_of_ble_eq_true rfl, Nat.le_of_ble_eq_true rfl⟩) hI.preS rfl rfl hl.1 rfl (lv_room (Nat.le_of_ble_eq_true rfl)) dL_law_485 ⟨(show _ ≤ (601024 : Nat) from by omega), (show _ ≤ (7293034 : Nat) from by omega)⟩) hI (fun r_331 M_333 H_334 locs_335 hp_332 hI => ?_)
        obtain ⟨hr_336, hF_337⟩ := hp_332
        have hm_338 : M_333 0 = some (cStore ad qa qs fw) := by rw [hF_337 0 ]; exact f_0
        have hm_339 : M_333 1 = some (cTape ad len) := by rw [hF_337 1 ]; exact f_1
        have hm_340 : M_333 2 = some (aI G 400 (nF tb)) := by rw [hF_337 2 ]; exact f_2
        have hm_341 : M_333 3 = some (cLaws ad ) := by rw [hF_337 3 ]; exact f_3
        have hm_342 : M_333 4 = some (aI G 36 (nF le)) := by rw [hF_337 4 ]; exact f_4
        have hm_343 : M_333 5 = some (aI G 36 (nF mo)) := by rw [hF_337 5 ]; exact f_5
        have hm_344 : M_333 6 = some (aI G 36 (nF al)) := by rw [hF_337 6 ]; exact f_6
        have hm_345 : M_333 7 = some (aZ G 6 (bF ho)) := by rw [hF_337 7 ]; exact f_7
        have hm_346 : M_333 8 = some (cOnes ad jn) := by rw [hF_337 8 ]; exact f_8
        have hm_347 : M_333 9 = some (aI G 40 (nF hg)) := by rw [hF_337 9 ]; exact f_9
        have hm_348 : M_333 10 = some (aI G 40 (nF lst)) := by rw [hF_337 10 ]; exact f_10
        have hm_349 : M_333 11 = some (aI G 40 (nF jd)) := by rw [hF_337 11 ]; exact f_11
        have hm_350 : M_333 12 = some (cEnds ad 12 s0) := by rw [hF_337 12 ]; exact f_12
        have hm_351 : M_333 13 = some (aI G 6 (nF r0)) := by rw [hF_337 13 ]; exact f_13
        have hm_352 : M_333 14 = some (aI G 6 (oF th)) := by rw [hF_337 14 ]; exact f_14
        have hm_353 : M_333 15 = some (aI G 6 (oF ol)) := by rw [hF_337 15 ]; exact f_15
        have hm_354 : M_333 19 = some (aZ G 120 (bF mm9)) := by rw [hF_337 19 ]; exact f_19
        have hm_355 : M_333 20 = some (aI G 120 ff) := by rw [hF_337 20 ]; exact f_20
        have hm_356 : M_333 21 = some (aI G 120 lq) := by rw [hF_337 21 ]; exact f_21
        have hm_357 : M_333 22 = some (cReader ad ra rb rt rv) := by rw [hF_337 22 ]; exact f_22
        have hm_358 : M_333 23 = some (cMatcher ad qm pz) := by rw [hF_337 23 ]; exact f_23
        have hm_359 : M_333 24 = some (aJ G 2160 sx) := by rw [hF_337 24 ]; exact f_24
        have hm_360 : M_333 25 = some (aI G 6 (nF ft)) := by rw [hF_337 25 ]; exact f_25
        have hm_361 : M_333 26 = some (aJ G 240 rx) := by rw [hF_337 26 ]; exact f_26
        have hm_362 : M_333 27 = some (aJ G 3 dm) := by rw [hF_337 27 ]; exact f_27
        have hm_363 : M_333 28 = some (aI G 3 rc) := by rw [hF_337 28 ]; exact f_28
        have hm_364 : M_333 qa = some (cQuestion ad qa ao vr) := by rw [hF_337 qa ]; exact f_qa
        have hm_365 : M_333 (qa + 1) = some (aI G 6 (nF kn)) := by rw [hF_337 (qa + 1) ]; exact f_qa_1
        have hm_366 : M_333 (qa + 2) = some (aZ G 6 (bF nq)) := by rw [hF_337 (qa + 2) ]; exact f_qa_2
        have hm_367 : M_333 (qa + 3) = some (aI G 6 (nF pn)) := by rw [hF_337 (qa + 3) ]; exact f_qa_3
        have hm_368 : M_333 (qa + 4) = some (aI G 6 (nF av)) := by rw [hF_337 (qa + 4) ]; exact f_qa_4
        have hm_369 : M_333 (qa + 5) = some (aI G 24 (nF ro)) := by rw [hF_337 (qa + 5) ]; exact f_qa_5
        have hm_370 : M_333 (qa + 6) = some (aI G 24 (nF te)) := by rw [hF_337 (qa + 6) ]; exact f_qa_6
        have hm_371 : M_333 qs = some (cQuestion ad qs sq su) := by rw [hF_337 qs ]; exact f_qs
        have hm_372 : M_333 (qs + 1) = some (aI G 6 (nF kb)) := by rw [hF_337 (qs + 1) ]; exact f_qs_1
        have hm_373 : M_333 (qs + 2) = some (aZ G 6 (bF nb)) := by rw [hF_337 (qs + 2) ]; exact f_qs_2
        have hm_374 : M_333 (qs + 3) = some (aI G 6 (nF pb)) := by rw [hF_337 (qs + 3) ]; exact f_qs_3
        have hm_375 : M_333 (qs + 4) = some (aI G 6 (nF ab)) := by rw [hF_337 (qs + 4) ]; exact f_qs_4
        have hm_376 : M_333 (qs + 5) = some (aI G 24 (nF rbb)) := by rw [hF_337 (qs + 5) ]; exact f_qs_5
        have hm_377 : M_333 (qs + 6) = some (aI G 24 (nF tbb)) := by rw [hF_337 (qs + 6) ]; exact f_qs_6
        have hm_378 : M_333 60 = some (cModel ad tw n jn ao vr sn len pt zs bg fw) := by rw [hF_337 60 ]; exact f_60
        have hm_379 : M_333 61 = some (aI G 36 (nF le)) := by rw [hF_337 61 ]; exact f_61
        have hm_380 : M_333 62 = some (aI G 36 (nF mo)) := by rw [hF_337 62 ]; exact f_62
        have hm_381 : M_333 63 = some (aI G 36 (nF al)) := by rw [hF_337 63 ]; exact f_63
        have hm_382 : M_333 64 = some (aZ G 6 (bF ho)) := by rw [hF_337 64 ]; exact f_64
        have hm_383 : M_333 65 = some (aI G 120 (nF mk)) := by rw [hF_337 65 ]; exact f_65
        have hm_384 : M_333 66 = some (aI G 120 mf) := by rw [hF_337 66 ]; exact f_66
        have hm_385 : M_333 67 = some (aI G 120 mu) := by rw [hF_337 67 ]; exact f_67
        have hm_386 : M_333 68 = some (aI G 121 (nF mz)) := by rw [hF_337 68 ]; exact f_68
        have hm_387 : M_333 69 = some (aI G 726 (nF rr)) := by rw [hF_337 69 ]; exact f_69
        have hm_388 : M_333 70 = some (aI G 726 (nF ee)) := by rw [hF_337 70 ]; exact f_70
        have hm_389 : M_333 71 = some (aI G 40 (nF lst)) := by rw [hF_337 71 ]; exact f_71
        have hm_390 : M_333 72 = some (aI G 40 (nF oa)) := by rw [hF_337 72 ]; exact f_72
        have hm_391 : M_333 73 = some (aI G 40 (nF ob)) := by rw [hF_337 73 ]; exact f_73
        have hm_392 : M_333 74 = some (aI G 120 s74) := by rw [hF_337 74 ]; exact f_74
        have hm_393 : M_333 75 = some (aI G 12 ak) := by rw [hF_337 75 ]; exact f_75
        have hm_394 : M_333 76 = some (aZ G 12 (bF nm)) := by rw [hF_337 76 ]; exact f_76
        have hm_395 : M_333 77 = some (aI G 12 (nF ap)) := by rw [hF_337 77 ]; exact f_77
        have hm_396 : M_333 78 = some (aI G 48 pr) := by rw [hF_337 78 ]; exact f_78
        have hm_397 : M_333 79 = some (aI G 48 pf) := by rw [hF_337 79 ]; exact f_79
        have hm_398 : M_333 80 = some (aB G 400 tf) := by rw [hF_337 80 ]; exact f_80
        have hm_399 : M_333 81 = some (aI G 5 fv) := by rw [hF_337 81 ]; exact f_81
        have hm_400 : M_333 82 = some (aZ G 384000 (bF tr)) := by rw [hF_337 82 ]; exact f_82
        have hm_401 : M_333 83 = some (aI G 3 (oF gv)) := by rw [hF_337 83 ]; exact f_83
        have hm_402 : M_333 84 = some (aI G 3 fo) := by rw [hF_337 84 ]; exact f_84
        have hm_403 : M_333 85 = some (aZ G 40 (bF re)) := by rw [hF_337 85 ]; exact f_85
        have hm_404 : M_333 86 = some (aZ G 120 (bF us)) := by rw [hF_337 86 ]; exact f_86
        have hm_405 : M_333 87 = some (aZ G 120 (bF nx)) := by rw [hF_337 87 ]; exact f_87
        have hm_406 : M_333 99 = some (aJ G 1 of) := by rw [hF_337 99 ]; exact f_99
        have hm_407 : M_333 16 = some (cLines ad ) := by rw [hF_337 16 ]; exact h16
        have hL_408 : LSm G ad M_333 n kd fm to sz rl en := fL.keep (fun j hj => hF_337 j )
        rw [hr_336]
        refine lv_istore (lv' := [(5, .int (nI 1)), (0, .ref b), (1, .ref (ad 0)), (2, .ref (ad 60)), (3, .ref (ad 99)), (4, .int (nI i))]) hx hb dL_law_488 hl (by decide) rfl (fun ls hl => ?_)
        refine lv_aload_n hx hb dL_law_490 rfl (lv_at hl 3 rfl) ?_
        refine lv_aload_n hx hb dL_law_491 rfl (lv_at hl 1 rfl) ?_
        refine lv_iload hx hb dL_law_492 (lv_at hl 5 rfl) ?_
        refine lv_iconst (v := nI 1) hx hb dL_law_494 (by decide) ?_
        refine lv_iadd hx hb dL_law_495 ?_
        refine n_eq (nI_add i 1) ?_
        refine va_sld (A := fr z) hx hb hX hbl hbz hI.S (vp_in_nI (n := i + 1) (by omega) (by omega)) dL_law_496 ?_
        rw [nI_clamp (by omega)]
        refine n_eq (show _ = nI t1 from et1) ?_
        refine lv_aload_n hx hb dL_law_497 rfl (lv_at hl 1 rfl) ?_
        refine lv_iload hx hb dL_law_498 (lv_at hl 5 rfl) ?_
        refine lv_iconst (v := nI 2) hx hb dL_law_500 (by decide) ?_
        refine lv_iadd hx hb dL_law_501 ?_
        refine n_eq (nI_add i 2) ?_
        refine va_sld (A := fr z) hx hb hX hbl hbz hI.S (vp_in_nI (n := i + 2) (by omega) (by omega)) dL_law_502 ?_
        rw [nI_clamp (by omega)]
        refine lv_if_eq (tgt := 510) hx hb dL_law_503 (by decide) (fun c_409 => ?_) (fun c_409 => ?_)
        · -- 503: xs (i + 2) eq
          refine lv_iconst (v := nI 0) hx hb dL_law_510 (by decide) ?_
          refine n_eq (show _ = bI false from rfl) ?_
          refine lv_aload_n hx hb dL_law_511 rfl (lv_at hl 1 rfl) ?_
          refine lv_iload hx hb dL_law_512 (lv_at hl 5 rfl) ?_
          refine lv_iconst (v := nI 3) hx hb dL_law_514 (by decide) ?_
          refine lv_iadd hx hb dL_law_515 ?_
          refine n_eq (nI_add i 3) ?_
          refine va_sld (A := fr z) hx hb hX hbl hbz hI.S (vp_in_nI (n := i + 3) (by omega) (by omega)) dL_law_516 ?_
          rw [nI_clamp (by omega)]
          refine k_Ni (va_runV (As := [.int (nI t1), .int (bI false), .int (xs (i + 3))]) (rest := []) ⟨hx, hb, hml, hown, hts⟩ (c_X10_draft_c l G z ad M_333 (th := tw) (ln := n) (on := jn) (ao := ao) (vr := vr) (sn := sn) (tp := len) (pt := pt) (zs := zs) (bg := bg) (fa := fw) (ro := t1) (x1 := xs (i + 3)) (b := false) hm_378 ht1 rfl hc_329) (cwV 3 hts (gV (lwg_of t_1153 rfl) (lwg_of t_1154 rfl) (lwg_of t_1155 rfl) (lwg_of t_13 rfl) (lwg_of t_1156 rfl)) rfl rfl rfl (by decide +kernel) ⟨Nat.le_of_ble_eq_true rfl, Nat.le_of_ble_eq_true rfl⟩) (hI.preV hm_378 rfl) rfl rfl hl.1 rfl (lv_room (Nat.le_of_ble_eq_true rfl)) dL_law_517 ⟨(show _ ≤ (601024 : Nat) from by omega), (show _ ≤ (7293034 : Nat) from by omega)⟩) hI (fun r_410 M_412 H_413 locs_414 hp_411 hI => ?_)
          obtain ⟨hr_415, hm_416, hF_417⟩ := hp_411
          have hm_418 : M_412 0 = some (cStore ad qa qs fw) := by rw [hF_417 0 (by omega)]; exact hm_338
          have hm_419 : M_412 1 = some (cTape ad len) := by rw [hF_417 1 (by omega)]; exact hm_339
          have hm_420 : M_412 2 = some (aI G 400 (nF tb)) := by rw [hF_417 2 (by omega)]; exact hm_340
          have hm_421 : M_412 3 = some (cLaws ad ) := by rw [hF_417 3 (by omega)]; exact hm_341
          have hm_422 : M_412 4 = some (aI G 36 (nF le)) := by rw [hF_417 4 (by omega)]; exact hm_342
          have hm_423 : M_412 5 = some (aI G 36 (nF mo)) := by rw [hF_417 5 (by omega)]; exact hm_343
          have hm_424 : M_412 6 = some (aI G 36 (nF al)) := by rw [hF_417 6 (by omega)]; exact hm_344
          have hm_425 : M_412 7 = some (aZ G 6 (bF ho)) := by rw [hF_417 7 (by omega)]; exact hm_345
          have hm_426 : M_412 8 = some (cOnes ad jn) := by rw [hF_417 8 (by omega)]; exact hm_346
          have hm_427 : M_412 9 = some (aI G 40 (nF hg)) := by rw [hF_417 9 (by omega)]; exact hm_347
          have hm_428 : M_412 10 = some (aI G 40 (nF lst)) := by rw [hF_417 10 (by omega)]; exact hm_348
          have hm_429 : M_412 11 = some (aI G 40 (nF jd)) := by rw [hF_417 11 (by omega)]; exact hm_349
          have hm_430 : M_412 12 = some (cEnds ad 12 s0) := by rw [hF_417 12 (by omega)]; exact hm_350
          have hm_431 : M_412 13 = some (aI G 6 (nF r0)) := by rw [hF_417 13 (by omega)]; exact hm_351
          have hm_432 : M_412 14 = some (aI G 6 (oF th)) := by rw [hF_417 14 (by omega)]; exact hm_352
          have hm_433 : M_412 15 = some (aI G 6 (oF ol)) := by rw [hF_417 15 (by omega)]; exact hm_353
          have hm_434 : M_412 19 = some (aZ G 120 (bF mm9)) := by rw [hF_417 19 (by omega)]; exact hm_354
          have hm_435 : M_412 20 = some (aI G 120 ff) := by rw [hF_417 20 (by omega)]; exact hm_355
          have hm_436 : M_412 21 = some (aI G 120 lq) := by rw [hF_417 21 (by omega)]; exact hm_356
          have hm_437 : M_412 22 = some (cReader ad ra rb rt rv) := by rw [hF_417 22 (by omega)]; exact hm_357
          have hm_438 : M_412 23 = some (cMatcher ad qm pz) := by rw [hF_417 23 (by omega)]; exact hm_358
          have hm_439 : M_412 24 = some (aJ G 2160 sx) := by rw [hF_417 24 (by omega)]; exact hm_359
          have hm_440 : M_412 25 = some (aI G 6 (nF ft)) := by rw [hF_417 25 (by omega)]; exact hm_360
          have hm_441 : M_412 26 = some (aJ G 240 rx) := by rw [hF_417 26 (by omega)]; exact hm_361
          have hm_442 : M_412 27 = some (aJ G 3 dm) := by rw [hF_417 27 (by omega)]; exact hm_362
          have hm_443 : M_412 28 = some (aI G 3 rc) := by rw [hF_417 28 (by omega)]; exact hm_363
          have hm_444 : M_412 qa = some (cQuestion ad qa ao vr) := by rw [hF_417 qa (by omega)]; exact hm_364
          have hm_445 : M_412 (qa + 1) = some (aI G 6 (nF kn)) := by rw [hF_417 (qa + 1) (by omega)]; exact hm_365
          have hm_446 : M_412 (qa + 2) = some (aZ G 6 (bF nq)) := by rw [hF_417 (qa + 2) (by omega)]; exact hm_366
          have hm_447 : M_412 (qa + 3) = some (aI G 6 (nF pn)) := by rw [hF_417 (qa + 3) (by omega)]; exact hm_367
          have hm_448 : M_412 (qa + 4) = some (aI G 6 (nF av)) := by rw [hF_417 (qa + 4) (by omega)]; exact hm_368
          have hm_449 : M_412 (qa + 5) = some (aI G 24 (nF ro)) := by rw [hF_417 (qa + 5) (by omega)]; exact hm_369
          have hm_450 : M_412 (qa + 6) = some (aI G 24 (nF te)) := by rw [hF_417 (qa + 6) (by omega)]; exact hm_370
          have hm_451 : M_412 qs = some (cQuestion ad qs sq su) := by rw [hF_417 qs (by omega)]; exact hm_371
          have hm_452 : M_412 (qs + 1) = some (aI G 6 (nF kb)) := by rw [hF_417 (qs + 1) (by omega)]; exact hm_372
          have hm_453 : M_412 (qs + 2) = some (aZ G 6 (bF nb)) := by rw [hF_417 (qs + 2) (by omega)]; exact hm_373
          have hm_454 : M_412 (qs + 3) = some (aI G 6 (nF pb)) := by rw [hF_417 (qs + 3) (by omega)]; exact hm_374
          have hm_455 : M_412 (qs + 4) = some (aI G 6 (nF ab)) := by rw [hF_417 (qs + 4) (by omega)]; exact hm_375
          have hm_456 : M_412 (qs + 5) = some (aI G 24 (nF rbb)) := by rw [hF_417 (qs + 5) (by omega)]; exact hm_376
          have hm_457 : M_412 (qs + 6) = some (aI G 24 (nF tbb)) := by rw [hF_417 (qs + 6) (by omega)]; exact hm_377
          have hm_458 : M_412 61 = some (aI G 36 (nF le)) := by rw [hF_417 61 (by omega)]; exact hm_379
          have hm_459 : M_412 62 = some (aI G 36 (nF mo)) := by rw [hF_417 62 (by omega)]; exact hm_380
          have hm_460 : M_412 63 = some (aI G 36 (nF al)) := by rw [hF_417 63 (by omega)]; exact hm_381
          have hm_461 : M_412 64 = some (aZ G 6 (bF ho)) := by rw [hF_417 64 (by omega)]; exact hm_382
          have hm_462 : M_412 65 = some (aI G 120 (nF mk)) := by rw [hF_417 65 (by omega)]; exact hm_383
          have hm_463 : M_412 66 = some (aI G 120 mf) := by rw [hF_417 66 (by omega)]; exact hm_384
          have hm_464 : M_412 67 = some (aI G 120 mu) := by rw [hF_417 67 (by omega)]; exact hm_385
          have hm_465 : M_412 68 = some (aI G 121 (nF mz)) := by rw [hF_417 68 (by omega)]; exact hm_386
          have hm_466 : M_412 69 = some (aI G 726 (nF rr)) := by rw [hF_417 69 (by omega)]; exact hm_387
          have hm_467 : M_412 70 = some (aI G 726 (nF ee)) := by rw [hF_417 70 (by omega)]; exact hm_388
          have hm_468 : M_412 71 = some (aI G 40 (nF lst)) := by rw [hF_417 71 (by omega)]; exact hm_389
          have hm_469 : M_412 72 = some (aI G 40 (nF oa)) := by rw [hF_417 72 (by omega)]; exact hm_390
          have hm_470 : M_412 73 = some (aI G 40 (nF ob)) := by rw [hF_417 73 (by omega)]; exact hm_391
          have hm_471 : M_412 74 = some (aI G 120 s74) := by rw [hF_417 74 (by omega)]; exact hm_392
          have hm_472 : M_412 75 = some (aI G 12 ak) := by rw [hF_417 75 (by omega)]; exact hm_393
          have hm_473 : M_412 76 = some (aZ G 12 (bF nm)) := by rw [hF_417 76 (by omega)]; exact hm_394
          have hm_474 : M_412 77 = some (aI G 12 (nF ap)) := by rw [hF_417 77 (by omega)]; exact hm_395
          have hm_475 : M_412 78 = some (aI G 48 pr) := by rw [hF_417 78 (by omega)]; exact hm_396
          have hm_476 : M_412 79 = some (aI G 48 pf) := by rw [hF_417 79 (by omega)]; exact hm_397
          have hm_477 : M_412 80 = some (aB G 400 tf) := by rw [hF_417 80 (by omega)]; exact hm_398
          have hm_478 : M_412 81 = some (aI G 5 fv) := by rw [hF_417 81 (by omega)]; exact hm_399
          have hm_479 : M_412 82 = some (aZ G 384000 (bF tr)) := by rw [hF_417 82 (by omega)]; exact hm_400
          have hm_480 : M_412 83 = some (aI G 3 (oF gv)) := by rw [hF_417 83 (by omega)]; exact hm_401
          have hm_481 : M_412 84 = some (aI G 3 fo) := by rw [hF_417 84 (by omega)]; exact hm_402
          have hm_482 : M_412 85 = some (aZ G 40 (bF re)) := by rw [hF_417 85 (by omega)]; exact hm_403
          have hm_483 : M_412 86 = some (aZ G 120 (bF us)) := by rw [hF_417 86 (by omega)]; exact hm_404
          have hm_484 : M_412 87 = some (aZ G 120 (bF nx)) := by rw [hF_417 87 (by omega)]; exact hm_405
          have hm_485 : M_412 99 = some (aJ G 1 of) := by rw [hF_417 99 (by omega)]; exact hm_406
          have hm_486 : M_412 16 = some (cLines ad ) := by rw [hF_417 16 (by omega)]; exact hm_407
          have hL_487 : LSm G ad M_412 n kd fm to sz rl en := hL_408.keep (fun j hj => hF_417 j (by omega))
          have hF_488 : ∀ j : Nat, j ≠ 60 → M_412 j = M j := fun j q0 => (hF_417 j q0).trans (hF_337 j )
          rw [hr_415]
          refine lv_istore (lv' := [(6, .int (nI 0)), (5, .int (nI 1)), (0, .ref b), (1, .ref (ad 0)), (2, .ref (ad 60)), (3, .ref (ad 99)), (4, .int (nI i))]) hx hb dL_law_520 hl (by decide) rfl (fun ls hl => ?_)
          refine lv_aload_n hx hb dL_law_522 rfl (lv_at hl 4 rfl) ?_
          refine k_Ri (va_runV (As := []) (rest := []) ⟨hx, hb, hml, hown, hts⟩ (c_X10_thrown l G z ad M_412 (th := 1) (ln := n) (on := jn) (ao := ao) (vr := vr) (sn := sn) (tp := len) (pt := pt) (zs := zs) (bg := bg) (fa := fw) hm_416) (cwV 0 hts (gV (lwg_of t_997 rfl) (lwg_of t_998 rfl) (lwg_of t_999 rfl) (lwg_of t_13 rfl) (lwg_of t_1000 rfl)) rfl rfl rfl (by decide +kernel) ⟨Nat.le_of_ble_eq_true rfl, Nat.le_of_ble_eq_true rfl⟩) (hI.preV hm_416 rfl) rfl rfl hl.1 rfl (lv_room (Nat.le_of_ble_eq_true rfl)) dL_law_523 ⟨(show _ ≤ (601024 : Nat) from by omega), (show _ ≤ (7293034 : Nat) from by omega)⟩) (fun _ h => h) (fun r_489 hp_490 => ?_)
          rw [hp_490]
          refine lv_iload hx hb dL_law_526 (lv_at hl 1 rfl) ?_
          refine lv_icmp_eq (tgt := 533) hx hb dL_law_528 (by decide) (fun c_491 => ?_) (fun c_491 => ?_)
          · -- 528: nI 1 eq
            refine lv_iload hx hb dL_law_533 (lv_at hl 1 rfl) ?_
            refine lv_if_ne (tgt := 550) hx hb dL_law_535 (by decide) (fun c_492 => ?_) (fun c_492 => ?_)
            · -- 535: nI 1 ne
              refine lv_goto (tgt := 1333) hx hb dL_law_550 (by decide) ?_
              refine W.widen (k := cz + 10) (n := sy + 300) (by omega) (by omega) ?_
              exact kk ad M_412 H_413 locs_414 ls n kd fm to sz rl en qa qs fw len tb le mo al ho jn hg lst jd s0 r0 th ol e0 mm9 ff lq ra rb rt rv qm pz sx ft rx dm rc ao vr kn nq pn av ro te sq su kb nb pb ab rbb tbb 1 sn pt zs bg mk mf mu mz rr ee oa ob s74 ak nm ap pr pf tf fv tr gv fo re us nx of hL_487 w1 w2 w3 w4 w5 w6 w7 w8 w9 w10 w11 w12 w13 w14 w15 w16 w17 w18 w19 w20 w21 w22 w23 w24 w25 w26 w27 w28 w29 (fun h9 => by rw [hF_488 17 (by omega), hF_488 18 (by omega)]; exact w30 h9) (by rw [hF_488 29 (by omega)]; exact w31) (fun j9 h9 => by rw [hF_488 j9 (by omega)]; exact w32 j9 h9) hm_418 hm_419 hm_420 hm_421 hm_422 hm_423 hm_424 hm_425 hm_426 hm_427 hm_428 hm_429 hm_430 hm_431 hm_432 hm_433 hm_434 hm_435 hm_436 hm_437 hm_438 hm_439 hm_440 hm_441 hm_442 hm_443 hm_444 hm_445 hm_446 hm_447 hm_448 hm_449 hm_450 hm_451 hm_452 hm_453 hm_454 hm_455 hm_456 hm_457 hm_416 hm_458 hm_459 hm_460 hm_461 hm_462 hm_463 hm_464 hm_465 hm_466 hm_467 hm_468 hm_469 hm_470 hm_471 hm_472 hm_473 hm_474 hm_475 hm_476 hm_477 hm_478 hm_479 hm_480 hm_481 hm_482 hm_483 hm_484 hm_485 hI (lv_sub hl [2, 3, 4, 5, 6] rfl)
            · -- 535: nI 1 eq
              exact absurd c_492 (by decide)
          · -- 528: nI 1 ne
            exact absurd (by decide) c_491
        · -- 503: xs (i + 2) ne
          exact absurd (by assumption) c_409
      · skip
        refine lv_iload hx hb dL_law_479 (lv_at hl 4 rfl) ?_
        obtain ⟨t3, ht3, et3⟩ := hc_330
        refine lv_iconst (v := nI 3) hx hb dL_law_481 (by decide) ?_
        rcases (by omega : s0 < 6 ∨ s0 = 6) with hc_493 | hc_494
        · skip
          refine lv_iadd hx hb dL_law_482 ?_
          refine n_eq (nI_add i 3) ?_
          refine va_sld (A := fr z) hx hb hX hbl hbz hI.S (vp_in_nI (n := i + 3) (by omega) (by omega)) dL_law_483 ?_
          rw [nI_clamp (by omega)]
          refine n_eq (show _ = nI t3 from et3) ?_
          refine lv_aload_n hx hb dL_law_484 rfl (lv_at hl 3 rfl) ?_
          refine k_Ni (vx_runSW (As := [.ref (ad 0), .int (nI t1), .int (bI false), .int (nI t3), .ref (ad 99)]) (rest := []) ⟨hx, hb, hml, hown, hts⟩ (c_L_draft l hst G z ad M (n := n) (kd := kd) (fm := fm) (to := to) (sz := sz) (rl := rl) (en := en) (qa := qa) (qs := qs) (fw := fw) (s0 := s0) (r0 := r0) (th := th) (ol := ol) (x := t1) (b := false) (t := t3) (of := of) fL f_0 f_12 f_13 f_14 f_15 f_99 w1 ht1 (fun h => absurd h (by decide)) (fun _ => ht3) (by omega)) (vx_cwSW 5 hts (gSW (lwg_of t_596 rfl) (lwg_of t_597 rfl) (lwg_of t_0 rfl) (lwg_of t_598 rfl)) rfl rfl rfl (by decide +kernel) ⟨Nat.le_of_ble_eq_true rfl, Nat.le_of_ble_eq_true rfl⟩) hI.preS rfl rfl hl.1 rfl (lv_room (Nat.le_of_ble_eq_true rfl)) dL_law_485 ⟨(show _ ≤ (601024 : Nat) from by omega), (show _ ≤ (7293034 : Nat) from by omega)⟩) hI (fun r_495 M_497 H_498 locs_499 hp_496 hI => ?_)
          obtain ⟨hr_500, hm_501, hm_502, hm_503, hm_504, hm_505, hF_506⟩ := hp_496
          have hm_507 : M_497 0 = some (cStore ad qa qs fw) := by rw [hF_506 0 (by omega) (by omega) (by omega) (by omega) (by omega)]; exact f_0
          have hm_508 : M_497 1 = some (cTape ad len) := by rw [hF_506 1 (by omega) (by omega) (by omega) (by omega) (by omega)]; exact f_1
          have hm_509 : M_497 2 = some (aI G 400 (nF tb)) := by rw [hF_506 2 (by omega) (by omega) (by omega) (by omega) (by omega)]; exact f_2
          have hm_510 : M_497 3 = some (cLaws ad ) := by rw [hF_506 3 (by omega) (by omega) (by omega) (by omega) (by omega)]; exact f_3
          have hm_511 : M_497 4 = some (aI G 36 (nF le)) := by rw [hF_506 4 (by omega) (by omega) (by omega) (by omega) (by omega)]; exact f_4
          have hm_512 : M_497 5 = some (aI G 36 (nF mo)) := by rw [hF_506 5 (by omega) (by omega) (by omega) (by omega) (by omega)]; exact f_5
          have hm_513 : M_497 6 = some (aI G 36 (nF al)) := by rw [hF_506 6 (by omega) (by omega) (by omega) (by omega) (by omega)]; exact f_6
          have hm_514 : M_497 7 = some (aZ G 6 (bF ho)) := by rw [hF_506 7 (by omega) (by omega) (by omega) (by omega) (by omega)]; exact f_7
          have hm_515 : M_497 8 = some (cOnes ad jn) := by rw [hF_506 8 (by omega) (by omega) (by omega) (by omega) (by omega)]; exact f_8
          have hm_516 : M_497 9 = some (aI G 40 (nF hg)) := by rw [hF_506 9 (by omega) (by omega) (by omega) (by omega) (by omega)]; exact f_9
          have hm_517 : M_497 10 = some (aI G 40 (nF lst)) := by rw [hF_506 10 (by omega) (by omega) (by omega) (by omega) (by omega)]; exact f_10
          have hm_518 : M_497 11 = some (aI G 40 (nF jd)) := by rw [hF_506 11 (by omega) (by omega) (by omega) (by omega) (by omega)]; exact f_11
          have hm_519 : M_497 19 = some (aZ G 120 (bF mm9)) := by rw [hF_506 19 (by omega) (by omega) (by omega) (by omega) (by omega)]; exact f_19
          have hm_520 : M_497 20 = some (aI G 120 ff) := by rw [hF_506 20 (by omega) (by omega) (by omega) (by omega) (by omega)]; exact f_20
          have hm_521 : M_497 21 = some (aI G 120 lq) := by rw [hF_506 21 (by omega) (by omega) (by omega) (by omega) (by omega)]; exact f_21
          have hm_522 : M_497 22 = some (cReader ad ra rb rt rv) := by rw [hF_506 22 (by omega) (by omega) (by omega) (by omega) (by omega)]; exact f_22
          have hm_523 : M_497 23 = some (cMatcher ad qm pz) := by rw [hF_506 23 (by omega) (by omega) (by omega) (by omega) (by omega)]; exact f_23
          have hm_524 : M_497 24 = some (aJ G 2160 sx) := by rw [hF_506 24 (by omega) (by omega) (by omega) (by omega) (by omega)]; exact f_24
          have hm_525 : M_497 25 = some (aI G 6 (nF ft)) := by rw [hF_506 25 (by omega) (by omega) (by omega) (by omega) (by omega)]; exact f_25
          have hm_526 : M_497 26 = some (aJ G 240 rx) := by rw [hF_506 26 (by omega) (by omega) (by omega) (by omega) (by omega)]; exact f_26
          have hm_527 : M_497 27 = some (aJ G 3 dm) := by rw [hF_506 27 (by omega) (by omega) (by omega) (by omega) (by omega)]; exact f_27
          have hm_528 : M_497 28 = some (aI G 3 rc) := by rw [hF_506 28 (by omega) (by omega) (by omega) (by omega) (by omega)]; exact f_28
          have hm_529 : M_497 qa = some (cQuestion ad qa ao vr) := by rw [hF_506 qa (by omega) (by omega) (by omega) (by omega) (by omega)]; exact f_qa
          have hm_530 : M_497 (qa + 1) = some (aI G 6 (nF kn)) := by rw [hF_506 (qa + 1) (by omega) (by omega) (by omega) (by omega) (by omega)]; exact f_qa_1
          have hm_531 : M_497 (qa + 2) = some (aZ G 6 (bF nq)) := by rw [hF_506 (qa + 2) (by omega) (by omega) (by omega) (by omega) (by omega)]; exact f_qa_2
          have hm_532 : M_497 (qa + 3) = some (aI G 6 (nF pn)) := by rw [hF_506 (qa + 3) (by omega) (by omega) (by omega) (by omega) (by omega)]; exact f_qa_3
          have hm_533 : M_497 (qa + 4) = some (aI G 6 (nF av)) := by rw [hF_506 (qa + 4) (by omega) (by omega) (by omega) (by omega) (by omega)]; exact f_qa_4
          have hm_534 : M_497 (qa + 5) = some (aI G 24 (nF ro)) := by rw [hF_506 (qa + 5) (by omega) (by omega) (by omega) (by omega) (by omega)]; exact f_qa_5
          have hm_535 : M_497 (qa + 6) = some (aI G 24 (nF te)) := by rw [hF_506 (qa + 6) (by omega) (by omega) (by omega) (by omega) (by omega)]; exact f_qa_6
          have hm_536 : M_497 qs = some (cQuestion ad qs sq su) := by rw [hF_506 qs (by omega) (by omega) (by omega) (by omega) (by omega)]; exact f_qs
          have hm_537 : M_497 (qs + 1) = some (aI G 6 (nF kb)) := by rw [hF_506 (qs + 1) (by omega) (by omega) (by omega) (by omega) (by omega)]; exact f_qs_1
          have hm_538 : M_497 (qs + 2) = some (aZ G 6 (bF nb)) := by rw [hF_506 (qs + 2) (by omega) (by omega) (by omega) (by omega) (by omega)]; exact f_qs_2
          have hm_539 : M_497 (qs + 3) = some (aI G 6 (nF pb)) := by rw [hF_506 (qs + 3) (by omega) (by omega) (by omega) (by omega) (by omega)]; exact f_qs_3
          have hm_540 : M_497 (qs + 4) = some (aI G 6 (nF ab)) := by rw [hF_506 (qs + 4) (by omega) (by omega) (by omega) (by omega) (by omega)]; exact f_qs_4
          have hm_541 : M_497 (qs + 5) = some (aI G 24 (nF rbb)) := by rw [hF_506 (qs + 5) (by omega) (by omega) (by omega) (by omega) (by omega)]; exact f_qs_5
          have hm_542 : M_497 (qs + 6) = some (aI G 24 (nF tbb)) := by rw [hF_506 (qs + 6) (by omega) (by omega) (by omega) (by omega) (by omega)]; exact f_qs_6
          have hm_543 : M_497 60 = some (cModel ad tw n jn ao vr sn len pt zs bg fw) := by rw [hF_506 60 (by omega) (by omega) (by omega) (by omega) (by omega)]; exact f_60
          have hm_544 : M_497 61 = some (aI G 36 (nF le)) := by rw [hF_506 61 (by omega) (by omega) (by omega) (by omega) (by omega)]; exact f_61
          have hm_545 : M_497 62 = some (aI G 36 (nF mo)) := by rw [hF_506 62 (by omega) (by omega) (by omega) (by omega) (by omega)]; exact f_62
          have hm_546 : M_497 63 = some (aI G 36 (nF al)) := by rw [hF_506 63 (by omega) (by omega) (by omega) (by omega) (by omega)]; exact f_63
          have hm_547 : M_497 64 = some (aZ G 6 (bF ho)) := by rw [hF_506 64 (by omega) (by omega) (by omega) (by omega) (by omega)]; exact f_64
          have hm_548 : M_497 65 = some (aI G 120 (nF mk)) := by rw [hF_506 65 (by omega) (by omega) (by omega) (by omega) (by omega)]; exact f_65
          have hm_549 : M_497 66 = some (aI G 120 mf) := by rw [hF_506 66 (by omega) (by omega) (by omega) (by omega) (by omega)]; exact f_66
          have hm_550 : M_497 67 = some (aI G 120 mu) := by rw [hF_506 67 (by omega) (by omega) (by omega) (by omega) (by omega)]; exact f_67
          have hm_551 : M_497 68 = some (aI G 121 (nF mz)) := by rw [hF_506 68 (by omega) (by omega) (by omega) (by omega) (by omega)]; exact f_68
          have hm_552 : M_497 69 = some (aI G 726 (nF rr)) := by rw [hF_506 69 (by omega) (by omega) (by omega) (by omega) (by omega)]; exact f_69
          have hm_553 : M_497 70 = some (aI G 726 (nF ee)) := by rw [hF_506 70 (by omega) (by omega) (by omega) (by omega) (by omega)]; exact f_70
          have hm_554 : M_497 71 = some (aI G 40 (nF lst)) := by rw [hF_506 71 (by omega) (by omega) (by omega) (by omega) (by omega)]; exact f_71
          have hm_555 : M_497 72 = some (aI G 40 (nF oa)) := by rw [hF_506 72 (by omega) (by omega) (by omega) (by omega) (by omega)]; exact f_72
          have hm_556 : M_497 73 = some (aI G 40 (nF ob)) := by rw [hF_506 73 (by omega) (by omega) (by omega) (by omega) (by omega)]; exact f_73
          have hm_557 : M_497 74 = some (aI G 120 s74) := by rw [hF_506 74 (by omega) (by omega) (by omega) (by omega) (by omega)]; exact f_74
          have hm_558 : M_497 75 = some (aI G 12 ak) := by rw [hF_506 75 (by omega) (by omega) (by omega) (by omega) (by omega)]; exact f_75
          have hm_559 : M_497 76 = some (aZ G 12 (bF nm)) := by rw [hF_506 76 (by omega) (by omega) (by omega) (by omega) (by omega)]; exact f_76
          have hm_560 : M_497 77 = some (aI G 12 (nF ap)) := by rw [hF_506 77 (by omega) (by omega) (by omega) (by omega) (by omega)]; exact f_77
          have hm_561 : M_497 78 = some (aI G 48 pr) := by rw [hF_506 78 (by omega) (by omega) (by omega) (by omega) (by omega)]; exact f_78
          have hm_562 : M_497 79 = some (aI G 48 pf) := by rw [hF_506 79 (by omega) (by omega) (by omega) (by omega) (by omega)]; exact f_79
          have hm_563 : M_497 80 = some (aB G 400 tf) := by rw [hF_506 80 (by omega) (by omega) (by omega) (by omega) (by omega)]; exact f_80
          have hm_564 : M_497 81 = some (aI G 5 fv) := by rw [hF_506 81 (by omega) (by omega) (by omega) (by omega) (by omega)]; exact f_81
          have hm_565 : M_497 82 = some (aZ G 384000 (bF tr)) := by rw [hF_506 82 (by omega) (by omega) (by omega) (by omega) (by omega)]; exact f_82
          have hm_566 : M_497 83 = some (aI G 3 (oF gv)) := by rw [hF_506 83 (by omega) (by omega) (by omega) (by omega) (by omega)]; exact f_83
          have hm_567 : M_497 84 = some (aI G 3 fo) := by rw [hF_506 84 (by omega) (by omega) (by omega) (by omega) (by omega)]; exact f_84
          have hm_568 : M_497 85 = some (aZ G 40 (bF re)) := by rw [hF_506 85 (by omega) (by omega) (by omega) (by omega) (by omega)]; exact f_85
          have hm_569 : M_497 86 = some (aZ G 120 (bF us)) := by rw [hF_506 86 (by omega) (by omega) (by omega) (by omega) (by omega)]; exact f_86
          have hm_570 : M_497 87 = some (aZ G 120 (bF nx)) := by rw [hF_506 87 (by omega) (by omega) (by omega) (by omega) (by omega)]; exact f_87
          have hm_571 : M_497 16 = some (cLines ad ) := by rw [hF_506 16 (by omega) (by omega) (by omega) (by omega) (by omega)]; exact h16
          have hL_572 : LSm G ad M_497 n kd fm to sz rl en := fL.keep (fun j hj => hF_506 j (by omega) (by omega) (by omega) (by omega) (by omega))
          have hF_573 : ∀ j : Nat, j ≠ 12 → j ≠ 13 → j ≠ 14 → j ≠ 15 → j ≠ 99 → M_497 j = M j := fun j q0 q1 q2 q3 q4 => (hF_506 j q0 q1 q2 q3 q4)
          rw [hr_500]
          refine lv_istore (lv' := [(5, .int (nI 0)), (0, .ref b), (1, .ref (ad 0)), (2, .ref (ad 60)), (3, .ref (ad 99)), (4, .int (nI i))]) hx hb dL_law_488 hl (by decide) rfl (fun ls hl => ?_)
          refine lv_aload_n hx hb dL_law_490 rfl (lv_at hl 3 rfl) ?_
          refine lv_aload_n hx hb dL_law_491 rfl (lv_at hl 1 rfl) ?_
          refine lv_iload hx hb dL_law_492 (lv_at hl 5 rfl) ?_
          refine lv_iconst (v := nI 1) hx hb dL_law_494 (by decide) ?_
          refine lv_iadd hx hb dL_law_495 ?_
          refine n_eq (nI_add i 1) ?_
          refine va_sld (A := fr z) hx hb hX hbl hbz hI.S (vp_in_nI (n := i + 1) (by omega) (by omega)) dL_law_496 ?_
          rw [nI_clamp (by omega)]
          refine n_eq (show _ = nI t1 from et1) ?_
          refine lv_aload_n hx hb dL_law_497 rfl (lv_at hl 1 rfl) ?_
          refine lv_iload hx hb dL_law_498 (lv_at hl 5 rfl) ?_
          refine lv_iconst (v := nI 2) hx hb dL_law_500 (by decide) ?_
          refine lv_iadd hx hb dL_law_501 ?_
          refine n_eq (nI_add i 2) ?_
          refine va_sld (A := fr z) hx hb hX hbl hbz hI.S (vp_in_nI (n := i + 2) (by omega) (by omega)) dL_law_502 ?_
          rw [nI_clamp (by omega)]
          refine lv_if_eq (tgt := 510) hx hb dL_law_503 (by decide) (fun c_574 => ?_) (fun c_574 => ?_)
          · -- 503: xs (i + 2) eq
            refine lv_iconst (v := nI 0) hx hb dL_law_510 (by decide) ?_
            refine n_eq (show _ = bI false from rfl) ?_
            refine lv_aload_n hx hb dL_law_511 rfl (lv_at hl 1 rfl) ?_
            refine lv_iload hx hb dL_law_512 (lv_at hl 5 rfl) ?_
            refine lv_iconst (v := nI 3) hx hb dL_law_514 (by decide) ?_
            refine lv_iadd hx hb dL_law_515 ?_
            refine n_eq (nI_add i 3) ?_
            refine va_sld (A := fr z) hx hb hX hbl hbz hI.S (vp_in_nI (n := i + 3) (by omega) (by omega)) dL_law_516 ?_
            rw [nI_clamp (by omega)]
            refine n_eq (show _ = nI t3 from et3) ?_
            refine k_Ni (va_runV (As := [.int (nI t1), .int (bI false), .int (nI t3)]) (rest := []) ⟨hx, hb, hml, hown, hts⟩ (c_X10_draft l G z ad M_497 (th := tw) (on := jn) (ao := ao) (vr := vr) (sn := sn) (tp := len) (pt := pt) (zs := zs) (bg := bg) (fa := fw) (n := n) (mz := mz) (rr := rr) (ee := ee) (x := t1) (b := false) (t := t3) hm_543 hm_551 hm_552 hm_553 hw1 ht1 (fun h => absurd h (by decide)) (fun _ => ht3) (by omega)) (cwV 3 hts (gV (lwg_of t_1153 rfl) (lwg_of t_1154 rfl) (lwg_of t_1155 rfl) (lwg_of t_13 rfl) (lwg_of t_1156 rfl)) rfl rfl rfl (by decide +kernel) ⟨Nat.le_of_ble_eq_true rfl, Nat.le_of_ble_eq_true rfl⟩) (hI.preV hm_543 rfl) rfl rfl hl.1 rfl (lv_room (Nat.le_of_ble_eq_true rfl)) dL_law_517 ⟨(show _ ≤ (601024 : Nat) from by omega), (show _ ≤ (7293034 : Nat) from by omega)⟩) hI (fun r_575 M_577 H_578 locs_579 hp_576 hI => ?_)
            obtain ⟨hr_580, hm_581, hm_582, hm_583, hm_584, hF_585⟩ := hp_576
            have hm_586 : M_577 0 = some (cStore ad qa qs fw) := by rw [hF_585 0 (by omega) (by omega) (by omega) (by omega)]; exact hm_507
            have hm_587 : M_577 1 = some (cTape ad len) := by rw [hF_585 1 (by omega) (by omega) (by omega) (by omega)]; exact hm_508
            have hm_588 : M_577 2 = some (aI G 400 (nF tb)) := by rw [hF_585 2 (by omega) (by omega) (by omega) (by omega)]; exact hm_509
            have hm_589 : M_577 3 = some (cLaws ad ) := by rw [hF_585 3 (by omega) (by omega) (by omega) (by omega)]; exact hm_510
            have hm_590 : M_577 4 = some (aI G 36 (nF le)) := by rw [hF_585 4 (by omega) (by omega) (by omega) (by omega)]; exact hm_511
            have hm_591 : M_577 5 = some (aI G 36 (nF mo)) := by rw [hF_585 5 (by omega) (by omega) (by omega) (by omega)]; exact hm_512
            have hm_592 : M_577 6 = some (aI G 36 (nF al)) := by rw [hF_585 6 (by omega) (by omega) (by omega) (by omega)]; exact hm_513
            have hm_593 : M_577 7 = some (aZ G 6 (bF ho)) := by rw [hF_585 7 (by omega) (by omega) (by omega) (by omega)]; exact hm_514
            have hm_594 : M_577 8 = some (cOnes ad jn) := by rw [hF_585 8 (by omega) (by omega) (by omega) (by omega)]; exact hm_515
            have hm_595 : M_577 9 = some (aI G 40 (nF hg)) := by rw [hF_585 9 (by omega) (by omega) (by omega) (by omega)]; exact hm_516
            have hm_596 : M_577 10 = some (aI G 40 (nF lst)) := by rw [hF_585 10 (by omega) (by omega) (by omega) (by omega)]; exact hm_517
            have hm_597 : M_577 11 = some (aI G 40 (nF jd)) := by rw [hF_585 11 (by omega) (by omega) (by omega) (by omega)]; exact hm_518
            have hm_598 : M_577 12 = some (cEnds ad 12 (s0 + 1)) := by rw [hF_585 12 (by omega) (by omega) (by omega) (by omega)]; exact hm_501
            have hm_599 : M_577 13 = some (aI G 6 (nF (va_up r0 s0 t1))) := by rw [hF_585 13 (by omega) (by omega) (by omega) (by omega)]; exact hm_502
            have hm_600 : M_577 14 = some (aI G 6 (oF (va_up th s0 (if false = true then none else some t3)))) := by rw [hF_585 14 (by omega) (by omega) (by omega) (by omega)]; exact hm_503
            have hm_601 : M_577 15 = some (aI G 6 (oF (va_up ol s0 (if false = true then some t3 else none)))) := by rw [hF_585 15 (by omega) (by omega) (by omega) (by omega)]; exact hm_504
            have hm_602 : M_577 19 = some (aZ G 120 (bF mm9)) := by rw [hF_585 19 (by omega) (by omega) (by omega) (by omega)]; exact hm_519
            have hm_603 : M_577 20 = some (aI G 120 ff) := by rw [hF_585 20 (by omega) (by omega) (by omega) (by omega)]; exact hm_520
            have hm_604 : M_577 21 = some (aI G 120 lq) := by rw [hF_585 21 (by omega) (by omega) (by omega) (by omega)]; exact hm_521
            have hm_605 : M_577 22 = some (cReader ad ra rb rt rv) := by rw [hF_585 22 (by omega) (by omega) (by omega) (by omega)]; exact hm_522
            have hm_606 : M_577 23 = some (cMatcher ad qm pz) := by rw [hF_585 23 (by omega) (by omega) (by omega) (by omega)]; exact hm_523
            have hm_607 : M_577 24 = some (aJ G 2160 sx) := by rw [hF_585 24 (by omega) (by omega) (by omega) (by omega)]; exact hm_524
            have hm_608 : M_577 25 = some (aI G 6 (nF ft)) := by rw [hF_585 25 (by omega) (by omega) (by omega) (by omega)]; exact hm_525
            have hm_609 : M_577 26 = some (aJ G 240 rx) := by rw [hF_585 26 (by omega) (by omega) (by omega) (by omega)]; exact hm_526
            have hm_610 : M_577 27 = some (aJ G 3 dm) := by rw [hF_585 27 (by omega) (by omega) (by omega) (by omega)]; exact hm_527
            have hm_611 : M_577 28 = some (aI G 3 rc) := by rw [hF_585 28 (by omega) (by omega) (by omega) (by omega)]; exact hm_528
            have hm_612 : M_577 qa = some (cQuestion ad qa ao vr) := by rw [hF_585 qa (by omega) (by omega) (by omega) (by omega)]; exact hm_529
            have hm_613 : M_577 (qa + 1) = some (aI G 6 (nF kn)) := by rw [hF_585 (qa + 1) (by omega) (by omega) (by omega) (by omega)]; exact hm_530
            have hm_614 : M_577 (qa + 2) = some (aZ G 6 (bF nq)) := by rw [hF_585 (qa + 2) (by omega) (by omega) (by omega) (by omega)]; exact hm_531
            have hm_615 : M_577 (qa + 3) = some (aI G 6 (nF pn)) := by rw [hF_585 (qa + 3) (by omega) (by omega) (by omega) (by omega)]; exact hm_532
            have hm_616 : M_577 (qa + 4) = some (aI G 6 (nF av)) := by rw [hF_585 (qa + 4) (by omega) (by omega) (by omega) (by omega)]; exact hm_533
            have hm_617 : M_577 (qa + 5) = some (aI G 24 (nF ro)) := by rw [hF_585 (qa + 5) (by omega) (by omega) (by omega) (by omega)]; exact hm_534
            have hm_618 : M_577 (qa + 6) = some (aI G 24 (nF te)) := by rw [hF_585 (qa + 6) (by omega) (by omega) (by omega) (by omega)]; exact hm_535
            have hm_619 : M_577 qs = some (cQuestion ad qs sq su) := by rw [hF_585 qs (by omega) (by omega) (by omega) (by omega)]; exact hm_536
            have hm_620 : M_577 (qs + 1) = some (aI G 6 (nF kb)) := by rw [hF_585 (qs + 1) (by omega) (by omega) (by omega) (by omega)]; exact hm_537
            have hm_621 : M_577 (qs + 2) = some (aZ G 6 (bF nb)) := by rw [hF_585 (qs + 2) (by omega) (by omega) (by omega) (by omega)]; exact hm_538
            have hm_622 : M_577 (qs + 3) = some (aI G 6 (nF pb)) := by rw [hF_585 (qs + 3) (by omega) (by omega) (by omega) (by omega)]; exact hm_539
            have hm_623 : M_577 (qs + 4) = some (aI G 6 (nF ab)) := by rw [hF_585 (qs + 4) (by omega) (by omega) (by omega) (by omega)]; exact hm_540
            have hm_624 : M_577 (qs + 5) = some (aI G 24 (nF rbb)) := by rw [hF_585 (qs + 5) (by omega) (by omega) (by omega) (by omega)]; exact hm_541
            have hm_625 : M_577 (qs + 6) = some (aI G 24 (nF tbb)) := by rw [hF_585 (qs + 6) (by omega) (by omega) (by omega) (by omega)]; exact hm_542
            have hm_626 : M_577 61 = some (aI G 36 (nF le)) := by rw [hF_585 61 (by omega) (by omega) (by omega) (by omega)]; exact hm_544
            have hm_627 : M_577 62 = some (aI G 36 (nF mo)) := by rw [hF_585 62 (by omega) (by omega) (by omega) (by omega)]; exact hm_545
            have hm_628 : M_577 63 = some (aI G 36 (nF al)) := by rw [hF_585 63 (by omega) (by omega) (by omega) (by omega)]; exact hm_546
            have hm_629 : M_577 64 = some (aZ G 6 (bF ho)) := by rw [hF_585 64 (by omega) (by omega) (by omega) (by omega)]; exact hm_547
            have hm_630 : M_577 65 = some (aI G 120 (nF mk)) := by rw [hF_585 65 (by omega) (by omega) (by omega) (by omega)]; exact hm_548
            have hm_631 : M_577 66 = some (aI G 120 mf) := by rw [hF_585 66 (by omega) (by omega) (by omega) (by omega)]; exact hm_549
            have hm_632 : M_577 67 = some (aI G 120 mu) := by rw [hF_585 67 (by omega) (by omega) (by omega) (by omega)]; exact hm_550
            have hm_633 : M_577 71 = some (aI G 40 (nF lst)) := by rw [hF_585 71 (by omega) (by omega) (by omega) (by omega)]; exact hm_554
            have hm_634 : M_577 72 = some (aI G 40 (nF oa)) := by rw [hF_585 72 (by omega) (by omega) (by omega) (by omega)]; exact hm_555
            have hm_635 : M_577 73 = some (aI G 40 (nF ob)) := by rw [hF_585 73 (by omega) (by omega) (by omega) (by omega)]; exact hm_556
            have hm_636 : M_577 74 = some (aI G 120 s74) := by rw [hF_585 74 (by omega) (by omega) (by omega) (by omega)]; exact hm_557
            have hm_637 : M_577 75 = some (aI G 12 ak) := by rw [hF_585 75 (by omega) (by omega) (by omega) (by omega)]; exact hm_558
            have hm_638 : M_577 76 = some (aZ G 12 (bF nm)) := by rw [hF_585 76 (by omega) (by omega) (by omega) (by omega)]; exact hm_559
            have hm_639 : M_577 77 = some (aI G 12 (nF ap)) := by rw [hF_585 77 (by omega) (by omega) (by omega) (by omega)]; exact hm_560
            have hm_640 : M_577 78 = some (aI G 48 pr) := by rw [hF_585 78 (by omega) (by omega) (by omega) (by omega)]; exact hm_561
            have hm_641 : M_577 79 = some (aI G 48 pf) := by rw [hF_585 79 (by omega) (by omega) (by omega) (by omega)]; exact hm_562
            have hm_642 : M_577 80 = some (aB G 400 tf) := by rw [hF_585 80 (by omega) (by omega) (by omega) (by omega)]; exact hm_563
            have hm_643 : M_577 81 = some (aI G 5 fv) := by rw [hF_585 81 (by omega) (by omega) (by omega) (by omega)]; exact hm_564
            have hm_644 : M_577 82 = some (aZ G 384000 (bF tr)) := by rw [hF_585 82 (by omega) (by omega) (by omega) (by omega)]; exact hm_565
            have hm_645 : M_577 83 = some (aI G 3 (oF gv)) := by rw [hF_585 83 (by omega) (by omega) (by omega) (by omega)]; exact hm_566
            have hm_646 : M_577 84 = some (aI G 3 fo) := by rw [hF_585 84 (by omega) (by omega) (by omega) (by omega)]; exact hm_567
            have hm_647 : M_577 85 = some (aZ G 40 (bF re)) := by rw [hF_585 85 (by omega) (by omega) (by omega) (by omega)]; exact hm_568
            have hm_648 : M_577 86 = some (aZ G 120 (bF us)) := by rw [hF_585 86 (by omega) (by omega) (by omega) (by omega)]; exact hm_569
            have hm_649 : M_577 87 = some (aZ G 120 (bF nx)) := by rw [hF_585 87 (by omega) (by omega) (by omega) (by omega)]; exact hm_570
            have hm_650 : M_577 99 = some (aJ G 1 (vp_updL of 0 ((nI (s0 + 1)).toInt64))) := by rw [hF_585 99 (by omega) (by omega) (by omega) (by omega)]; exact hm_505
            have hm_651 : M_577 16 = some (cLines ad ) := by rw [hF_585 16 (by omega) (by omega) (by omega) (by omega)]; exact hm_571
            have hL_652 : LSm G ad M_577 n kd fm to sz rl en := hL_572.keep (fun j hj => hF_585 j (by omega) (by omega) (by omega) (by omega))
            have hF_653 : ∀ j : Nat, j ≠ 12 → j ≠ 13 → j ≠ 14 → j ≠ 15 → j ≠ 99 → j ≠ 60 → j ≠ 68 → j ≠ 69 → j ≠ 70 → M_577 j = M j := fun j q0 q1 q2 q3 q4 q5 q6 q7 q8 => (hF_585 j q5 q6 q7 q8).trans (hF_573 j q0 q1 q2 q3 q4)
            rw [hr_580]
            refine lv_istore (lv' := [(6, .int (nI (mz 120 + 1))), (5, .int (nI 0)), (0, .ref b), (1, .ref (ad 0)), (2, .ref (ad 60)), (3, .ref (ad 99)), (4, .int (nI i))]) hx hb dL_law_520 hl (by decide) rfl (fun ls hl => ?_)
            refine lv_aload_n hx hb dL_law_522 rfl (lv_at hl 4 rfl) ?_
            refine k_Ri (va_runV (As := []) (rest := []) ⟨hx, hb, hml, hown, hts⟩ (c_X10_thrown l G z ad M_577 (th := 0) (ln := n) (on := jn) (ao := ao) (vr := vr) (sn := sn) (tp := len) (pt := pt) (zs := zs) (bg := bg) (fa := fw) hm_581) (cwV 0 hts (gV (lwg_of t_997 rfl) (lwg_of t_998 rfl) (lwg_of t_999 rfl) (lwg_of t_13 rfl) (lwg_of t_1000 rfl)) rfl rfl rfl (by decide +kernel) ⟨Nat.le_of_ble_eq_true rfl, Nat.le_of_ble_eq_true rfl⟩) (hI.preV hm_581 rfl) rfl rfl hl.1 rfl (lv_room (Nat.le_of_ble_eq_true rfl)) dL_law_523 ⟨(show _ ≤ (601024 : Nat) from by omega), (show _ ≤ (7293034 : Nat) from by omega)⟩) (fun _ h => h) (fun r_654 hp_655 => ?_)
            rw [hp_655]
            refine lv_iload hx hb dL_law_526 (lv_at hl 1 rfl) ?_
            refine lv_icmp_eq (tgt := 533) hx hb dL_law_528 (by decide) (fun c_656 => ?_) (fun c_656 => ?_)
            · -- 528: nI 0 eq
              refine lv_iload hx hb dL_law_533 (lv_at hl 1 rfl) ?_
              refine lv_if_ne (tgt := 550) hx hb dL_law_535 (by decide) (fun c_657 => ?_) (fun c_657 => ?_)
              · -- 535: nI 0 ne
                exact absurd (by decide) c_657
              · -- 535: nI 0 eq
                refine lv_aload_n hx hb dL_law_538 rfl (lv_at hl 5 rfl) ?_
                refine lv_iconst (v := nI 0) hx hb dL_law_539 (by decide) ?_
                refine h_lald (i := 0) hx hb hI hm_650 (by omega) (by decide) dL_law_540 ?_
                refine n_eql (show _ = (nI (mz 120 + 1)).toInt64 from updL_0.trans (by rw [w8])) ?_
                refine lv_iload hx hb dL_law_541 (lv_at hl 0 rfl) ?_
                refine lv_i2l (v := (nI (mz 120 + 1)).toInt64) hx hb dL_law_543 rfl ?_
                refine W.lcmp hx hb dL_law_544 ?_
                refine lv_if_eq (tgt := 550) hx hb dL_law_545 (by decide) (fun c_658 => ?_) (fun c_658 => ?_)
                · -- 545: lg_cmp ((nI (mz 120 + 1)).toInt64) ((nI (mz 120 + 1)).toInt6 eq
                  have c_658 : (nI (mz 120 + 1)).toInt64 = (nI (mz 120 + 1)).toInt64 := (lg_cmp_eq _ _).mp c_658
                  refine lv_goto (tgt := 1333) hx hb dL_law_550 (by decide) ?_
                  refine W.widen (k := cz + 10) (n := sy + 300) (by omega) (by omega) ?_
                  exact kk ad M_577 H_578 locs_579 ls n kd fm to sz rl en qa qs fw len tb le mo al ho jn hg lst jd (s0 + 1) (va_up r0 s0 t1) (va_up th s0 (if false = true then none else some t3)) (va_up ol s0 (if false = true then some t3 else none)) (va_up e0 s0 (if false = true then 40 + t3 else t3)) mm9 ff lq ra rb rt rv qm pz sx ft rx dm rc ao vr kn nq pn av ro te sq su kb nb pb ab rbb tbb 0 sn pt zs bg mk mf mu (va_up mz 120 (mz 120 + 1)) (va_up rr (720 + mz 120) t1) (va_up ee (720 + mz 120) (if false = true then 40 + t3 else t3)) oa ob s74 ak nm ap pr pf tf fv tr gv fo re us nx (vp_updL of 0 ((nI (s0 + 1)).toInt64)) hL_652 w1 (mrel_dr w2 w1) w3 w4 w5 w6 (by omega) ((va_up_self _ _ _).trans (by rw [w8])) (dr9 w8 w9) (up_ltS w10 ht1) (up_ltS w11 (e_lt false t3 n (fun h => absurd h (by decide)) (fun _ => ht3))) (dr12 (T := thE) (t := thT) (fun _ _ => rfl) w12 (thv false t3 (fun h => absurd h (by decide)) (fun _ => ht3))) (dr12 (T := olE) (t := olT) (fun _ _ => rfl) w13 (olv false t3 (fun h => absurd h (by decide)) (fun _ => ht3))) w14 w15 w16 w17 w18 w19 w20 w21 w22 w23 w24 w25 w26 w27 w28 w29 (fun h9 => by rw [hF_653 17 (by omega) (by omega) (by omega) (by omega) (by omega) (by omega) (by omega) (by omega) (by omega), hF_653 18 (by omega) (by omega) (by omega) (by omega) (by omega) (by omega) (by omega) (by omega) (by omega)]; exact w30 h9) (by rw [hF_653 29 (by omega) (by omega) (by omega) (by omega) (by omega) (by omega) (by omega) (by omega) (by omega)]; exact w31) (fun j9 h9 => by rw [hF_653 j9 (by omega) (by omega) (by omega) (by omega) (by omega) (by omega) (by omega) (by omega) (by omega)]; exact w32 j9 h9) hm_586 hm_587 hm_588 hm_589 hm_590 hm_591 hm_592 hm_593 hm_594 hm_595 hm_596 hm_597 hm_598 hm_599 hm_600 hm_601 hm_602 hm_603 hm_604 hm_605 hm_606 hm_607 hm_608 hm_609 hm_610 hm_611 hm_612 hm_613 hm_614 hm_615 hm_616 hm_617 hm_618 hm_619 hm_620 hm_621 hm_622 hm_623 hm_624 hm_625 hm_581 hm_626 hm_627 hm_628 hm_629 hm_630 hm_631 hm_632 hm_582 hm_583 hm_584 hm_633 hm_634 hm_635 hm_636 hm_637 hm_638 hm_639 hm_640 hm_641 hm_642 hm_643 hm_644 hm_645 hm_646 hm_647 hm_648 hm_649 hm_650 hI (lv_sub hl [2, 3, 4, 5, 6] rfl)
                · -- 545: lg_cmp ((nI (mz 120 + 1)).toInt64) ((nI (mz 120 + 1)).toInt6 ne
                  have c_658 : (nI (mz 120 + 1)).toInt64 ≠ (nI (mz 120 + 1)).toInt64 := (fun h => c_658 ((lg_cmp_eq _ _).mpr h))
                  exact absurd rfl c_658
            · -- 528: nI 0 ne
              exact absurd (by decide) c_656
          · -- 503: xs (i + 2) ne
            exact absurd (by assumption) c_574
        · skip
          refine lv_iadd hx hb dL_law_482 ?_
          refine n_eq (nI_add i 3) ?_
          refine va_sld (A := fr z) hx hb hX hbl hbz hI.S (vp_in_nI (n := i + 3) (by omega) (by omega)) dL_law_483 ?_
          rw [nI_clamp (by omega)]
          refine n_eq (show _ = nI t3 from et3) ?_
          refine lv_aload_n hx hb dL_law_484 rfl (lv_at hl 3 rfl) ?_
          refine k_Ni (vx_runSW (As := [.ref (ad 0), .int (nI t1), .int (bI false), .int (nI t3), .ref (ad 99)]) (rest := []) ⟨hx, hb, hml, hown, hts⟩ (c_L_draft_full l hst G z ad M (n := n) (kd := kd) (fm := fm) (to := to) (sz := sz) (rl := rl) (en := en) (qa := qa) (qs := qs) (fw := fw) (s0 := s0) (x := t1) (b := false) (t := t3) (of := of) fL f_0 f_12 f_99 w1 ht1 (fun h => absurd h (by decide)) (fun _ => ht3) (by omega)) (vx_cwSW 5 hts (gSW (lwg_of t_596 rfl) (lwg_of t_597 rfl) (lwg_of t_0 rfl) (lwg_of t_598 rfl)) rfl rfl rfl (by decide +kernel) ⟨Nat.le_of_ble_eq_true rfl, Nat.le_of_ble_eq_true rfl⟩) hI.preS rfl rfl hl.1 rfl (lv_room (Nat.le_of_ble_eq_true rfl)) dL_law_485 ⟨(show _ ≤ (601024 : Nat) from by omega), (show _ ≤ (7293034 : Nat) from by omega)⟩) hI (fun r_659 M_661 H_662 locs_663 hp_660 hI => ?_)
          obtain ⟨hr_664, hm_665, hF_666⟩ := hp_660
          have hm_667 : M_661 0 = some (cStore ad qa qs fw) := by rw [hF_666 0 (by omega)]; exact f_0
          have hm_668 : M_661 1 = some (cTape ad len) := by rw [hF_666 1 (by omega)]; exact f_1
          have hm_669 : M_661 2 = some (aI G 400 (nF tb)) := by rw [hF_666 2 (by omega)]; exact f_2
          have hm_670 : M_661 3 = some (cLaws ad ) := by rw [hF_666 3 (by omega)]; exact f_3
          have hm_671 : M_661 4 = some (aI G 36 (nF le)) := by rw [hF_666 4 (by omega)]; exact f_4
          have hm_672 : M_661 5 = some (aI G 36 (nF mo)) := by rw [hF_666 5 (by omega)]; exact f_5
          have hm_673 : M_661 6 = some (aI G 36 (nF al)) := by rw [hF_666 6 (by omega)]; exact f_6
          have hm_674 : M_661 7 = some (aZ G 6 (bF ho)) := by rw [hF_666 7 (by omega)]; exact f_7
          have hm_675 : M_661 8 = some (cOnes ad jn) := by rw [hF_666 8 (by omega)]; exact f_8
          have hm_676 : M_661 9 = some (aI G 40 (nF hg)) := by rw [hF_666 9 (by omega)]; exact f_9
          have hm_677 : M_661 10 = some (aI G 40 (nF lst)) := by rw [hF_666 10 (by omega)]; exact f_10
          have hm_678 : M_661 11 = some (aI G 40 (nF jd)) := by rw [hF_666 11 (by omega)]; exact f_11
          have hm_679 : M_661 12 = some (cEnds ad 12 s0) := by rw [hF_666 12 (by omega)]; exact f_12
          have hm_680 : M_661 13 = some (aI G 6 (nF r0)) := by rw [hF_666 13 (by omega)]; exact f_13
          have hm_681 : M_661 14 = some (aI G 6 (oF th)) := by rw [hF_666 14 (by omega)]; exact f_14
          have hm_682 : M_661 15 = some (aI G 6 (oF ol)) := by rw [hF_666 15 (by omega)]; exact f_15
          have hm_683 : M_661 19 = some (aZ G 120 (bF mm9)) := by rw [hF_666 19 (by omega)]; exact f_19
          have hm_684 : M_661 20 = some (aI G 120 ff) := by rw [hF_666 20 (by omega)]; exact f_20
          have hm_685 : M_661 21 = some (aI G 120 lq) := by rw [hF_666 21 (by omega)]; exact f_21
          have hm_686 : M_661 22 = some (cReader ad ra rb rt rv) := by rw [hF_666 22 (by omega)]; exact f_22
          have hm_687 : M_661 23 = some (cMatcher ad qm pz) := by rw [hF_666 23 (by omega)]; exact f_23
          have hm_688 : M_661 24 = some (aJ G 2160 sx) := by rw [hF_666 24 (by omega)]; exact f_24
          have hm_689 : M_661 25 = some (aI G 6 (nF ft)) := by rw [hF_666 25 (by omega)]; exact f_25
          have hm_690 : M_661 26 = some (aJ G 240 rx) := by rw [hF_666 26 (by omega)]; exact f_26
          have hm_691 : M_661 27 = some (aJ G 3 dm) := by rw [hF_666 27 (by omega)]; exact f_27
          have hm_692 : M_661 28 = some (aI G 3 rc) := by rw [hF_666 28 (by omega)]; exact f_28
          have hm_693 : M_661 qa = some (cQuestion ad qa ao vr) := by rw [hF_666 qa (by omega)]; exact f_qa
          have hm_694 : M_661 (qa + 1) = some (aI G 6 (nF kn)) := by rw [hF_666 (qa + 1) (by omega)]; exact f_qa_1
          have hm_695 : M_661 (qa + 2) = some (aZ G 6 (bF nq)) := by rw [hF_666 (qa + 2) (by omega)]; exact f_qa_2
          have hm_696 : M_661 (qa + 3) = some (aI G 6 (nF pn)) := by rw [hF_666 (qa + 3) (by omega)]; exact f_qa_3
          have hm_697 : M_661 (qa + 4) = some (aI G 6 (nF av)) := by rw [hF_666 (qa + 4) (by omega)]; exact f_qa_4
          have hm_698 : M_661 (qa + 5) = some (aI G 24 (nF ro)) := by rw [hF_666 (qa + 5) (by omega)]; exact f_qa_5
          have hm_699 : M_661 (qa + 6) = some (aI G 24 (nF te)) := by rw [hF_666 (qa + 6) (by omega)]; exact f_qa_6
          have hm_700 : M_661 qs = some (cQuestion ad qs sq su) := by rw [hF_666 qs (by omega)]; exact f_qs
          have hm_701 : M_661 (qs + 1) = some (aI G 6 (nF kb)) := by rw [hF_666 (qs + 1) (by omega)]; exact f_qs_1
          have hm_702 : M_661 (qs + 2) = some (aZ G 6 (bF nb)) := by rw [hF_666 (qs + 2) (by omega)]; exact f_qs_2
          have hm_703 : M_661 (qs + 3) = some (aI G 6 (nF pb)) := by rw [hF_666 (qs + 3) (by omega)]; exact f_qs_3
          have hm_704 : M_661 (qs + 4) = some (aI G 6 (nF ab)) := by rw [hF_666 (qs + 4) (by omega)]; exact f_qs_4
          have hm_705 : M_661 (qs + 5) = some (aI G 24 (nF rbb)) := by rw [hF_666 (qs + 5) (by omega)]; exact f_qs_5
          have hm_706 : M_661 (qs + 6) = some (aI G 24 (nF tbb)) := by rw [hF_666 (qs + 6) (by omega)]; exact f_qs_6
          have hm_707 : M_661 60 = some (cModel ad tw n jn ao vr sn len pt zs bg fw) := by rw [hF_666 60 (by omega)]; exact f_60
          have hm_708 : M_661 61 = some (aI G 36 (nF le)) := by rw [hF_666 61 (by omega)]; exact f_61
          have hm_709 : M_661 62 = some (aI G 36 (nF mo)) := by rw [hF_666 62 (by omega)]; exact f_62
          have hm_710 : M_661 63 = some (aI G 36 (nF al)) := by rw [hF_666 63 (by omega)]; exact f_63
          have hm_711 : M_661 64 = some (aZ G 6 (bF ho)) := by rw [hF_666 64 (by omega)]; exact f_64
          have hm_712 : M_661 65 = some (aI G 120 (nF mk)) := by rw [hF_666 65 (by omega)]; exact f_65
          have hm_713 : M_661 66 = some (aI G 120 mf) := by rw [hF_666 66 (by omega)]; exact f_66
          have hm_714 : M_661 67 = some (aI G 120 mu) := by rw [hF_666 67 (by omega)]; exact f_67
          have hm_715 : M_661 68 = some (aI G 121 (nF mz)) := by rw [hF_666 68 (by omega)]; exact f_68
          have hm_716 : M_661 69 = some (aI G 726 (nF rr)) := by rw [hF_666 69 (by omega)]; exact f_69
          have hm_717 : M_661 70 = some (aI G 726 (nF ee)) := by rw [hF_666 70 (by omega)]; exact f_70
          have hm_718 : M_661 71 = some (aI G 40 (nF lst)) := by rw [hF_666 71 (by omega)]; exact f_71
          have hm_719 : M_661 72 = some (aI G 40 (nF oa)) := by rw [hF_666 72 (by omega)]; exact f_72
          have hm_720 : M_661 73 = some (aI G 40 (nF ob)) := by rw [hF_666 73 (by omega)]; exact f_73
          have hm_721 : M_661 74 = some (aI G 120 s74) := by rw [hF_666 74 (by omega)]; exact f_74
          have hm_722 : M_661 75 = some (aI G 12 ak) := by rw [hF_666 75 (by omega)]; exact f_75
          have hm_723 : M_661 76 = some (aZ G 12 (bF nm)) := by rw [hF_666 76 (by omega)]; exact f_76
          have hm_724 : M_661 77 = some (aI G 12 (nF ap)) := by rw [hF_666 77 (by omega)]; exact f_77
          have hm_725 : M_661 78 = some (aI G 48 pr) := by rw [hF_666 78 (by omega)]; exact f_78
          have hm_726 : M_661 79 = some (aI G 48 pf) := by rw [hF_666 79 (by omega)]; exact f_79
          have hm_727 : M_661 80 = some (aB G 400 tf) := by rw [hF_666 80 (by omega)]; exact f_80
          have hm_728 : M_661 81 = some (aI G 5 fv) := by rw [hF_666 81 (by omega)]; exact f_81
          have hm_729 : M_661 82 = some (aZ G 384000 (bF tr)) := by rw [hF_666 82 (by omega)]; exact f_82
          have hm_730 : M_661 83 = some (aI G 3 (oF gv)) := by rw [hF_666 83 (by omega)]; exact f_83
          have hm_731 : M_661 84 = some (aI G 3 fo) := by rw [hF_666 84 (by omega)]; exact f_84
          have hm_732 : M_661 85 = some (aZ G 40 (bF re)) := by rw [hF_666 85 (by omega)]; exact f_85
          have hm_733 : M_661 86 = some (aZ G 120 (bF us)) := by rw [hF_666 86 (by omega)]; exact f_86
          have hm_734 : M_661 87 = some (aZ G 120 (bF nx)) := by rw [hF_666 87 (by omega)]; exact f_87
          have hm_735 : M_661 16 = some (cLines ad ) := by rw [hF_666 16 (by omega)]; exact h16
          have hL_736 : LSm G ad M_661 n kd fm to sz rl en := fL.keep (fun j hj => hF_666 j (by omega))
          have hF_737 : ∀ j : Nat, j ≠ 99 → M_661 j = M j := fun j q0 => (hF_666 j q0)
          rw [hr_664]
          refine lv_istore (lv' := [(5, .int (nI 0)), (0, .ref b), (1, .ref (ad 0)), (2, .ref (ad 60)), (3, .ref (ad 99)), (4, .int (nI i))]) hx hb dL_law_488 hl (by decide) rfl (fun ls hl => ?_)
          refine lv_aload_n hx hb dL_law_490 rfl (lv_at hl 3 rfl) ?_
          refine lv_aload_n hx hb dL_law_491 rfl (lv_at hl 1 rfl) ?_
          refine lv_iload hx hb dL_law_492 (lv_at hl 5 rfl) ?_
          refine lv_iconst (v := nI 1) hx hb dL_law_494 (by decide) ?_
          refine lv_iadd hx hb dL_law_495 ?_
          refine n_eq (nI_add i 1) ?_
          refine va_sld (A := fr z) hx hb hX hbl hbz hI.S (vp_in_nI (n := i + 1) (by omega) (by omega)) dL_law_496 ?_
          rw [nI_clamp (by omega)]
          refine n_eq (show _ = nI t1 from et1) ?_
          refine lv_aload_n hx hb dL_law_497 rfl (lv_at hl 1 rfl) ?_
          refine lv_iload hx hb dL_law_498 (lv_at hl 5 rfl) ?_
          refine lv_iconst (v := nI 2) hx hb dL_law_500 (by decide) ?_
          refine lv_iadd hx hb dL_law_501 ?_
          refine n_eq (nI_add i 2) ?_
          refine va_sld (A := fr z) hx hb hX hbl hbz hI.S (vp_in_nI (n := i + 2) (by omega) (by omega)) dL_law_502 ?_
          rw [nI_clamp (by omega)]
          refine lv_if_eq (tgt := 510) hx hb dL_law_503 (by decide) (fun c_738 => ?_) (fun c_738 => ?_)
          · -- 503: xs (i + 2) eq
            refine lv_iconst (v := nI 0) hx hb dL_law_510 (by decide) ?_
            refine n_eq (show _ = bI false from rfl) ?_
            refine lv_aload_n hx hb dL_law_511 rfl (lv_at hl 1 rfl) ?_
            refine lv_iload hx hb dL_law_512 (lv_at hl 5 rfl) ?_
            refine lv_iconst (v := nI 3) hx hb dL_law_514 (by decide) ?_
            refine lv_iadd hx hb dL_law_515 ?_
            refine n_eq (nI_add i 3) ?_
            refine va_sld (A := fr z) hx hb hX hbl hbz hI.S (vp_in_nI (n := i + 3) (by omega) (by omega)) dL_law_516 ?_
            rw [nI_clamp (by omega)]
            refine n_eq (show _ = nI t3 from et3) ?_
            refine k_Ni (va_runV (As := [.int (nI t1), .int (bI false), .int (nI t3)]) (rest := []) ⟨hx, hb, hml, hown, hts⟩ (c_X10_draft_full l G z ad M_661 (th := tw) (on := jn) (ao := ao) (vr := vr) (sn := sn) (tp := len) (pt := pt) (zs := zs) (bg := bg) (fa := fw) (n := n) (mz := mz) (rr := rr) (ee := ee) (x := t1) (b := false) (t := t3) hm_707 hm_715 hw1 ht1 (fun h => absurd h (by decide)) (fun _ => ht3) (by omega)) (cwV 3 hts (gV (lwg_of t_1153 rfl) (lwg_of t_1154 rfl) (lwg_of t_1155 rfl) (lwg_of t_13 rfl) (lwg_of t_1156 rfl)) rfl rfl rfl (by decide +kernel) ⟨Nat.le_of_ble_eq_true rfl, Nat.le_of_ble_eq_true rfl⟩) (hI.preV hm_707 rfl) rfl rfl hl.1 rfl (lv_room (Nat.le_of_ble_eq_true rfl)) dL_law_517 ⟨(show _ ≤ (601024 : Nat) from by omega), (show _ ≤ (7293034 : Nat) from by omega)⟩) hI (fun r_739 M_741 H_742 locs_743 hp_740 hI => ?_)
            obtain ⟨hr_744, hm_745, hF_746⟩ := hp_740
            have hm_747 : M_741 0 = some (cStore ad qa qs fw) := by rw [hF_746 0 (by omega)]; exact hm_667
            have hm_748 : M_741 1 = some (cTape ad len) := by rw [hF_746 1 (by omega)]; exact hm_668
            have hm_749 : M_741 2 = some (aI G 400 (nF tb)) := by rw [hF_746 2 (by omega)]; exact hm_669
            have hm_750 : M_741 3 = some (cLaws ad ) := by rw [hF_746 3 (by omega)]; exact hm_670
            have hm_751 : M_741 4 = some (aI G 36 (nF le)) := by rw [hF_746 4 (by omega)]; exact hm_671
            have hm_752 : M_741 5 = some (aI G 36 (nF mo)) := by rw [hF_746 5 (by omega)]; exact hm_672
            have hm_753 : M_741 6 = some (aI G 36 (nF al)) := by rw [hF_746 6 (by omega)]; exact hm_673
            have hm_754 : M_741 7 = some (aZ G 6 (bF ho)) := by rw [hF_746 7 (by omega)]; exact hm_674
            have hm_755 : M_741 8 = some (cOnes ad jn) := by rw [hF_746 8 (by omega)]; exact hm_675
            have hm_756 : M_741 9 = some (aI G 40 (nF hg)) := by rw [hF_746 9 (by omega)]; exact hm_676
            have hm_757 : M_741 10 = some (aI G 40 (nF lst)) := by rw [hF_746 10 (by omega)]; exact hm_677
            have hm_758 : M_741 11 = some (aI G 40 (nF jd)) := by rw [hF_746 11 (by omega)]; exact hm_678
            have hm_759 : M_741 12 = some (cEnds ad 12 s0) := by rw [hF_746 12 (by omega)]; exact hm_679
            have hm_760 : M_741 13 = some (aI G 6 (nF r0)) := by rw [hF_746 13 (by omega)]; exact hm_680
            have hm_761 : M_741 14 = some (aI G 6 (oF th)) := by rw [hF_746 14 (by omega)]; exact hm_681
            have hm_762 : M_741 15 = some (aI G 6 (oF ol)) := by rw [hF_746 15 (by omega)]; exact hm_682
            have hm_763 : M_741 19 = some (aZ G 120 (bF mm9)) := by rw [hF_746 19 (by omega)]; exact hm_683
            have hm_764 : M_741 20 = some (aI G 120 ff) := by rw [hF_746 20 (by omega)]; exact hm_684
            have hm_765 : M_741 21 = some (aI G 120 lq) := by rw [hF_746 21 (by omega)]; exact hm_685
            have hm_766 : M_741 22 = some (cReader ad ra rb rt rv) := by rw [hF_746 22 (by omega)]; exact hm_686
            have hm_767 : M_741 23 = some (cMatcher ad qm pz) := by rw [hF_746 23 (by omega)]; exact hm_687
            have hm_768 : M_741 24 = some (aJ G 2160 sx) := by rw [hF_746 24 (by omega)]; exact hm_688
            have hm_769 : M_741 25 = some (aI G 6 (nF ft)) := by rw [hF_746 25 (by omega)]; exact hm_689
            have hm_770 : M_741 26 = some (aJ G 240 rx) := by rw [hF_746 26 (by omega)]; exact hm_690
            have hm_771 : M_741 27 = some (aJ G 3 dm) := by rw [hF_746 27 (by omega)]; exact hm_691
            have hm_772 : M_741 28 = some (aI G 3 rc) := by rw [hF_746 28 (by omega)]; exact hm_692
            have hm_773 : M_741 qa = some (cQuestion ad qa ao vr) := by rw [hF_746 qa (by omega)]; exact hm_693
            have hm_774 : M_741 (qa + 1) = some (aI G 6 (nF kn)) := by rw [hF_746 (qa + 1) (by omega)]; exact hm_694
            have hm_775 : M_741 (qa + 2) = some (aZ G 6 (bF nq)) := by rw [hF_746 (qa + 2) (by omega)]; exact hm_695
            have hm_776 : M_741 (qa + 3) = some (aI G 6 (nF pn)) := by rw [hF_746 (qa + 3) (by omega)]; exact hm_696
            have hm_777 : M_741 (qa + 4) = some (aI G 6 (nF av)) := by rw [hF_746 (qa + 4) (by omega)]; exact hm_697
            have hm_778 : M_741 (qa + 5) = some (aI G 24 (nF ro)) := by rw [hF_746 (qa + 5) (by omega)]; exact hm_698
            have hm_779 : M_741 (qa + 6) = some (aI G 24 (nF te)) := by rw [hF_746 (qa + 6) (by omega)]; exact hm_699
            have hm_780 : M_741 qs = some (cQuestion ad qs sq su) := by rw [hF_746 qs (by omega)]; exact hm_700
            have hm_781 : M_741 (qs + 1) = some (aI G 6 (nF kb)) := by rw [hF_746 (qs + 1) (by omega)]; exact hm_701
            have hm_782 : M_741 (qs + 2) = some (aZ G 6 (bF nb)) := by rw [hF_746 (qs + 2) (by omega)]; exact hm_702
            have hm_783 : M_741 (qs + 3) = some (aI G 6 (nF pb)) := by rw [hF_746 (qs + 3) (by omega)]; exact hm_703
            have hm_784 : M_741 (qs + 4) = some (aI G 6 (nF ab)) := by rw [hF_746 (qs + 4) (by omega)]; exact hm_704
            have hm_785 : M_741 (qs + 5) = some (aI G 24 (nF rbb)) := by rw [hF_746 (qs + 5) (by omega)]; exact hm_705
            have hm_786 : M_741 (qs + 6) = some (aI G 24 (nF tbb)) := by rw [hF_746 (qs + 6) (by omega)]; exact hm_706
            have hm_787 : M_741 61 = some (aI G 36 (nF le)) := by rw [hF_746 61 (by omega)]; exact hm_708
            have hm_788 : M_741 62 = some (aI G 36 (nF mo)) := by rw [hF_746 62 (by omega)]; exact hm_709
            have hm_789 : M_741 63 = some (aI G 36 (nF al)) := by rw [hF_746 63 (by omega)]; exact hm_710
            have hm_790 : M_741 64 = some (aZ G 6 (bF ho)) := by rw [hF_746 64 (by omega)]; exact hm_711
            have hm_791 : M_741 65 = some (aI G 120 (nF mk)) := by rw [hF_746 65 (by omega)]; exact hm_712
            have hm_792 : M_741 66 = some (aI G 120 mf) := by rw [hF_746 66 (by omega)]; exact hm_713
            have hm_793 : M_741 67 = some (aI G 120 mu) := by rw [hF_746 67 (by omega)]; exact hm_714
            have hm_794 : M_741 68 = some (aI G 121 (nF mz)) := by rw [hF_746 68 (by omega)]; exact hm_715
            have hm_795 : M_741 69 = some (aI G 726 (nF rr)) := by rw [hF_746 69 (by omega)]; exact hm_716
            have hm_796 : M_741 70 = some (aI G 726 (nF ee)) := by rw [hF_746 70 (by omega)]; exact hm_717
            have hm_797 : M_741 71 = some (aI G 40 (nF lst)) := by rw [hF_746 71 (by omega)]; exact hm_718
            have hm_798 : M_741 72 = some (aI G 40 (nF oa)) := by rw [hF_746 72 (by omega)]; exact hm_719
            have hm_799 : M_741 73 = some (aI G 40 (nF ob)) := by rw [hF_746 73 (by omega)]; exact hm_720
            have hm_800 : M_741 74 = some (aI G 120 s74) := by rw [hF_746 74 (by omega)]; exact hm_721
            have hm_801 : M_741 75 = some (aI G 12 ak) := by rw [hF_746 75 (by omega)]; exact hm_722
            have hm_802 : M_741 76 = some (aZ G 12 (bF nm)) := by rw [hF_746 76 (by omega)]; exact hm_723
            have hm_803 : M_741 77 = some (aI G 12 (nF ap)) := by rw [hF_746 77 (by omega)]; exact hm_724
            have hm_804 : M_741 78 = some (aI G 48 pr) := by rw [hF_746 78 (by omega)]; exact hm_725
            have hm_805 : M_741 79 = some (aI G 48 pf) := by rw [hF_746 79 (by omega)]; exact hm_726
            have hm_806 : M_741 80 = some (aB G 400 tf) := by rw [hF_746 80 (by omega)]; exact hm_727
            have hm_807 : M_741 81 = some (aI G 5 fv) := by rw [hF_746 81 (by omega)]; exact hm_728
            have hm_808 : M_741 82 = some (aZ G 384000 (bF tr)) := by rw [hF_746 82 (by omega)]; exact hm_729
            have hm_809 : M_741 83 = some (aI G 3 (oF gv)) := by rw [hF_746 83 (by omega)]; exact hm_730
            have hm_810 : M_741 84 = some (aI G 3 fo) := by rw [hF_746 84 (by omega)]; exact hm_731
            have hm_811 : M_741 85 = some (aZ G 40 (bF re)) := by rw [hF_746 85 (by omega)]; exact hm_732
            have hm_812 : M_741 86 = some (aZ G 120 (bF us)) := by rw [hF_746 86 (by omega)]; exact hm_733
            have hm_813 : M_741 87 = some (aZ G 120 (bF nx)) := by rw [hF_746 87 (by omega)]; exact hm_734
            have hm_814 : M_741 99 = some (aJ G 1 (vp_updL of 0 (((-1)).toInt64))) := by rw [hF_746 99 (by omega)]; exact hm_665
            have hm_815 : M_741 16 = some (cLines ad ) := by rw [hF_746 16 (by omega)]; exact hm_735
            have hL_816 : LSm G ad M_741 n kd fm to sz rl en := hL_736.keep (fun j hj => hF_746 j (by omega))
            have hF_817 : ∀ j : Nat, j ≠ 99 → j ≠ 60 → M_741 j = M j := fun j q0 q1 => (hF_746 j q1).trans (hF_737 j q0)
            rw [hr_744]
            refine lv_istore (lv' := [(6, .int (-1)), (5, .int (nI 0)), (0, .ref b), (1, .ref (ad 0)), (2, .ref (ad 60)), (3, .ref (ad 99)), (4, .int (nI i))]) hx hb dL_law_520 hl (by decide) rfl (fun ls hl => ?_)
            refine lv_aload_n hx hb dL_law_522 rfl (lv_at hl 4 rfl) ?_
            refine k_Ri (va_runV (As := []) (rest := []) ⟨hx, hb, hml, hown, hts⟩ (c_X10_thrown l G z ad M_741 (th := 0) (ln := n) (on := jn) (ao := ao) (vr := vr) (sn := sn) (tp := len) (pt := pt) (zs := zs) (bg := bg) (fa := fw) hm_745) (cwV 0 hts (gV (lwg_of t_997 rfl) (lwg_of t_998 rfl) (lwg_of t_999 rfl) (lwg_of t_13 rfl) (lwg_of t_1000 rfl)) rfl rfl rfl (by decide +kernel) ⟨Nat.le_of_ble_eq_true rfl, Nat.le_of_ble_eq_true rfl⟩) (hI.preV hm_745 rfl) rfl rfl hl.1 rfl (lv_room (Nat.le_of_ble_eq_true rfl)) dL_law_523 ⟨(show _ ≤ (601024 : Nat) from by omega), (show _ ≤ (7293034 : Nat) from by omega)⟩) (fun _ h => h) (fun r_818 hp_819 => ?_)
            rw [hp_819]
            refine lv_iload hx hb dL_law_526 (lv_at hl 1 rfl) ?_
            refine lv_icmp_eq (tgt := 533) hx hb dL_law_528 (by decide) (fun c_820 => ?_) (fun c_820 => ?_)
            · -- 528: nI 0 eq
              refine lv_iload hx hb dL_law_533 (lv_at hl 1 rfl) ?_
              refine lv_if_ne (tgt := 550) hx hb dL_law_535 (by decide) (fun c_821 => ?_) (fun c_821 => ?_)
              · -- 535: nI 0 ne
                exact absurd (by decide) c_821
              · -- 535: nI 0 eq
                refine lv_aload_n hx hb dL_law_538 rfl (lv_at hl 5 rfl) ?_
                refine lv_iconst (v := nI 0) hx hb dL_law_539 (by decide) ?_
                refine h_lald (i := 0) hx hb hI hm_814 (by omega) (by decide) dL_law_540 ?_
                refine lv_iload hx hb dL_law_541 (lv_at hl 0 rfl) ?_
                refine lv_i2l (v := (-1).toInt64) hx hb dL_law_543 rfl ?_
                refine W.lcmp hx hb dL_law_544 ?_
                refine lv_if_eq (tgt := 550) hx hb dL_law_545 (by decide) (fun c_822 => ?_) (fun c_822 => ?_)
                · -- 545: lg_cmp ((vp_updL of 0 (((-1)).toInt64)) 0) ((-1).toInt64) eq
                  have c_822 : (vp_updL of 0 (((-1)).toInt64)) 0 = (-1).toInt64 := (lg_cmp_eq _ _).mp c_822
                  refine lv_goto (tgt := 1333) hx hb dL_law_550 (by decide) ?_
                  refine W.widen (k := cz + 10) (n := sy + 300) (by omega) (by omega) ?_
                  exact kk ad M_741 H_742 locs_743 ls n kd fm to sz rl en qa qs fw len tb le mo al ho jn hg lst jd s0 r0 th ol e0 mm9 ff lq ra rb rt rv qm pz sx ft rx dm rc ao vr kn nq pn av ro te sq su kb nb pb ab rbb tbb 0 sn pt zs bg mk mf mu mz rr ee oa ob s74 ak nm ap pr pf tf fv tr gv fo re us nx (vp_updL of 0 (((-1)).toInt64)) hL_816 w1 w2 w3 w4 w5 w6 w7 w8 w9 w10 w11 w12 w13 w14 w15 w16 w17 w18 w19 w20 w21 w22 w23 w24 w25 w26 w27 w28 w29 (fun h9 => by rw [hF_817 17 (by omega) (by omega), hF_817 18 (by omega) (by omega)]; exact w30 h9) (by rw [hF_817 29 (by omega) (by omega)]; exact w31) (fun j9 h9 => by rw [hF_817 j9 (by omega) (by omega)]; exact w32 j9 h9) hm_747 hm_748 hm_749 hm_750 hm_751 hm_752 hm_753 hm_754 hm_755 hm_756 hm_757 hm_758 hm_759 hm_760 hm_761 hm_762 hm_763 hm_764 hm_765 hm_766 hm_767 hm_768 hm_769 hm_770 hm_771 hm_772 hm_773 hm_774 hm_775 hm_776 hm_777 hm_778 hm_779 hm_780 hm_781 hm_782 hm_783 hm_784 hm_785 hm_786 hm_745 hm_787 hm_788 hm_789 hm_790 hm_791 hm_792 hm_793 hm_794 hm_795 hm_796 hm_797 hm_798 hm_799 hm_800 hm_801 hm_802 hm_803 hm_804 hm_805 hm_806 hm_807 hm_808 hm_809 hm_810 hm_811 hm_812 hm_813 hm_814 hI (lv_sub hl [2, 3, 4, 5, 6] rfl)
                · -- 545: lg_cmp ((vp_updL of 0 (((-1)).toInt64)) 0) ((-1).toInt64) ne
                  have c_822 : (vp_updL of 0 (((-1)).toInt64)) 0 ≠ (-1).toInt64 := (fun h => c_822 ((lg_cmp_eq _ _).mpr h))
                  exact absurd rfl c_822
            · -- 528: nI 0 ne
              exact absurd (by decide) c_820
          · -- 503: xs (i + 2) ne
            exact absurd (by assumption) c_738
    · -- 470: xs (i + 2) ne
      refine lv_iconst (v := nI 1) hx hb dL_law_473 (by decide) ?_
      refine n_eq (show _ = bI true from rfl) ?_
      refine lv_goto (tgt := 478) hx hb dL_law_474 (by decide) ?_
      refine lv_aload_n hx hb dL_law_478 rfl (lv_at hl 0 rfl) ?_
      rcases (in_or n (xs (i + 3)) (by omega) : (xs (i + 3) < 0 ∨ ¬ xs (i + 3) < nI n) ∨ (∃ t : Nat, t < n ∧ xs (i + 3) = nI t)) with hc_823 | hc_824
      · skip
        refine lv_iload hx hb dL_law_479 (lv_at hl 4 rfl) ?_
        refine lv_iconst (v := nI 3) hx hb dL_law_481 (by decide) ?_
        refine lv_iadd hx hb dL_law_482 ?_
        refine n_eq (nI_add i 3) ?_
        refine va_sld (A := fr z) hx hb hX hbl hbz hI.S (vp_in_nI (n := i + 3) (by omega) (by omega)) dL_law_483 ?_
        rw [nI_clamp (by omega)]
        refine lv_aload_n hx hb dL_law_484 rfl (lv_at hl 3 rfl) ?_
        refine k_Ni (vx_runSW (As := [.ref (ad 0), .int (nI t1), .int (bI true), .int (xs (i + 3)), .ref (ad 99)]) (rest := []) ⟨hx, hb, hml, hown, hts⟩ (c_L_draft_b l hst G z ad M (n := n) (kd := kd) (fm := fm) (to := to) (sz := sz) (rl := rl) (en := en) (qa := qa) (qs := qs) (fw := fw) (ro := t1) (x1 := xs (i + 3)) (b := true) fL f_0 ht1 rfl hc_823) (vx_cwSW 5 hts (gSW (lwg_of t_596 rfl) (lwg_of t_597 rfl) (lwg_of t_0 rfl) (lwg_of t_598 rfl)) rfl rfl rfl (by decide +kernel) ⟨Nat.le_of_ble_eq_true rfl, Nat.le_of_ble_eq_true rfl⟩) hI.preS rfl rfl hl.1 rfl (lv_room (Nat.le_of_ble_eq_true rfl)) dL_law_485 ⟨(show _ ≤ (601024 : Nat) from by omega), (show _ ≤ (7293034 : Nat) from by omega)⟩) hI (fun r_825 M_827 H_828 locs_829 hp_826 hI => ?_)
        obtain ⟨hr_830, hF_831⟩ := hp_826
        have hm_832 : M_827 0 = some (cStore ad qa qs fw) := by rw [hF_831 0 ]; exact f_0
        have hm_833 : M_827 1 = some (cTape ad len) := by rw [hF_831 1 ]; exact f_1
        have hm_834 : M_827 2 = some (aI G 400 (nF tb)) := by rw [hF_831 2 ]; exact f_2
        have hm_835 : M_827 3 = some (cLaws ad ) := by rw [hF_831 3 ]; exact f_3
        have hm_836 : M_827 4 = some (aI G 36 (nF le)) := by rw [hF_831 4 ]; exact f_4
        have hm_837 : M_827 5 = some (aI G 36 (nF mo)) := by rw [hF_831 5 ]; exact f_5
        have hm_838 : M_827 6 = some (aI G 36 (nF al)) := by rw [hF_831 6 ]; exact f_6
        have hm_839 : M_827 7 = some (aZ G 6 (bF ho)) := by rw [hF_831 7 ]; exact f_7
        have hm_840 : M_827 8 = some (cOnes ad jn) := by rw [hF_831 8 ]; exact f_8
        have hm_841 : M_827 9 = some (aI G 40 (nF hg)) := by rw [hF_831 9 ]; exact f_9
        have hm_842 : M_827 10 = some (aI G 40 (nF lst)) := by rw [hF_831 10 ]; exact f_10
        have hm_843 : M_827 11 = some (aI G 40 (nF jd)) := by rw [hF_831 11 ]; exact f_11
        have hm_844 : M_827 12 = some (cEnds ad 12 s0) := by rw [hF_831 12 ]; exact f_12
        have hm_845 : M_827 13 = some (aI G 6 (nF r0)) := by rw [hF_831 13 ]; exact f_13
        have hm_846 : M_827 14 = some (aI G 6 (oF th)) := by rw [hF_831 14 ]; exact f_14
        have hm_847 : M_827 15 = some (aI G 6 (oF ol)) := by rw [hF_831 15 ]; exact f_15
        have hm_848 : M_827 19 = some (aZ G 120 (bF mm9)) := by rw [hF_831 19 ]; exact f_19
        have hm_849 : M_827 20 = some (aI G 120 ff) := by rw [hF_831 20 ]; exact f_20
        have hm_850 : M_827 21 = some (aI G 120 lq) := by rw [hF_831 21 ]; exact f_21
        have hm_851 : M_827 22 = some (cReader ad ra rb rt rv) := by rw [hF_831 22 ]; exact f_22
        have hm_852 : M_827 23 = some (cMatcher ad qm pz) := by rw [hF_831 23 ]; exact f_23
        have hm_853 : M_827 24 = some (aJ G 2160 sx) := by rw [hF_831 24 ]; exact f_24
        have hm_854 : M_827 25 = some (aI G 6 (nF ft)) := by rw [hF_831 25 ]; exact f_25
        have hm_855 : M_827 26 = some (aJ G 240 rx) := by rw [hF_831 26 ]; exact f_26
        have hm_856 : M_827 27 = some (aJ G 3 dm) := by rw [hF_831 27 ]; exact f_27
        have hm_857 : M_827 28 = some (aI G 3 rc) := by rw [hF_831 28 ]; exact f_28
        have hm_858 : M_827 qa = some (cQuestion ad qa ao vr) := by rw [hF_831 qa ]; exact f_qa
        have hm_859 : M_827 (qa + 1) = some (aI G 6 (nF kn)) := by rw [hF_831 (qa + 1) ]; exact f_qa_1
        have hm_860 : M_827 (qa + 2) = some (aZ G 6 (bF nq)) := by rw [hF_831 (qa + 2) ]; exact f_qa_2
        have hm_861 : M_827 (qa + 3) = some (aI G 6 (nF pn)) := by rw [hF_831 (qa + 3) ]; exact f_qa_3
        have hm_862 : M_827 (qa + 4) = some (aI G 6 (nF av)) := by rw [hF_831 (qa + 4) ]; exact f_qa_4
        have hm_863 : M_827 (qa + 5) = some (aI G 24 (nF ro)) := by rw [hF_831 (qa + 5) ]; exact f_qa_5
        have hm_864 : M_827 (qa + 6) = some (aI G 24 (nF te)) := by rw [hF_831 (qa + 6) ]; exact f_qa_6
        have hm_865 : M_827 qs = some (cQuestion ad qs sq su) := by rw [hF_831 qs ]; exact f_qs
        have hm_866 : M_827 (qs + 1) = some (aI G 6 (nF kb)) := by rw [hF_831 (qs + 1) ]; exact f_qs_1
        have hm_867 : M_827 (qs + 2) = some (aZ G 6 (bF nb)) := by rw [hF_831 (qs + 2) ]; exact f_qs_2
        have hm_868 : M_827 (qs + 3) = some (aI G 6 (nF pb)) := by rw [hF_831 (qs + 3) ]; exact f_qs_3
        have hm_869 : M_827 (qs + 4) = some (aI G 6 (nF ab)) := by rw [hF_831 (qs + 4) ]; exact f_qs_4
        have hm_870 : M_827 (qs + 5) = some (aI G 24 (nF rbb)) := by rw [hF_831 (qs + 5) ]; exact f_qs_5
        have hm_871 : M_827 (qs + 6) = some (aI G 24 (nF tbb)) := by rw [hF_831 (qs + 6) ]; exact f_qs_6
        have hm_872 : M_827 60 = some (cModel ad tw n jn ao vr sn len pt zs bg fw) := by rw [hF_831 60 ]; exact f_60
        have hm_873 : M_827 61 = some (aI G 36 (nF le)) := by rw [hF_831 61 ]; exact f_61
        have hm_874 : M_827 62 = some (aI G 36 (nF mo)) := by rw [hF_831 62 ]; exact f_62
        have hm_875 : M_827 63 = some (aI G 36 (nF al)) := by rw [hF_831 63 ]; exact f_63
        have hm_876 : M_827 64 = some (aZ G 6 (bF ho)) := by rw [hF_831 64 ]; exact f_64
        have hm_877 : M_827 65 = some (aI G 120 (nF mk)) := by rw [hF_831 65 ]; exact f_65
        have hm_878 : M_827 66 = some (aI G 120 mf) := by rw [hF_831 66 ]; exact f_66
        have hm_879 : M_827 67 = some (aI G 120 mu) := by rw [hF_831 67 ]; exact f_67
        have hm_880 : M_827 68 = some (aI G 121 (nF mz)) := by rw [hF_831 68 ]; exact f_68
        have hm_881 : M_827 69 = some (aI G 726 (nF rr)) := by rw [hF_831 69 ]; exact f_69
        have hm_882 : M_827 70 = some (aI G 726 (nF ee)) := by rw [hF_831 70 ]; exact f_70
        have hm_883 : M_827 71 = some (aI G 40 (nF lst)) := by rw [hF_831 71 ]; exact f_71
        have hm_884 : M_827 72 = some (aI G 40 (nF oa)) := by rw [hF_831 72 ]; exact f_72
        have hm_885 : M_827 73 = some (aI G 40 (nF ob)) := by rw [hF_831 73 ]; exact f_73
        have hm_886 : M_827 74 = some (aI G 120 s74) := by rw [hF_831 74 ]; exact f_74
        have hm_887 : M_827 75 = some (aI G 12 ak) := by rw [hF_831 75 ]; exact f_75
        have hm_888 : M_827 76 = some (aZ G 12 (bF nm)) := by rw [hF_831 76 ]; exact f_76
        have hm_889 : M_827 77 = some (aI G 12 (nF ap)) := by rw [hF_831 77 ]; exact f_77
        have hm_890 : M_827 78 = some (aI G 48 pr) := by rw [hF_831 78 ]; exact f_78
        have hm_891 : M_827 79 = some (aI G 48 pf) := by rw [hF_831 79 ]; exact f_79
        have hm_892 : M_827 80 = some (aB G 400 tf) := by rw [hF_831 80 ]; exact f_80
        have hm_893 : M_827 81 = some (aI G 5 fv) := by rw [hF_831 81 ]; exact f_81
        have hm_894 : M_827 82 = some (aZ G 384000 (bF tr)) := by rw [hF_831 82 ]; exact f_82
        have hm_895 : M_827 83 = some (aI G 3 (oF gv)) := by rw [hF_831 83 ]; exact f_83
        have hm_896 : M_827 84 = some (aI G 3 fo) := by rw [hF_831 84 ]; exact f_84
        have hm_897 : M_827 85 = some (aZ G 40 (bF re)) := by rw [hF_831 85 ]; exact f_85
        have hm_898 : M_827 86 = some (aZ G 120 (bF us)) := by rw [hF_831 86 ]; exact f_86
        have hm_899 : M_827 87 = some (aZ G 120 (bF nx)) := by rw [hF_831 87 ]; exact f_87
        have hm_900 : M_827 99 = some (aJ G 1 of) := by rw [hF_831 99 ]; exact f_99
        have hm_901 : M_827 16 = some (cLines ad ) := by rw [hF_831 16 ]; exact h16
        have hL_902 : LSm G ad M_827 n kd fm to sz rl en := fL.keep (fun j hj => hF_831 j )
        rw [hr_830]
        refine lv_istore (lv' := [(5, .int (nI 1)), (0, .ref b), (1, .ref (ad 0)), (2, .ref (ad 60)), (3, .ref (ad 99)), (4, .int (nI i))]) hx hb dL_law_488 hl (by decide) rfl (fun ls hl => ?_)
        refine lv_aload_n hx hb dL_law_490 rfl (lv_at hl 3 rfl) ?_
        refine lv_aload_n hx hb dL_law_491 rfl (lv_at hl 1 rfl) ?_
        refine lv_iload hx hb dL_law_492 (lv_at hl 5 rfl) ?_
        refine lv_iconst (v := nI 1) hx hb dL_law_494 (by decide) ?_
        refine lv_iadd hx hb dL_law_495 ?_
        refine n_eq (nI_add i 1) ?_
        refine va_sld (A := fr z) hx hb hX hbl hbz hI.S (vp_in_nI (n := i + 1) (by omega) (by omega)) dL_law_496 ?_
        rw [nI_clamp (by omega)]
        refine n_eq (show _ = nI t1 from et1) ?_
        refine lv_aload_n hx hb dL_law_497 rfl (lv_at hl 1 rfl) ?_
        refine lv_iload hx hb dL_law_498 (lv_at hl 5 rfl) ?_
        refine lv_iconst (v := nI 2) hx hb dL_law_500 (by decide) ?_
        refine lv_iadd hx hb dL_law_501 ?_
        refine n_eq (nI_add i 2) ?_
        refine va_sld (A := fr z) hx hb hX hbl hbz hI.S (vp_in_nI (n := i + 2) (by omega) (by omega)) dL_law_502 ?_
        rw [nI_clamp (by omega)]
        refine lv_if_eq (tgt := 510) hx hb dL_law_503 (by decide) (fun c_903 => ?_) (fun c_903 => ?_)
        · -- 503: xs (i + 2) eq
          exact absurd c_903 (by assumption)
        · -- 503: xs (i + 2) ne
          refine lv_iconst (v := nI 1) hx hb dL_law_506 (by decide) ?_
          refine n_eq (show _ = bI true from rfl) ?_
          refine lv_goto (tgt := 511) hx hb dL_law_507 (by decide) ?_
          refine lv_aload_n hx hb dL_law_511 rfl (lv_at hl 1 rfl) ?_
          refine lv_iload hx hb dL_law_512 (lv_at hl 5 rfl) ?_
          refine lv_iconst (v := nI 3) hx hb dL_law_514 (by decide) ?_
          refine lv_iadd hx hb dL_law_515 ?_
          refine n_eq (nI_add i 3) ?_
          refine va_sld (A := fr z) hx hb hX hbl hbz hI.S (vp_in_nI (n := i + 3) (by omega) (by omega)) dL_law_516 ?_
          rw [nI_clamp (by omega)]
          refine k_Ni (va_runV (As := [.int (nI t1), .int (bI true), .int (xs (i + 3))]) (rest := []) ⟨hx, hb, hml, hown, hts⟩ (c_X10_draft_b l G z ad M_827 (th := tw) (on := jn) (ao := ao) (vr := vr) (sn := sn) (tp := len) (pt := pt) (zs := zs) (bg := bg) (fa := fw) (n := n) (ro := t1) (x1 := xs (i + 3)) (b := true) hm_872 hw1 ht1 rfl hc_823) (cwV 3 hts (gV (lwg_of t_1153 rfl) (lwg_of t_1154 rfl) (lwg_of t_1155 rfl) (lwg_of t_13 rfl) (lwg_of t_1156 rfl)) rfl rfl rfl (by decide +kernel) ⟨Nat.le_of_ble_eq_true rfl, Nat.le_of_ble_eq_true rfl⟩) (hI.preV hm_872 rfl) rfl rfl hl.1 rfl (lv_room (Nat.le_of_ble_eq_true rfl)) dL_law_517 ⟨(show _ ≤ (601024 : Nat) from by omega), (show _ ≤ (7293034 : Nat) from by omega)⟩) hI (fun r_904 M_906 H_907 locs_908 hp_905 hI => ?_)
          obtain ⟨hr_909, hm_910, hF_911⟩ := hp_905
          have hm_912 : M_906 0 = some (cStore ad qa qs fw) := by rw [hF_911 0 (by omega)]; exact hm_832
          have hm_913 : M_906 1 = some (cTape ad len) := by rw [hF_911 1 (by omega)]; exact hm_833
          have hm_914 : M_906 2 = some (aI G 400 (nF tb)) := by rw [hF_911 2 (by omega)]; exact hm_834
          have hm_915 : M_906 3 = some (cLaws ad ) := by rw [hF_911 3 (by omega)]; exact hm_835
          have hm_916 : M_906 4 = some (aI G 36 (nF le)) := by rw [hF_911 4 (by omega)]; exact hm_836
          have hm_917 : M_906 5 = some (aI G 36 (nF mo)) := by rw [hF_911 5 (by omega)]; exact hm_837
          have hm_918 : M_906 6 = some (aI G 36 (nF al)) := by rw [hF_911 6 (by omega)]; exact hm_838
          have hm_919 : M_906 7 = some (aZ G 6 (bF ho)) := by rw [hF_911 7 (by omega)]; exact hm_839
          have hm_920 : M_906 8 = some (cOnes ad jn) := by rw [hF_911 8 (by omega)]; exact hm_840
          have hm_921 : M_906 9 = some (aI G 40 (nF hg)) := by rw [hF_911 9 (by omega)]; exact hm_841
          have hm_922 : M_906 10 = some (aI G 40 (nF lst)) := by rw [hF_911 10 (by omega)]; exact hm_842
          have hm_923 : M_906 11 = some (aI G 40 (nF jd)) := by rw [hF_911 11 (by omega)]; exact hm_843
          have hm_924 : M_906 12 = some (cEnds ad 12 s0) := by rw [hF_911 12 (by omega)]; exact hm_844
          have hm_925 : M_906 13 = some (aI G 6 (nF r0)) := by rw [hF_911 13 (by omega)]; exact hm_845
          have hm_926 : M_906 14 = some (aI G 6 (oF th)) := by rw [hF_911 14 (by omega)]; exact hm_846
          have hm_927 : M_906 15 = some (aI G 6 (oF ol)) := by rw [hF_911 15 (by omega)]; exact hm_847
          have hm_928 : M_906 19 = some (aZ G 120 (bF mm9)) := by rw [hF_911 19 (by omega)]; exact hm_848
          have hm_929 : M_906 20 = some (aI G 120 ff) := by rw [hF_911 20 (by omega)]; exact hm_849
          have hm_930 : M_906 21 = some (aI G 120 lq) := by rw [hF_911 21 (by omega)]; exact hm_850
          have hm_931 : M_906 22 = some (cReader ad ra rb rt rv) := by rw [hF_911 22 (by omega)]; exact hm_851
          have hm_932 : M_906 23 = some (cMatcher ad qm pz) := by rw [hF_911 23 (by omega)]; exact hm_852
          have hm_933 : M_906 24 = some (aJ G 2160 sx) := by rw [hF_911 24 (by omega)]; exact hm_853
          have hm_934 : M_906 25 = some (aI G 6 (nF ft)) := by rw [hF_911 25 (by omega)]; exact hm_854
          have hm_935 : M_906 26 = some (aJ G 240 rx) := by rw [hF_911 26 (by omega)]; exact hm_855
          have hm_936 : M_906 27 = some (aJ G 3 dm) := by rw [hF_911 27 (by omega)]; exact hm_856
          have hm_937 : M_906 28 = some (aI G 3 rc) := by rw [hF_911 28 (by omega)]; exact hm_857
          have hm_938 : M_906 qa = some (cQuestion ad qa ao vr) := by rw [hF_911 qa (by omega)]; exact hm_858
          have hm_939 : M_906 (qa + 1) = some (aI G 6 (nF kn)) := by rw [hF_911 (qa + 1) (by omega)]; exact hm_859
          have hm_940 : M_906 (qa + 2) = some (aZ G 6 (bF nq)) := by rw [hF_911 (qa + 2) (by omega)]; exact hm_860
          have hm_941 : M_906 (qa + 3) = some (aI G 6 (nF pn)) := by rw [hF_911 (qa + 3) (by omega)]; exact hm_861
          have hm_942 : M_906 (qa + 4) = some (aI G 6 (nF av)) := by rw [hF_911 (qa + 4) (by omega)]; exact hm_862
          have hm_943 : M_906 (qa + 5) = some (aI G 24 (nF ro)) := by rw [hF_911 (qa + 5) (by omega)]; exact hm_863
          have hm_944 : M_906 (qa + 6) = some (aI G 24 (nF te)) := by rw [hF_911 (qa + 6) (by omega)]; exact hm_864
          have hm_945 : M_906 qs = some (cQuestion ad qs sq su) := by rw [hF_911 qs (by omega)]; exact hm_865
          have hm_946 : M_906 (qs + 1) = some (aI G 6 (nF kb)) := by rw [hF_911 (qs + 1) (by omega)]; exact hm_866
          have hm_947 : M_906 (qs + 2) = some (aZ G 6 (bF nb)) := by rw [hF_911 (qs + 2) (by omega)]; exact hm_867
          have hm_948 : M_906 (qs + 3) = some (aI G 6 (nF pb)) := by rw [hF_911 (qs + 3) (by omega)]; exact hm_868
          have hm_949 : M_906 (qs + 4) = some (aI G 6 (nF ab)) := by rw [hF_911 (qs + 4) (by omega)]; exact hm_869
          have hm_950 : M_906 (qs + 5) = some (aI G 24 (nF rbb)) := by rw [hF_911 (qs + 5) (by omega)]; exact hm_870
          have hm_951 : M_906 (qs + 6) = some (aI G 24 (nF tbb)) := by rw [hF_911 (qs + 6) (by omega)]; exact hm_871
          have hm_952 : M_906 61 = some (aI G 36 (nF le)) := by rw [hF_911 61 (by omega)]; exact hm_873
          have hm_953 : M_906 62 = some (aI G 36 (nF mo)) := by rw [hF_911 62 (by omega)]; exact hm_874
          have hm_954 : M_906 63 = some (aI G 36 (nF al)) := by rw [hF_911 63 (by omega)]; exact hm_875
          have hm_955 : M_906 64 = some (aZ G 6 (bF ho)) := by rw [hF_911 64 (by omega)]; exact hm_876
          have hm_956 : M_906 65 = some (aI G 120 (nF mk)) := by rw [hF_911 65 (by omega)]; exact hm_877
          have hm_957 : M_906 66 = some (aI G 120 mf) := by rw [hF_911 66 (by omega)]; exact hm_878
          have hm_958 : M_906 67 = some (aI G 120 mu) := by rw [hF_911 67 (by omega)]; exact hm_879
          have hm_959 : M_906 68 = some (aI G 121 (nF mz)) := by rw [hF_911 68 (by omega)]; exact hm_880
          have hm_960 : M_906 69 = some (aI G 726 (nF rr)) := by rw [hF_911 69 (by omega)]; exact hm_881
          have hm_961 : M_906 70 = some (aI G 726 (nF ee)) := by rw [hF_911 70 (by omega)]; exact hm_882
          have hm_962 : M_906 71 = some (aI G 40 (nF lst)) := by rw [hF_911 71 (by omega)]; exact hm_883
          have hm_963 : M_906 72 = some (aI G 40 (nF oa)) := by rw [hF_911 72 (by omega)]; exact hm_884
          have hm_964 : M_906 73 = some (aI G 40 (nF ob)) := by rw [hF_911 73 (by omega)]; exact hm_885
          have hm_965 : M_906 74 = some (aI G 120 s74) := by rw [hF_911 74 (by omega)]; exact hm_886
          have hm_966 : M_906 75 = some (aI G 12 ak) := by rw [hF_911 75 (by omega)]; exact hm_887
          have hm_967 : M_906 76 = some (aZ G 12 (bF nm)) := by rw [hF_911 76 (by omega)]; exact hm_888
          have hm_968 : M_906 77 = some (aI G 12 (nF ap)) := by rw [hF_911 77 (by omega)]; exact hm_889
          have hm_969 : M_906 78 = some (aI G 48 pr) := by rw [hF_911 78 (by omega)]; exact hm_890
          have hm_970 : M_906 79 = some (aI G 48 pf) := by rw [hF_911 79 (by omega)]; exact hm_891
          have hm_971 : M_906 80 = some (aB G 400 tf) := by rw [hF_911 80 (by omega)]; exact hm_892
          have hm_972 : M_906 81 = some (aI G 5 fv) := by rw [hF_911 81 (by omega)]; exact hm_893
          have hm_973 : M_906 82 = some (aZ G 384000 (bF tr)) := by rw [hF_911 82 (by omega)]; exact hm_894
          have hm_974 : M_906 83 = some (aI G 3 (oF gv)) := by rw [hF_911 83 (by omega)]; exact hm_895
          have hm_975 : M_906 84 = some (aI G 3 fo) := by rw [hF_911 84 (by omega)]; exact hm_896
          have hm_976 : M_906 85 = some (aZ G 40 (bF re)) := by rw [hF_911 85 (by omega)]; exact hm_897
          have hm_977 : M_906 86 = some (aZ G 120 (bF us)) := by rw [hF_911 86 (by omega)]; exact hm_898
          have hm_978 : M_906 87 = some (aZ G 120 (bF nx)) := by rw [hF_911 87 (by omega)]; exact hm_899
          have hm_979 : M_906 99 = some (aJ G 1 of) := by rw [hF_911 99 (by omega)]; exact hm_900
          have hm_980 : M_906 16 = some (cLines ad ) := by rw [hF_911 16 (by omega)]; exact hm_901
          have hL_981 : LSm G ad M_906 n kd fm to sz rl en := hL_902.keep (fun j hj => hF_911 j (by omega))
          have hF_982 : ∀ j : Nat, j ≠ 60 → M_906 j = M j := fun j q0 => (hF_911 j q0).trans (hF_831 j )
          rw [hr_909]
          refine lv_istore (lv' := [(6, .int (nI 0)), (5, .int (nI 1)), (0, .ref b), (1, .ref (ad 0)), (2, .ref (ad 60)), (3, .ref (ad 99)), (4, .int (nI i))]) hx hb dL_law_520 hl (by decide) rfl (fun ls hl => ?_)
          refine lv_aload_n hx hb dL_law_522 rfl (lv_at hl 4 rfl) ?_
          refine k_Ri (va_runV (As := []) (rest := []) ⟨hx, hb, hml, hown, hts⟩ (c_X10_thrown l G z ad M_906 (th := 1) (ln := n) (on := jn) (ao := ao) (vr := vr) (sn := sn) (tp := len) (pt := pt) (zs := zs) (bg := bg) (fa := fw) hm_910) (cwV 0 hts (gV (lwg_of t_997 rfl) (lwg_of t_998 rfl) (lwg_of t_999 rfl) (lwg_of t_13 rfl) (lwg_of t_1000 rfl)) rfl rfl rfl (by decide +kernel) ⟨Nat.le_of_ble_eq_true rfl, Nat.le_of_ble_eq_true rfl⟩) (hI.preV hm_910 rfl) rfl rfl hl.1 rfl (lv_room (Nat.le_of_ble_eq_true rfl)) dL_law_523 ⟨(show _ ≤ (601024 : Nat) from by omega), (show _ ≤ (7293034 : Nat) from by omega)⟩) (fun _ h => h) (fun r_983 hp_984 => ?_)
          rw [hp_984]
          refine lv_iload hx hb dL_law_526 (lv_at hl 1 rfl) ?_
          refine lv_icmp_eq (tgt := 533) hx hb dL_law_528 (by decide) (fun c_985 => ?_) (fun c_985 => ?_)
          · -- 528: nI 1 eq
            refine lv_iload hx hb dL_law_533 (lv_at hl 1 rfl) ?_
            refine lv_if_ne (tgt := 550) hx hb dL_law_535 (by decide) (fun c_986 => ?_) (fun c_986 => ?_)
            · -- 535: nI 1 ne
              refine lv_goto (tgt := 1333) hx hb dL_law_550 (by decide) ?_
              refine W.widen (k := cz + 10) (n := sy + 300) (by omega) (by omega) ?_
              exact kk ad M_906 H_907 locs_908 ls n kd fm to sz rl en qa qs fw len tb le mo al ho jn hg lst jd s0 r0 th ol e0 mm9 ff lq ra rb rt rv qm pz sx ft rx dm rc ao vr kn nq pn av ro te sq su kb nb pb ab rbb tbb 1 sn pt zs bg mk mf mu mz rr ee oa ob s74 ak nm ap pr pf tf fv tr gv fo re us nx of hL_981 w1 w2 w3 w4 w5 w6 w7 w8 w9 w10 w11 w12 w13 w14 w15 w16 w17 w18 w19 w20 w21 w22 w23 w24 w25 w26 w27 w28 w29 (fun h9 => by rw [hF_982 17 (by omega), hF_982 18 (by omega)]; exact w30 h9) (by rw [hF_982 29 (by omega)]; exact w31) (fun j9 h9 => by rw [hF_982 j9 (by omega)]; exact w32 j9 h9) hm_912 hm_913 hm_914 hm_915 hm_916 hm_917 hm_918 hm_919 hm_920 hm_921 hm_922 hm_923 hm_924 hm_925 hm_926 hm_927 hm_928 hm_929 hm_930 hm_931 hm_932 hm_933 hm_934 hm_935 hm_936 hm_937 hm_938 hm_939 hm_940 hm_941 hm_942 hm_943 hm_944 hm_945 hm_946 hm_947 hm_948 hm_949 hm_950 hm_951 hm_910 hm_952 hm_953 hm_954 hm_955 hm_956 hm_957 hm_958 hm_959 hm_960 hm_961 hm_962 hm_963 hm_964 hm_965 hm_966 hm_967 hm_968 hm_969 hm_970 hm_971 hm_972 hm_973 hm_974 hm_975 hm_976 hm_977 hm_978 hm_979 hI (lv_sub hl [2, 3, 4, 5, 6] rfl)
            · -- 535: nI 1 eq
              exact absurd c_986 (by decide)
          · -- 528: nI 1 ne
            exact absurd (by decide) c_985
      · skip
        refine lv_iload hx hb dL_law_479 (lv_at hl 4 rfl) ?_
        obtain ⟨t3, ht3, et3⟩ := hc_824
        refine lv_iconst (v := nI 3) hx hb dL_law_481 (by decide) ?_
        rcases (by omega : s0 < 6 ∨ s0 = 6) with hc_987 | hc_988
        · skip
          refine lv_iadd hx hb dL_law_482 ?_
          refine n_eq (nI_add i 3) ?_
          refine va_sld (A := fr z) hx hb hX hbl hbz hI.S (vp_in_nI (n := i + 3) (by omega) (by omega)) dL_law_483 ?_
          rw [nI_clamp (by omega)]
          refine n_eq (show _ = nI t3 from et3) ?_
          refine lv_aload_n hx hb dL_law_484 rfl (lv_at hl 3 rfl) ?_
          refine k_Ni (vx_runSW (As := [.ref (ad 0), .int (nI t1), .int (bI true), .int (nI t3), .ref (ad 99)]) (rest := []) ⟨hx, hb, hml, hown, hts⟩ (c_L_draft l hst G z ad M (n := n) (kd := kd) (fm := fm) (to := to) (sz := sz) (rl := rl) (en := en) (qa := qa) (qs := qs) (fw := fw) (s0 := s0) (r0 := r0) (th := th) (ol := ol) (x := t1) (b := true) (t := t3) (of := of) fL f_0 f_12 f_13 f_14 f_15 f_99 w1 ht1 (fun _ => ht3) (fun h => absurd h (by decide)) (by omega)) (vx_cwSW 5 hts (gSW (lwg_of t_596 rfl) (lwg_of t_597 rfl) (lwg_of t_0 rfl) (lwg_of t_598 rfl)) rfl rfl rfl (by decide +kernel) ⟨Nat.le_of_ble_eq_true rfl, Nat.le_of_ble_eq_true rfl⟩) hI.preS rfl rfl hl.1 rfl (lv_room (Nat.le_of_ble_eq_true rfl)) dL_law_485 ⟨(show _ ≤ (601024 : Nat) from by omega), (show _ ≤ (7293034 : Nat) from by omega)⟩) hI (fun r_989 M_991 H_992 locs_993 hp_990 hI => ?_)
          obtain ⟨hr_994, hm_995, hm_996, hm_997, hm_998, hm_999, hF_1000⟩ := hp_990
          have hm_1001 : M_991 0 = some (cStore ad qa qs fw) := by rw [hF_1000 0 (by omega) (by omega) (by omega) (by omega) (by omega)]; exact f_0
          have hm_1002 : M_991 1 = some (cTape ad len) := by rw [hF_1000 1 (by omega) (by omega) (by omega) (by omega) (by omega)]; exact f_1
          have hm_1003 : M_991 2 = some (aI G 400 (nF tb)) := by rw [hF_1000 2 (by omega) (by omega) (by omega) (by omega) (by omega)]; exact f_2
          have hm_1004 : M_991 3 = some (cLaws ad ) := by rw [hF_1000 3 (by omega) (by omega) (by omega) (by omega) (by omega)]; exact f_3
          have hm_1005 : M_991 4 = some (aI G 36 (nF le)) := by rw [hF_1000 4 (by omega) (by omega) (by omega) (by omega) (by omega)]; exact f_4
          have hm_1006 : M_991 5 = some (aI G 36 (nF mo)) := by rw [hF_1000 5 (by omega) (by omega) (by omega) (by omega) (by omega)]; exact f_5
          have hm_1007 : M_991 6 = some (aI G 36 (nF al)) := by rw [hF_1000 6 (by omega) (by omega) (by omega) (by omega) (by omega)]; exact f_6
          have hm_1008 : M_991 7 = some (aZ G 6 (bF ho)) := by rw [hF_1000 7 (by omega) (by omega) (by omega) (by omega) (by omega)]; exact f_7
          have hm_1009 : M_991 8 = some (cOnes ad jn) := by rw [hF_1000 8 (by omega) (by omega) (by omega) (by omega) (by omega)]; exact f_8
          have hm_1010 : M_991 9 = some (aI G 40 (nF hg)) := by rw [hF_1000 9 (by omega) (by omega) (by omega) (by omega) (by omega)]; exact f_9
          have hm_1011 : M_991 10 = some (aI G 40 (nF lst)) := by rw [hF_1000 10 (by omega) (by omega) (by omega) (by omega) (by omega)]; exact f_10
          have hm_1012 : M_991 11 = some (aI G 40 (nF jd)) := by rw [hF_1000 11 (by omega) (by omega) (by omega) (by omega) (by omega)]; exact f_11
          have hm_1013 : M_991 19 = some (aZ G 120 (bF mm9)) := by rw [hF_1000 19 (by omega) (by omega) (by omega) (by omega) (by omega)]; exact f_19
          have hm_1014 : M_991 20 = some (aI G 120 ff) := by rw [hF_1000 20 (by omega) (by omega) (by omega) (by omega) (by omega)]; exact f_20
          have hm_1015 : M_991 21 = some (aI G 120 lq) := by rw [hF_1000 21 (by omega) (by omega) (by omega) (by omega) (by omega)]; exact f_21
          have hm_1016 : M_991 22 = some (cReader ad ra rb rt rv) := by rw [hF_1000 22 (by omega) (by omega) (by omega) (by omega) (by omega)]; exact f_22
          have hm_1017 : M_991 23 = some (cMatcher ad qm pz) := by rw [hF_1000 23 (by omega) (by omega) (by omega) (by omega) (by omega)]; exact f_23
          have hm_1018 : M_991 24 = some (aJ G 2160 sx) := by rw [hF_1000 24 (by omega) (by omega) (by omega) (by omega) (by omega)]; exact f_24
          have hm_1019 : M_991 25 = some (aI G 6 (nF ft)) := by rw [hF_1000 25 (by omega) (by omega) (by omega) (by omega) (by omega)]; exact f_25
          have hm_1020 : M_991 26 = some (aJ G 240 rx) := by rw [hF_1000 26 (by omega) (by omega) (by omega) (by omega) (by omega)]; exact f_26
          have hm_1021 : M_991 27 = some (aJ G 3 dm) := by rw [hF_1000 27 (by omega) (by omega) (by omega) (by omega) (by omega)]; exact f_27
          have hm_1022 : M_991 28 = some (aI G 3 rc) := by rw [hF_1000 28 (by omega) (by omega) (by omega) (by omega) (by omega)]; exact f_28
          have hm_1023 : M_991 qa = some (cQuestion ad qa ao vr) := by rw [hF_1000 qa (by omega) (by omega) (by omega) (by omega) (by omega)]; exact f_qa
          have hm_1024 : M_991 (qa + 1) = some (aI G 6 (nF kn)) := by rw [hF_1000 (qa + 1) (by omega) (by omega) (by omega) (by omega) (by omega)]; exact f_qa_1
          have hm_1025 : M_991 (qa + 2) = some (aZ G 6 (bF nq)) := by rw [hF_1000 (qa + 2) (by omega) (by omega) (by omega) (by omega) (by omega)]; exact f_qa_2
          have hm_1026 : M_991 (qa + 3) = some (aI G 6 (nF pn)) := by rw [hF_1000 (qa + 3) (by omega) (by omega) (by omega) (by omega) (by omega)]; exact f_qa_3
          have hm_1027 : M_991 (qa + 4) = some (aI G 6 (nF av)) := by rw [hF_1000 (qa + 4) (by omega) (by omega) (by omega) (by omega) (by omega)]; exact f_qa_4
          have hm_1028 : M_991 (qa + 5) = some (aI G 24 (nF ro)) := by rw [hF_1000 (qa + 5) (by omega) (by omega) (by omega) (by omega) (by omega)]; exact f_qa_5
          have hm_1029 : M_991 (qa + 6) = some (aI G 24 (nF te)) := by rw [hF_1000 (qa + 6) (by omega) (by omega) (by omega) (by omega) (by omega)]; exact f_qa_6
          have hm_1030 : M_991 qs = some (cQuestion ad qs sq su) := by rw [hF_1000 qs (by omega) (by omega) (by omega) (by omega) (by omega)]; exact f_qs
          have hm_1031 : M_991 (qs + 1) = some (aI G 6 (nF kb)) := by rw [hF_1000 (qs + 1) (by omega) (by omega) (by omega) (by omega) (by omega)]; exact f_qs_1
          have hm_1032 : M_991 (qs + 2) = some (aZ G 6 (bF nb)) := by rw [hF_1000 (qs + 2) (by omega) (by omega) (by omega) (by omega) (by omega)]; exact f_qs_2
          have hm_1033 : M_991 (qs + 3) = some (aI G 6 (nF pb)) := by rw [hF_1000 (qs + 3) (by omega) (by omega) (by omega) (by omega) (by omega)]; exact f_qs_3
          have hm_1034 : M_991 (qs + 4) = some (aI G 6 (nF ab)) := by rw [hF_1000 (qs + 4) (by omega) (by omega) (by omega) (by omega) (by omega)]; exact f_qs_4
          have hm_1035 : M_991 (qs + 5) = some (aI G 24 (nF rbb)) := by rw [hF_1000 (qs + 5) (by omega) (by omega) (by omega) (by omega) (by omega)]; exact f_qs_5
          have hm_1036 : M_991 (qs + 6) = some (aI G 24 (nF tbb)) := by rw [hF_1000 (qs + 6) (by omega) (by omega) (by omega) (by omega) (by omega)]; exact f_qs_6
          have hm_1037 : M_991 60 = some (cModel ad tw n jn ao vr sn len pt zs bg fw) := by rw [hF_1000 60 (by omega) (by omega) (by omega) (by omega) (by omega)]; exact f_60
          have hm_1038 : M_991 61 = some (aI G 36 (nF le)) := by rw [hF_1000 61 (by omega) (by omega) (by omega) (by omega) (by omega)]; exact f_61
          have hm_1039 : M_991 62 = some (aI G 36 (nF mo)) := by rw [hF_1000 62 (by omega) (by omega) (by omega) (by omega) (by omega)]; exact f_62
          have hm_1040 : M_991 63 = some (aI G 36 (nF al)) := by rw [hF_1000 63 (by omega) (by omega) (by omega) (by omega) (by omega)]; exact f_63
          have hm_1041 : M_991 64 = some (aZ G 6 (bF ho)) := by rw [hF_1000 64 (by omega) (by omega) (by omega) (by omega) (by omega)]; exact f_64
          have hm_1042 : M_991 65 = some (aI G 120 (nF mk)) := by rw [hF_1000 65 (by omega) (by omega) (by omega) (by omega) (by omega)]; exact f_65
          have hm_1043 : M_991 66 = some (aI G 120 mf) := by rw [hF_1000 66 (by omega) (by omega) (by omega) (by omega) (by omega)]; exact f_66
          have hm_1044 : M_991 67 = some (aI G 120 mu) := by rw [hF_1000 67 (by omega) (by omega) (by omega) (by omega) (by omega)]; exact f_67
          have hm_1045 : M_991 68 = some (aI G 121 (nF mz)) := by rw [hF_1000 68 (by omega) (by omega) (by omega) (by omega) (by omega)]; exact f_68
          have hm_1046 : M_991 69 = some (aI G 726 (nF rr)) := by rw [hF_1000 69 (by omega) (by omega) (by omega) (by omega) (by omega)]; exact f_69
          have hm_1047 : M_991 70 = some (aI G 726 (nF ee)) := by rw [hF_1000 70 (by omega) (by omega) (by omega) (by omega) (by omega)]; exact f_70
          have hm_1048 : M_991 71 = some (aI G 40 (nF lst)) := by rw [hF_1000 71 (by omega) (by omega) (by omega) (by omega) (by omega)]; exact f_71
          have hm_1049 : M_991 72 = some (aI G 40 (nF oa)) := by rw [hF_1000 72 (by omega) (by omega) (by omega) (by omega) (by omega)]; exact f_72
          have hm_1050 : M_991 73 = some (aI G 40 (nF ob)) := by rw [hF_1000 73 (by omega) (by omega) (by omega) (by omega) (by omega)]; exact f_73
          have hm_1051 : M_991 74 = some (aI G 120 s74) := by rw [hF_1000 74 (by omega) (by omega) (by omega) (by omega) (by omega)]; exact f_74
          have hm_1052 : M_991 75 = some (aI G 12 ak) := by rw [hF_1000 75 (by omega) (by omega) (by omega) (by omega) (by omega)]; exact f_75
          have hm_1053 : M_991 76 = some (aZ G 12 (bF nm)) := by rw [hF_1000 76 (by omega) (by omega) (by omega) (by omega) (by omega)]; exact f_76
          have hm_1054 : M_991 77 = some (aI G 12 (nF ap)) := by rw [hF_1000 77 (by omega) (by omega) (by omega) (by omega) (by omega)]; exact f_77
          have hm_1055 : M_991 78 = some (aI G 48 pr) := by rw [hF_1000 78 (by omega) (by omega) (by omega) (by omega) (by omega)]; exact f_78
          have hm_1056 : M_991 79 = some (aI G 48 pf) := by rw [hF_1000 79 (by omega) (by omega) (by omega) (by omega) (by omega)]; exact f_79
          have hm_1057 : M_991 80 = some (aB G 400 tf) := by rw [hF_1000 80 (by omega) (by omega) (by omega) (by omega) (by omega)]; exact f_80
          have hm_1058 : M_991 81 = some (aI G 5 fv) := by rw [hF_1000 81 (by omega) (by omega) (by omega) (by omega) (by omega)]; exact f_81
          have hm_1059 : M_991 82 = some (aZ G 384000 (bF tr)) := by rw [hF_1000 82 (by omega) (by omega) (by omega) (by omega) (by omega)]; exact f_82
          have hm_1060 : M_991 83 = some (aI G 3 (oF gv)) := by rw [hF_1000 83 (by omega) (by omega) (by omega) (by omega) (by omega)]; exact f_83
          have hm_1061 : M_991 84 = some (aI G 3 fo) := by rw [hF_1000 84 (by omega) (by omega) (by omega) (by omega) (by omega)]; exact f_84
          have hm_1062 : M_991 85 = some (aZ G 40 (bF re)) := by rw [hF_1000 85 (by omega) (by omega) (by omega) (by omega) (by omega)]; exact f_85
          have hm_1063 : M_991 86 = some (aZ G 120 (bF us)) := by rw [hF_1000 86 (by omega) (by omega) (by omega) (by omega) (by omega)]; exact f_86
          have hm_1064 : M_991 87 = some (aZ G 120 (bF nx)) := by rw [hF_1000 87 (by omega) (by omega) (by omega) (by omega) (by omega)]; exact f_87
          have hm_1065 : M_991 16 = some (cLines ad ) := by rw [hF_1000 16 (by omega) (by omega) (by omega) (by omega) (by omega)]; exact h16
          have hL_1066 : LSm G ad M_991 n kd fm to sz rl en := fL.keep (fun j hj => hF_1000 j (by omega) (by omega) (by omega) (by omega) (by omega))
          have hF_1067 : ∀ j : Nat, j ≠ 12 → j ≠ 13 → j ≠ 14 → j ≠ 15 → j ≠ 99 → M_991 j = M j := fun j q0 q1 q2 q3 q4 => (hF_1000 j q0 q1 q2 q3 q4)
          rw [hr_994]
          refine lv_istore (lv' := [(5, .int (nI 0)), (0, .ref b), (1, .ref (ad 0)), (2, .ref (ad 60)), (3, .ref (ad 99)), (4, .int (nI i))]) hx hb dL_law_488 hl (by decide) rfl (fun ls hl => ?_)
          refine lv_aload_n hx hb dL_law_490 rfl (lv_at hl 3 rfl) ?_
          refine lv_aload_n hx hb dL_law_491 rfl (lv_at hl 1 rfl) ?_
          refine lv_iload hx hb dL_law_492 (lv_at hl 5 rfl) ?_
          refine lv_iconst (v := nI 1) hx hb dL_law_494 (by decide) ?_
          refine lv_iadd hx hb dL_law_495 ?_
          refine n_eq (nI_add i 1) ?_
          refine va_sld (A := fr z) hx hb hX hbl hbz hI.S (vp_in_nI (n := i + 1) (by omega) (by omega)) dL_law_496 ?_
          rw [nI_clamp (by omega)]
          refine n_eq (show _ = nI t1 from et1) ?_
          refine lv_aload_n hx hb dL_law_497 rfl (lv_at hl 1 rfl) ?_
          refine lv_iload hx hb dL_law_498 (lv_at hl 5 rfl) ?_
          refine lv_iconst (v := nI 2) hx hb dL_law_500 (by decide) ?_
          refine lv_iadd hx hb dL_law_501 ?_
          refine n_eq (nI_add i 2) ?_
          refine va_sld (A := fr z) hx hb hX hbl hbz hI.S (vp_in_nI (n := i + 2) (by omega) (by omega)) dL_law_502 ?_
          rw [nI_clamp (by omega)]
          refine lv_if_eq (tgt := 510) hx hb dL_law_503 (by decide) (fun c_1068 => ?_) (fun c_1068 => ?_)
          · -- 503: xs (i + 2) eq
            exact absurd c_1068 (by assumption)
          · -- 503: xs (i + 2) ne
            refine lv_iconst (v := nI 1) hx hb dL_law_506 (by decide) ?_
            refine n_eq (show _ = bI true from rfl) ?_
            refine lv_goto (tgt := 511) hx hb dL_law_507 (by decide) ?_
            refine lv_aload_n hx hb dL_law_511 rfl (lv_at hl 1 rfl) ?_
            refine lv_iload hx hb dL_law_512 (lv_at hl 5 rfl) ?_
            refine lv_iconst (v := nI 3) hx hb dL_law_514 (by decide) ?_
            refine lv_iadd hx hb dL_law_515 ?_
            refine n_eq (nI_add i 3) ?_
            refine va_sld (A := fr z) hx hb hX hbl hbz hI.S (vp_in_nI (n := i + 3) (by omega) (by omega)) dL_law_516 ?_
            rw [nI_clamp (by omega)]
            refine n_eq (show _ = nI t3 from et3) ?_
            refine k_Ni (va_runV (As := [.int (nI t1), .int (bI true), .int (nI t3)]) (rest := []) ⟨hx, hb, hml, hown, hts⟩ (c_X10_draft l G z ad M_991 (th := tw) (on := jn) (ao := ao) (vr := vr) (sn := sn) (tp := len) (pt := pt) (zs := zs) (bg := bg) (fa := fw) (n := n) (mz := mz) (rr := rr) (ee := ee) (x := t1) (b := true) (t := t3) hm_1037 hm_1045 hm_1046 hm_1047 hw1 ht1 (fun _ => ht3) (fun h => absurd h (by decide)) (by omega)) (cwV 3 hts (gV (lwg_of t_1153 rfl) (lwg_of t_1154 rfl) (lwg_of t_1155 rfl) (lwg_of t_13 rfl) (lwg_of t_1156 rfl)) rfl rfl rfl (by decide +kernel) ⟨Nat.le_of_ble_eq_true rfl, Nat.le_of_ble_eq_true rfl⟩) (hI.preV hm_1037 rfl) rfl rfl hl.1 rfl (lv_room (Nat.le_of_ble_eq_true rfl)) dL_law_517 ⟨(show _ ≤ (601024 : Nat) from by omega), (show _ ≤ (7293034 : Nat) from by omega)⟩) hI (fun r_1069 M_1071 H_1072 locs_1073 hp_1070 hI => ?_)
            obtain ⟨hr_1074, hm_1075, hm_1076, hm_1077, hm_1078, hF_1079⟩ := hp_1070
            have hm_1080 : M_1071 0 = some (cStore ad qa qs fw) := by rw [hF_1079 0 (by omega) (by omega) (by omega) (by omega)]; exact hm_1001
            have hm_1081 : M_1071 1 = some (cTape ad len) := by rw [hF_1079 1 (by omega) (by omega) (by omega) (by omega)]; exact hm_1002
            have hm_1082 : M_1071 2 = some (aI G 400 (nF tb)) := by rw [hF_1079 2 (by omega) (by omega) (by omega) (by omega)]; exact hm_1003
            have hm_1083 : M_1071 3 = some (cLaws ad ) := by rw [hF_1079 3 (by omega) (by omega) (by omega) (by omega)]; exact hm_1004
            have hm_1084 : M_1071 4 = some (aI G 36 (nF le)) := by rw [hF_1079 4 (by omega) (by omega) (by omega) (by omega)]; exact hm_1005
            have hm_1085 : M_1071 5 = some (aI G 36 (nF mo)) := by rw [hF_1079 5 (by omega) (by omega) (by omega) (by omega)]; exact hm_1006
            have hm_1086 : M_1071 6 = some (aI G 36 (nF al)) := by rw [hF_1079 6 (by omega) (by omega) (by omega) (by omega)]; exact hm_1007
            have hm_1087 : M_1071 7 = some (aZ G 6 (bF ho)) := by rw [hF_1079 7 (by omega) (by omega) (by omega) (by omega)]; exact hm_1008
            have hm_1088 : M_1071 8 = some (cOnes ad jn) := by rw [hF_1079 8 (by omega) (by omega) (by omega) (by omega)]; exact hm_1009
            have hm_1089 : M_1071 9 = some (aI G 40 (nF hg)) := by rw [hF_1079 9 (by omega) (by omega) (by omega) (by omega)]; exact hm_1010
            have hm_1090 : M_1071 10 = some (aI G 40 (nF lst)) := by rw [hF_1079 10 (by omega) (by omega) (by omega) (by omega)]; exact hm_1011
            have hm_1091 : M_1071 11 = some (aI G 40 (nF jd)) := by rw [hF_1079 11 (by omega) (by omega) (by omega) (by omega)]; exact hm_1012
            have hm_1092 : M_1071 12 = some (cEnds ad 12 (s0 + 1)) := by rw [hF_1079 12 (by omega) (by omega) (by omega) (by omega)]; exact hm_995
            have hm_1093 : M_1071 13 = some (aI G 6 (nF (va_up r0 s0 t1))) := by rw [hF_1079 13 (by omega) (by omega) (by omega) (by omega)]; exact hm_996
            have hm_1094 : M_1071 14 = some (aI G 6 (oF (va_up th s0 (if true = true then none else some t3)))) := by rw [hF_1079 14 (by omega) (by omega) (by omega) (by omega)]; exact hm_997
            have hm_1095 : M_1071 15 = some (aI G 6 (oF (va_up ol s0 (if true = true then some t3 else none)))) := by rw [hF_1079 15 (by omega) (by omega) (by omega) (by omega)]; exact hm_998
            have hm_1096 : M_1071 19 = some (aZ G 120 (bF mm9)) := by rw [hF_1079 19 (by omega) (by omega) (by omega) (by omega)]; exact hm_1013
            have hm_1097 : M_1071 20 = some (aI G 120 ff) := by rw [hF_1079 20 (by omega) (by omega) (by omega) (by omega)]; exact hm_1014
            have hm_1098 : M_1071 21 = some (aI G 120 lq) := by rw [hF_1079 21 (by omega) (by omega) (by omega) (by omega)]; exact hm_1015
            have hm_1099 : M_1071 22 = some (cReader ad ra rb rt rv) := by rw [hF_1079 22 (by omega) (by omega) (by omega) (by omega)]; exact hm_1016
            have hm_1100 : M_1071 23 = some (cMatcher ad qm pz) := by rw [hF_1079 23 (by omega) (by omega) (by omega) (by omega)]; exact hm_1017
            have hm_1101 : M_1071 24 = some (aJ G 2160 sx) := by rw [hF_1079 24 (by omega) (by omega) (by omega) (by omega)]; exact hm_1018
            have hm_1102 : M_1071 25 = some (aI G 6 (nF ft)) := by rw [hF_1079 25 (by omega) (by omega) (by omega) (by omega)]; exact hm_1019
            have hm_1103 : M_1071 26 = some (aJ G 240 rx) := by rw [hF_1079 26 (by omega) (by omega) (by omega) (by omega)]; exact hm_1020
            have hm_1104 : M_1071 27 = some (aJ G 3 dm) := by rw [hF_1079 27 (by omega) (by omega) (by omega) (by omega)]; exact hm_1021
            have hm_1105 : M_1071 28 = some (aI G 3 rc) := by rw [hF_1079 28 (by omega) (by omega) (by omega) (by omega)]; exact hm_1022
            have hm_1106 : M_1071 qa = some (cQuestion ad qa ao vr) := by rw [hF_1079 qa (by omega) (by omega) (by omega) (by omega)]; exact hm_1023
            have hm_1107 : M_1071 (qa + 1) = some (aI G 6 (nF kn)) := by rw [hF_1079 (qa + 1) (by omega) (by omega) (by omega) (by omega)]; exact hm_1024
            have hm_1108 : M_1071 (qa + 2) = some (aZ G 6 (bF nq)) := by rw [hF_1079 (qa + 2) (by omega) (by omega) (by omega) (by omega)]; exact hm_1025
            have hm_1109 : M_1071 (qa + 3) = some (aI G 6 (nF pn)) := by rw [hF_1079 (qa + 3) (by omega) (by omega) (by omega) (by omega)]; exact hm_1026
            have hm_1110 : M_1071 (qa + 4) = some (aI G 6 (nF av)) := by rw [hF_1079 (qa + 4) (by omega) (by omega) (by omega) (by omega)]; exact hm_1027
            have hm_1111 : M_1071 (qa + 5) = some (aI G 24 (nF ro)) := by rw [hF_1079 (qa + 5) (by omega) (by omega) (by omega) (by omega)]; exact hm_1028
            have hm_1112 : M_1071 (qa + 6) = some (aI G 24 (nF te)) := by rw [hF_1079 (qa + 6) (by omega) (by omega) (by omega) (by omega)]; exact hm_1029
            have hm_1113 : M_1071 qs = some (cQuestion ad qs sq su) := by rw [hF_1079 qs (by omega) (by omega) (by omega) (by omega)]; exact hm_1030
            have hm_1114 : M_1071 (qs + 1) = some (aI G 6 (nF kb)) := by rw [hF_1079 (qs + 1) (by omega) (by omega) (by omega) (by omega)]; exact hm_1031
            have hm_1115 : M_1071 (qs + 2) = some (aZ G 6 (bF nb)) := by rw [hF_1079 (qs + 2) (by omega) (by omega) (by omega) (by omega)]; exact hm_1032
            have hm_1116 : M_1071 (qs + 3) = some (aI G 6 (nF pb)) := by rw [hF_1079 (qs + 3) (by omega) (by omega) (by omega) (by omega)]; exact hm_1033
            have hm_1117 : M_1071 (qs + 4) = some (aI G 6 (nF ab)) := by rw [hF_1079 (qs + 4) (by omega) (by omega) (by omega) (by omega)]; exact hm_1034
            have hm_1118 : M_1071 (qs + 5) = some (aI G 24 (nF rbb)) := by rw [hF_1079 (qs + 5) (by omega) (by omega) (by omega) (by omega)]; exact hm_1035
            have hm_1119 : M_1071 (qs + 6) = some (aI G 24 (nF tbb)) := by rw [hF_1079 (qs + 6) (by omega) (by omega) (by omega) (by omega)]; exact hm_1036
            have hm_1120 : M_1071 61 = some (aI G 36 (nF le)) := by rw [hF_1079 61 (by omega) (by omega) (by omega) (by omega)]; exact hm_1038
            have hm_1121 : M_1071 62 = some (aI G 36 (nF mo)) := by rw [hF_1079 62 (by omega) (by omega) (by omega) (by omega)]; exact hm_1039
            have hm_1122 : M_1071 63 = some (aI G 36 (nF al)) := by rw [hF_1079 63 (by omega) (by omega) (by omega) (by omega)]; exact hm_1040
            have hm_1123 : M_1071 64 = some (aZ G 6 (bF ho)) := by rw [hF_1079 64 (by omega) (by omega) (by omega) (by omega)]; exact hm_1041
            have hm_1124 : M_1071 65 = some (aI G 120 (nF mk)) := by rw [hF_1079 65 (by omega) (by omega) (by omega) (by omega)]; exact hm_1042
            have hm_1125 : M_1071 66 = some (aI G 120 mf) := by rw [hF_1079 66 (by omega) (by omega) (by omega) (by omega)]; exact hm_1043
            have hm_1126 : M_1071 67 = some (aI G 120 mu) := by rw [hF_1079 67 (by omega) (by omega) (by omega) (by omega)]; exact hm_1044
            have hm_1127 : M_1071 71 = some (aI G 40 (nF lst)) := by rw [hF_1079 71 (by omega) (by omega) (by omega) (by omega)]; exact hm_1048
            have hm_1128 : M_1071 72 = some (aI G 40 (nF oa)) := by rw [hF_1079 72 (by omega) (by omega) (by omega) (by omega)]; exact hm_1049
            have hm_1129 : M_1071 73 = some (aI G 40 (nF ob)) := by rw [hF_1079 73 (by omega) (by omega) (by omega) (by omega)]; exact hm_1050
            have hm_1130 : M_1071 74 = some (aI G 120 s74) := by rw [hF_1079 74 (by omega) (by omega) (by omega) (by omega)]; exact hm_1051
            have hm_1131 : M_1071 75 = some (aI G 12 ak) := by rw [hF_1079 75 (by omega) (by omega) (by omega) (by omega)]; exact hm_1052
            have hm_1132 : M_1071 76 = some (aZ G 12 (bF nm)) := by rw [hF_1079 76 (by omega) (by omega) (by omega) (by omega)]; exact hm_1053
            have hm_1133 : M_1071 77 = some (aI G 12 (nF ap)) := by rw [hF_1079 77 (by omega) (by omega) (by omega) (by omega)]; exact hm_1054
            have hm_1134 : M_1071 78 = some (aI G 48 pr) := by rw [hF_1079 78 (by omega) (by omega) (by omega) (by omega)]; exact hm_1055
            have hm_1135 : M_1071 79 = some (aI G 48 pf) := by rw [hF_1079 79 (by omega) (by omega) (by omega) (by omega)]; exact hm_1056
            have hm_1136 : M_1071 80 = some (aB G 400 tf) := by rw [hF_1079 80 (by omega) (by omega) (by omega) (by omega)]; exact hm_1057
            have hm_1137 : M_1071 81 = some (aI G 5 fv) := by rw [hF_1079 81 (by omega) (by omega) (by omega) (by omega)]; exact hm_1058
            have hm_1138 : M_1071 82 = some (aZ G 384000 (bF tr)) := by rw [hF_1079 82 (by omega) (by omega) (by omega) (by omega)]; exact hm_1059
            have hm_1139 : M_1071 83 = some (aI G 3 (oF gv)) := by rw [hF_1079 83 (by omega) (by omega) (by omega) (by omega)]; exact hm_1060
            have hm_1140 : M_1071 84 = some (aI G 3 fo) := by rw [hF_1079 84 (by omega) (by omega) (by omega) (by omega)]; exact hm_1061
            have hm_1141 : M_1071 85 = some (aZ G 40 (bF re)) := by rw [hF_1079 85 (by omega) (by omega) (by omega) (by omega)]; exact hm_1062
            have hm_1142 : M_1071 86 = some (aZ G 120 (bF us)) := by rw [hF_1079 86 (by omega) (by omega) (by omega) (by omega)]; exact hm_1063
            have hm_1143 : M_1071 87 = some (aZ G 120 (bF nx)) := by rw [hF_1079 87 (by omega) (by omega) (by omega) (by omega)]; exact hm_1064
            have hm_1144 : M_1071 99 = some (aJ G 1 (vp_updL of 0 ((nI (s0 + 1)).toInt64))) := by rw [hF_1079 99 (by omega) (by omega) (by omega) (by omega)]; exact hm_999
            have hm_1145 : M_1071 16 = some (cLines ad ) := by rw [hF_1079 16 (by omega) (by omega) (by omega) (by omega)]; exact hm_1065
            have hL_1146 : LSm G ad M_1071 n kd fm to sz rl en := hL_1066.keep (fun j hj => hF_1079 j (by omega) (by omega) (by omega) (by omega))
            have hF_1147 : ∀ j : Nat, j ≠ 12 → j ≠ 13 → j ≠ 14 → j ≠ 15 → j ≠ 99 → j ≠ 60 → j ≠ 68 → j ≠ 69 → j ≠ 70 → M_1071 j = M j := fun j q0 q1 q2 q3 q4 q5 q6 q7 q8 => (hF_1079 j q5 q6 q7 q8).trans (hF_1067 j q0 q1 q2 q3 q4)
            rw [hr_1074]
            refine lv_istore (lv' := [(6, .int (nI (mz 120 + 1))), (5, .int (nI 0)), (0, .ref b), (1, .ref (ad 0)), (2, .ref (ad 60)), (3, .ref (ad 99)), (4, .int (nI i))]) hx hb dL_law_520 hl (by decide) rfl (fun ls hl => ?_)
            refine lv_aload_n hx hb dL_law_522 rfl (lv_at hl 4 rfl) ?_
            refine k_Ri (va_runV (As := []) (rest := []) ⟨hx, hb, hml, hown, hts⟩ (c_X10_thrown l G z ad M_1071 (th := 0) (ln := n) (on := jn) (ao := ao) (vr := vr) (sn := sn) (tp := len) (pt := pt) (zs := zs) (bg := bg) (fa := fw) hm_1075) (cwV 0 hts (gV (lwg_of t_997 rfl) (lwg_of t_998 rfl) (lwg_of t_999 rfl) (lwg_of t_13 rfl) (lwg_of t_1000 rfl)) rfl rfl rfl (by decide +kernel) ⟨Nat.le_of_ble_eq_true rfl, Nat.le_of_ble_eq_true rfl⟩) (hI.preV hm_1075 rfl) rfl rfl hl.1 rfl (lv_room (Nat.le_of_ble_eq_true rfl)) dL_law_523 ⟨(show _ ≤ (601024 : Nat) from by omega), (show _ ≤ (7293034 : Nat) from by omega)⟩) (fun _ h => h) (fun r_1148 hp_1149 => ?_)
            rw [hp_1149]
            refine lv_iload hx hb dL_law_526 (lv_at hl 1 rfl) ?_
            refine lv_icmp_eq (tgt := 533) hx hb dL_law_528 (by decide) (fun c_1150 => ?_) (fun c_1150 => ?_)
            · -- 528: nI 0 eq
              refine lv_iload hx hb dL_law_533 (lv_at hl 1 rfl) ?_
              refine lv_if_ne (tgt := 550) hx hb dL_law_535 (by decide) (fun c_1151 => ?_) (fun c_1151 => ?_)
              · -- 535: nI 0 ne
                exact absurd (by decide) c_1151
              · -- 535: nI 0 eq
                refine lv_aload_n hx hb dL_law_538 rfl (lv_at hl 5 rfl) ?_
                refine lv_iconst (v := nI 0) hx hb dL_law_539 (by decide) ?_
                refine h_lald (i := 0) hx hb hI hm_1144 (by omega) (by decide) dL_law_540 ?_
                refine n_eql (show _ = (nI (mz 120 + 1)).toInt64 from updL_0.trans (by rw [w8])) ?_
                refine lv_iload hx hb dL_law_541 (lv_at hl 0 rfl) ?_
                refine lv_i2l (v := (nI (mz 120 + 1)).toInt64) hx hb dL_law_543 rfl ?_
                refine W.lcmp hx hb dL_law_544 ?_
                refine lv_if_eq (tgt := 550) hx hb dL_law_545 (by decide) (fun c_1152 => ?_) (fun c_1152 => ?_)
                · -- 545: lg_cmp ((nI (mz 120 + 1)).toInt64) ((nI (mz 120 + 1)).toInt6 eq
                  have c_1152 : (nI (mz 120 + 1)).toInt64 = (nI (mz 120 + 1)).toInt64 := (lg_cmp_eq _ _).mp c_1152
                  refine lv_goto (tgt := 1333) hx hb dL_law_550 (by decide) ?_
                  refine W.widen (k := cz + 10) (n := sy + 300) (by omega) (by omega) ?_
                  exact kk ad M_1071 H_1072 locs_1073 ls n kd fm to sz rl en qa qs fw len tb le mo al ho jn hg lst jd (s0 + 1) (va_up r0 s0 t1) (va_up th s0 (if true = true then none else some t3)) (va_up ol s0 (if true = true then some t3 else none)) (va_up e0 s0 (if true = true then 40 + t3 else t3)) mm9 ff lq ra rb rt rv qm pz sx ft rx dm rc ao vr kn nq pn av ro te sq su kb nb pb ab rbb tbb 0 sn pt zs bg mk mf mu (va_up mz 120 (mz 120 + 1)) (va_up rr (720 + mz 120) t1) (va_up ee (720 + mz 120) (if true = true then 40 + t3 else t3)) oa ob s74 ak nm ap pr pf tf fv tr gv fo re us nx (vp_updL of 0 ((nI (s0 + 1)).toInt64)) hL_1146 w1 (mrel_dr w2 w1) w3 w4 w5 w6 (by omega) ((va_up_self _ _ _).trans (by rw [w8])) (dr9 w8 w9) (up_ltS w10 ht1) (up_ltS w11 (e_lt true t3 n (fun _ => ht3) (fun h => absurd h (by decide)))) (dr12 (T := thE) (t := thT) (fun _ _ => rfl) w12 (thv true t3 (fun _ => by omega) (fun h => absurd h (by decide)))) (dr12 (T := olE) (t := olT) (fun _ _ => rfl) w13 (olv true t3 (fun _ => by omega) (fun h => absurd h (by decide)))) w14 w15 w16 w17 w18 w19 w20 w21 w22 w23 w24 w25 w26 w27 w28 w29 (fun h9 => by rw [hF_1147 17 (by omega) (by omega) (by omega) (by omega) (by omega) (by omega) (by omega) (by omega) (by omega), hF_1147 18 (by omega) (by omega) (by omega) (by omega) (by omega) (by omega) (by omega) (by omega) (by omega)]; exact w30 h9) (by rw [hF_1147 29 (by omega) (by omega) (by omega) (by omega) (by omega) (by omega) (by omega) (by omega) (by omega)]; exact w31) (fun j9 h9 => by rw [hF_1147 j9 (by omega) (by omega) (by omega) (by omega) (by omega) (by omega) (by omega) (by omega) (by omega)]; exact w32 j9 h9) hm_1080 hm_1081 hm_1082 hm_1083 hm_1084 hm_1085 hm_1086 hm_1087 hm_1088 hm_1089 hm_1090 hm_1091 hm_1092 hm_1093 hm_1094 hm_1095 hm_1096 hm_1097 hm_1098 hm_1099 hm_1100 hm_1101 hm_1102 hm_1103 hm_1104 hm_1105 hm_1106 hm_1107 hm_1108 hm_1109 hm_1110 hm_1111 hm_1112 hm_1113 hm_1114 hm_1115 hm_1116 hm_1117 hm_1118 hm_1119 hm_1075 hm_1120 hm_1121 hm_1122 hm_1123 hm_1124 hm_1125 hm_1126 hm_1076 hm_1077 hm_1078 hm_1127 hm_1128 hm_1129 hm_1130 hm_1131 hm_1132 hm_1133 hm_1134 hm_1135 hm_1136 hm_1137 hm_1138 hm_1139 hm_1140 hm_1141 hm_1142 hm_1143 hm_1144 hI (lv_sub hl [2, 3, 4, 5, 6] rfl)
                · -- 545: lg_cmp ((nI (mz 120 + 1)).toInt64) ((nI (mz 120 + 1)).toInt6 ne
                  have c_1152 : (nI (mz 120 + 1)).toInt64 ≠ (nI (mz 120 + 1)).toInt64 := (fun h => c_1152 ((lg_cmp_eq _ _).mpr h))
                  exact absurd rfl c_1152
            · -- 528: nI 0 ne
              exact absurd (by decide) c_1150
        · skip
          refine lv_iadd hx hb dL_law_482 ?_
          refine n_eq (nI_add i 3) ?_
          refine va_sld (A := fr z) hx hb hX hbl hbz hI.S (vp_in_nI (n := i + 3) (by omega) (by omega)) dL_law_483 ?_
          rw [nI_clamp (by omega)]
          refine n_eq (show _ = nI t3 from et3) ?_
          refine lv_aload_n hx hb dL_law_484 rfl (lv_at hl 3 rfl) ?_
          refine k_Ni (vx_runSW (As := [.ref (ad 0), .int (nI t1), .int (bI true), .int (nI t3), .ref (ad 99)]) (rest := []) ⟨hx, hb, hml, hown, hts⟩ (c_L_draft_full l hst G z ad M (n := n) (kd := kd) (fm := fm) (to := to) (sz := sz) (rl := rl) (en := en) (qa := qa) (qs := qs) (fw := fw) (s0 := s0) (x := t1) (b := true) (t := t3) (of := of) fL f_0 f_12 f_99 w1 ht1 (fun _ => ht3) (fun h => absurd h (by decide)) (by omega)) (vx_cwSW 5 hts (gSW (lwg_of t_596 rfl) (lwg_of t_597 rfl) (lwg_of t_0 rfl) (lwg_of t_598 rfl)) rfl rfl rfl (by decide +kernel) ⟨Nat.le_of_ble_eq_true rfl, Nat.le_of_ble_eq_true rfl⟩) hI.preS rfl rfl hl.1 rfl (lv_room (Nat.le_of_ble_eq_true rfl)) dL_law_485 ⟨(show _ ≤ (601024 : Nat) from by omega), (show _ ≤ (7293034 : Nat) from by omega)⟩) hI (fun r_1153 M_1155 H_1156 locs_1157 hp_1154 hI => ?_)
          obtain ⟨hr_1158, hm_1159, hF_1160⟩ := hp_1154
          have hm_1161 : M_1155 0 = some (cStore ad qa qs fw) := by rw [hF_1160 0 (by omega)]; exact f_0
          have hm_1162 : M_1155 1 = some (cTape ad len) := by rw [hF_1160 1 (by omega)]; exact f_1
          have hm_1163 : M_1155 2 = some (aI G 400 (nF tb)) := by rw [hF_1160 2 (by omega)]; exact f_2
          have hm_1164 : M_1155 3 = some (cLaws ad ) := by rw [hF_1160 3 (by omega)]; exact f_3
          have hm_1165 : M_1155 4 = some (aI G 36 (nF le)) := by rw [hF_1160 4 (by omega)]; exact f_4
          have hm_1166 : M_1155 5 = some (aI G 36 (nF mo)) := by rw [hF_1160 5 (by omega)]; exact f_5
          have hm_1167 : M_1155 6 = some (aI G 36 (nF al)) := by rw [hF_1160 6 (by omega)]; exact f_6
          have hm_1168 : M_1155 7 = some (aZ G 6 (bF ho)) := by rw [hF_1160 7 (by omega)]; exact f_7
          have hm_1169 : M_1155 8 = some (cOnes ad jn) := by rw [hF_1160 8 (by omega)]; exact f_8
          have hm_1170 : M_1155 9 = some (aI G 40 (nF hg)) := by rw [hF_1160 9 (by omega)]; exact f_9
          have hm_1171 : M_1155 10 = some (aI G 40 (nF lst)) := by rw [hF_1160 10 (by omega)]; exact f_10
          have hm_1172 : M_1155 11 = some (aI G 40 (nF jd)) := by rw [hF_1160 11 (by omega)]; exact f_11
          have hm_1173 : M_1155 12 = some (cEnds ad 12 s0) := by rw [hF_1160 12 (by omega)]; exact f_12
          have hm_1174 : M_1155 13 = some (aI G 6 (nF r0)) := by rw [hF_1160 13 (by omega)]; exact f_13
          have hm_1175 : M_1155 14 = some (aI G 6 (oF th)) := by rw [hF_1160 14 (by omega)]; exact f_14
          have hm_1176 : M_1155 15 = some (aI G 6 (oF ol)) := by rw [hF_1160 15 (by omega)]; exact f_15
          have hm_1177 : M_1155 19 = some (aZ G 120 (bF mm9)) := by rw [hF_1160 19 (by omega)]; exact f_19
          have hm_1178 : M_1155 20 = some (aI G 120 ff) := by rw [hF_1160 20 (by omega)]; exact f_20
          have hm_1179 : M_1155 21 = some (aI G 120 lq) := by rw [hF_1160 21 (by omega)]; exact f_21
          have hm_1180 : M_1155 22 = some (cReader ad ra rb rt rv) := by rw [hF_1160 22 (by omega)]; exact f_22
          have hm_1181 : M_1155 23 = some (cMatcher ad qm pz) := by rw [hF_1160 23 (by omega)]; exact f_23
          have hm_1182 : M_1155 24 = some (aJ G 2160 sx) := by rw [hF_1160 24 (by omega)]; exact f_24
          have hm_1183 : M_1155 25 = some (aI G 6 (nF ft)) := by rw [hF_1160 25 (by omega)]; exact f_25
          have hm_1184 : M_1155 26 = some (aJ G 240 rx) := by rw [hF_1160 26 (by omega)]; exact f_26
          have hm_1185 : M_1155 27 = some (aJ G 3 dm) := by rw [hF_1160 27 (by omega)]; exact f_27
          have hm_1186 : M_1155 28 = some (aI G 3 rc) := by rw [hF_1160 28 (by omega)]; exact f_28
          have hm_1187 : M_1155 qa = some (cQuestion ad qa ao vr) := by rw [hF_1160 qa (by omega)]; exact f_qa
          have hm_1188 : M_1155 (qa + 1) = some (aI G 6 (nF kn)) := by rw [hF_1160 (qa + 1) (by omega)]; exact f_qa_1
          have hm_1189 : M_1155 (qa + 2) = some (aZ G 6 (bF nq)) := by rw [hF_1160 (qa + 2) (by omega)]; exact f_qa_2
          have hm_1190 : M_1155 (qa + 3) = some (aI G 6 (nF pn)) := by rw [hF_1160 (qa + 3) (by omega)]; exact f_qa_3
          have hm_1191 : M_1155 (qa + 4) = some (aI G 6 (nF av)) := by rw [hF_1160 (qa + 4) (by omega)]; exact f_qa_4
          have hm_1192 : M_1155 (qa + 5) = some (aI G 24 (nF ro)) := by rw [hF_1160 (qa + 5) (by omega)]; exact f_qa_5
          have hm_1193 : M_1155 (qa + 6) = some (aI G 24 (nF te)) := by rw [hF_1160 (qa + 6) (by omega)]; exact f_qa_6
          have hm_1194 : M_1155 qs = some (cQuestion ad qs sq su) := by rw [hF_1160 qs (by omega)]; exact f_qs
          have hm_1195 : M_1155 (qs + 1) = some (aI G 6 (nF kb)) := by rw [hF_1160 (qs + 1) (by omega)]; exact f_qs_1
          have hm_1196 : M_1155 (qs + 2) = some (aZ G 6 (bF nb)) := by rw [hF_1160 (qs + 2) (by omega)]; exact f_qs_2
          have hm_1197 : M_1155 (qs + 3) = some (aI G 6 (nF pb)) := by rw [hF_1160 (qs + 3) (by omega)]; exact f_qs_3
          have hm_1198 : M_1155 (qs + 4) = some (aI G 6 (nF ab)) := by rw [hF_1160 (qs + 4) (by omega)]; exact f_qs_4
          have hm_1199 : M_1155 (qs + 5) = some (aI G 24 (nF rbb)) := by rw [hF_1160 (qs + 5) (by omega)]; exact f_qs_5
          have hm_1200 : M_1155 (qs + 6) = some (aI G 24 (nF tbb)) := by rw [hF_1160 (qs + 6) (by omega)]; exact f_qs_6
          have hm_1201 : M_1155 60 = some (cModel ad tw n jn ao vr sn len pt zs bg fw) := by rw [hF_1160 60 (by omega)]; exact f_60
          have hm_1202 : M_1155 61 = some (aI G 36 (nF le)) := by rw [hF_1160 61 (by omega)]; exact f_61
          have hm_1203 : M_1155 62 = some (aI G 36 (nF mo)) := by rw [hF_1160 62 (by omega)]; exact f_62
          have hm_1204 : M_1155 63 = some (aI G 36 (nF al)) := by rw [hF_1160 63 (by omega)]; exact f_63
          have hm_1205 : M_1155 64 = some (aZ G 6 (bF ho)) := by rw [hF_1160 64 (by omega)]; exact f_64
          have hm_1206 : M_1155 65 = some (aI G 120 (nF mk)) := by rw [hF_1160 65 (by omega)]; exact f_65
          have hm_1207 : M_1155 66 = some (aI G 120 mf) := by rw [hF_1160 66 (by omega)]; exact f_66
          have hm_1208 : M_1155 67 = some (aI G 120 mu) := by rw [hF_1160 67 (by omega)]; exact f_67
          have hm_1209 : M_1155 68 = some (aI G 121 (nF mz)) := by rw [hF_1160 68 (by omega)]; exact f_68
          have hm_1210 : M_1155 69 = some (aI G 726 (nF rr)) := by rw [hF_1160 69 (by omega)]; exact f_69
          have hm_1211 : M_1155 70 = some (aI G 726 (nF ee)) := by rw [hF_1160 70 (by omega)]; exact f_70
          have hm_1212 : M_1155 71 = some (aI G 40 (nF lst)) := by rw [hF_1160 71 (by omega)]; exact f_71
          have hm_1213 : M_1155 72 = some (aI G 40 (nF oa)) := by rw [hF_1160 72 (by omega)]; exact f_72
          have hm_1214 : M_1155 73 = some (aI G 40 (nF ob)) := by rw [hF_1160 73 (by omega)]; exact f_73
          have hm_1215 : M_1155 74 = some (aI G 120 s74) := by rw [hF_1160 74 (by omega)]; exact f_74
          have hm_1216 : M_1155 75 = some (aI G 12 ak) := by rw [hF_1160 75 (by omega)]; exact f_75
          have hm_1217 : M_1155 76 = some (aZ G 12 (bF nm)) := by rw [hF_1160 76 (by omega)]; exact f_76
          have hm_1218 : M_1155 77 = some (aI G 12 (nF ap)) := by rw [hF_1160 77 (by omega)]; exact f_77
          have hm_1219 : M_1155 78 = some (aI G 48 pr) := by rw [hF_1160 78 (by omega)]; exact f_78
          have hm_1220 : M_1155 79 = some (aI G 48 pf) := by rw [hF_1160 79 (by omega)]; exact f_79
          have hm_1221 : M_1155 80 = some (aB G 400 tf) := by rw [hF_1160 80 (by omega)]; exact f_80
          have hm_1222 : M_1155 81 = some (aI G 5 fv) := by rw [hF_1160 81 (by omega)]; exact f_81
          have hm_1223 : M_1155 82 = some (aZ G 384000 (bF tr)) := by rw [hF_1160 82 (by omega)]; exact f_82
          have hm_1224 : M_1155 83 = some (aI G 3 (oF gv)) := by rw [hF_1160 83 (by omega)]; exact f_83
          have hm_1225 : M_1155 84 = some (aI G 3 fo) := by rw [hF_1160 84 (by omega)]; exact f_84
          have hm_1226 : M_1155 85 = some (aZ G 40 (bF re)) := by rw [hF_1160 85 (by omega)]; exact f_85
          have hm_1227 : M_1155 86 = some (aZ G 120 (bF us)) := by rw [hF_1160 86 (by omega)]; exact f_86
          have hm_1228 : M_1155 87 = some (aZ G 120 (bF nx)) := by rw [hF_1160 87 (by omega)]; exact f_87
          have hm_1229 : M_1155 16 = some (cLines ad ) := by rw [hF_1160 16 (by omega)]; exact h16
          have hL_1230 : LSm G ad M_1155 n kd fm to sz rl en := fL.keep (fun j hj => hF_1160 j (by omega))
          have hF_1231 : ∀ j : Nat, j ≠ 99 → M_1155 j = M j := fun j q0 => (hF_1160 j q0)
          rw [hr_1158]
          refine lv_istore (lv' := [(5, .int (nI 0)), (0, .ref b), (1, .ref (ad 0)), (2, .ref (ad 60)), (3, .ref (ad 99)), (4, .int (nI i))]) hx hb dL_law_488 hl (by decide) rfl (fun ls hl => ?_)
          refine lv_aload_n hx hb dL_law_490 rfl (lv_at hl 3 rfl) ?_
          refine lv_aload_n hx hb dL_law_491 rfl (lv_at hl 1 rfl) ?_
          refine lv_iload hx hb dL_law_492 (lv_at hl 5 rfl) ?_
          refine lv_iconst (v := nI 1) hx hb dL_law_494 (by decide) ?_
          refine lv_iadd hx hb dL_law_495 ?_
          refine n_eq (nI_add i 1) ?_
          refine va_sld (A := fr z) hx hb hX hbl hbz hI.S (vp_in_nI (n := i + 1) (by omega) (by omega)) dL_law_496 ?_
          rw [nI_clamp (by omega)]
          refine n_eq (show _ = nI t1 from et1) ?_
          refine lv_aload_n hx hb dL_law_497 rfl (lv_at hl 1 rfl) ?_
          refine lv_iload hx hb dL_law_498 (lv_at hl 5 rfl) ?_
          refine lv_iconst (v := nI 2) hx hb dL_law_500 (by decide) ?_
          refine lv_iadd hx hb dL_law_501 ?_
          refine n_eq (nI_add i 2) ?_
          refine va_sld (A := fr z) hx hb hX hbl hbz hI.S (vp_in_nI (n := i + 2) (by omega) (by omega)) dL_law_502 ?_
          rw [nI_clamp (by omega)]
          refine lv_if_eq (tgt := 510) hx hb dL_law_503 (by decide) (fun c_1232 => ?_) (fun c_1232 => ?_)
          · -- 503: xs (i + 2) eq
            exact absurd c_1232 (by assumption)
          · -- 503: xs (i + 2) ne
            refine lv_iconst (v := nI 1) hx hb dL_law_506 (by decide) ?_
            refine n_eq (show _ = bI true from rfl) ?_
            refine lv_goto (tgt := 511) hx hb dL_law_507 (by decide) ?_
            refine lv_aload_n hx hb dL_law_511 rfl (lv_at hl 1 rfl) ?_
            refine lv_iload hx hb dL_law_512 (lv_at hl 5 rfl) ?_
            refine lv_iconst (v := nI 3) hx hb dL_law_514 (by decide) ?_
            refine lv_iadd hx hb dL_law_515 ?_
            refine n_eq (nI_add i 3) ?_
            refine va_sld (A := fr z) hx hb hX hbl hbz hI.S (vp_in_nI (n := i + 3) (by omega) (by omega)) dL_law_516 ?_
            rw [nI_clamp (by omega)]
            refine n_eq (show _ = nI t3 from et3) ?_
            refine k_Ni (va_runV (As := [.int (nI t1), .int (bI true), .int (nI t3)]) (rest := []) ⟨hx, hb, hml, hown, hts⟩ (c_X10_draft_full l G z ad M_1155 (th := tw) (on := jn) (ao := ao) (vr := vr) (sn := sn) (tp := len) (pt := pt) (zs := zs) (bg := bg) (fa := fw) (n := n) (mz := mz) (rr := rr) (ee := ee) (x := t1) (b := true) (t := t3) hm_1201 hm_1209 hw1 ht1 (fun _ => ht3) (fun h => absurd h (by decide)) (by omega)) (cwV 3 hts (gV (lwg_of t_1153 rfl) (lwg_of t_1154 rfl) (lwg_of t_1155 rfl) (lwg_of t_13 rfl) (lwg_of t_1156 rfl)) rfl rfl rfl (by decide +kernel) ⟨Nat.le_of_ble_eq_true rfl, Nat.le_of_ble_eq_true rfl⟩) (hI.preV hm_1201 rfl) rfl rfl hl.1 rfl (lv_room (Nat.le_of_ble_eq_true rfl)) dL_law_517 ⟨(show _ ≤ (601024 : Nat) from by omega), (show _ ≤ (7293034 : Nat) from by omega)⟩) hI (fun r_1233 M_1235 H_1236 locs_1237 hp_1234 hI => ?_)
            obtain ⟨hr_1238, hm_1239, hF_1240⟩ := hp_1234
            have hm_1241 : M_1235 0 = some (cStore ad qa qs fw) := by rw [hF_1240 0 (by omega)]; exact hm_1161
            have hm_1242 : M_1235 1 = some (cTape ad len) := by rw [hF_1240 1 (by omega)]; exact hm_1162
            have hm_1243 : M_1235 2 = some (aI G 400 (nF tb)) := by rw [hF_1240 2 (by omega)]; exact hm_1163
            have hm_1244 : M_1235 3 = some (cLaws ad ) := by rw [hF_1240 3 (by omega)]; exact hm_1164
            have hm_1245 : M_1235 4 = some (aI G 36 (nF le)) := by rw [hF_1240 4 (by omega)]; exact hm_1165
            have hm_1246 : M_1235 5 = some (aI G 36 (nF mo)) := by rw [hF_1240 5 (by omega)]; exact hm_1166
            have hm_1247 : M_1235 6 = some (aI G 36 (nF al)) := by rw [hF_1240 6 (by omega)]; exact hm_1167
            have hm_1248 : M_1235 7 = some (aZ G 6 (bF ho)) := by rw [hF_1240 7 (by omega)]; exact hm_1168
            have hm_1249 : M_1235 8 = some (cOnes ad jn) := by rw [hF_1240 8 (by omega)]; exact hm_1169
            have hm_1250 : M_1235 9 = some (aI G 40 (nF hg)) := by rw [hF_1240 9 (by omega)]; exact hm_1170
            have hm_1251 : M_1235 10 = some (aI G 40 (nF lst)) := by rw [hF_1240 10 (by omega)]; exact hm_1171
            have hm_1252 : M_1235 11 = some (aI G 40 (nF jd)) := by rw [hF_1240 11 (by omega)]; exact hm_1172
            have hm_1253 : M_1235 12 = some (cEnds ad 12 s0) := by rw [hF_1240 12 (by omega)]; exact hm_1173
            have hm_1254 : M_1235 13 = some (aI G 6 (nF r0)) := by rw [hF_1240 13 (by omega)]; exact hm_1174
            have hm_1255 : M_1235 14 = some (aI G 6 (oF th)) := by rw [hF_1240 14 (by omega)]; exact hm_1175
            have hm_1256 : M_1235 15 = some (aI G 6 (oF ol)) := by rw [hF_1240 15 (by omega)]; exact hm_1176
            have hm_1257 : M_1235 19 = some (aZ G 120 (bF mm9)) := by rw [hF_1240 19 (by omega)]; exact hm_1177
            have hm_1258 : M_1235 20 = some (aI G 120 ff) := by rw [hF_1240 20 (by omega)]; exact hm_1178
            have hm_1259 : M_1235 21 = some (aI G 120 lq) := by rw [hF_1240 21 (by omega)]; exact hm_1179
            have hm_1260 : M_1235 22 = some (cReader ad ra rb rt rv) := by rw [hF_1240 22 (by omega)]; exact hm_1180
            have hm_1261 : M_1235 23 = some (cMatcher ad qm pz) := by rw [hF_1240 23 (by omega)]; exact hm_1181
            have hm_1262 : M_1235 24 = some (aJ G 2160 sx) := by rw [hF_1240 24 (by omega)]; exact hm_1182
            have hm_1263 : M_1235 25 = some (aI G 6 (nF ft)) := by rw [hF_1240 25 (by omega)]; exact hm_1183
            have hm_1264 : M_1235 26 = some (aJ G 240 rx) := by rw [hF_1240 26 (by omega)]; exact hm_1184
            have hm_1265 : M_1235 27 = some (aJ G 3 dm) := by rw [hF_1240 27 (by omega)]; exact hm_1185
            have hm_1266 : M_1235 28 = some (aI G 3 rc) := by rw [hF_1240 28 (by omega)]; exact hm_1186
            have hm_1267 : M_1235 qa = some (cQuestion ad qa ao vr) := by rw [hF_1240 qa (by omega)]; exact hm_1187
            have hm_1268 : M_1235 (qa + 1) = some (aI G 6 (nF kn)) := by rw [hF_1240 (qa + 1) (by omega)]; exact hm_1188
            have hm_1269 : M_1235 (qa + 2) = some (aZ G 6 (bF nq)) := by rw [hF_1240 (qa + 2) (by omega)]; exact hm_1189
            have hm_1270 : M_1235 (qa + 3) = some (aI G 6 (nF pn)) := by rw [hF_1240 (qa + 3) (by omega)]; exact hm_1190
            have hm_1271 : M_1235 (qa + 4) = some (aI G 6 (nF av)) := by rw [hF_1240 (qa + 4) (by omega)]; exact hm_1191
            have hm_1272 : M_1235 (qa + 5) = some (aI G 24 (nF ro)) := by rw [hF_1240 (qa + 5) (by omega)]; exact hm_1192
            have hm_1273 : M_1235 (qa + 6) = some (aI G 24 (nF te)) := by rw [hF_1240 (qa + 6) (by omega)]; exact hm_1193
            have hm_1274 : M_1235 qs = some (cQuestion ad qs sq su) := by rw [hF_1240 qs (by omega)]; exact hm_1194
            have hm_1275 : M_1235 (qs + 1) = some (aI G 6 (nF kb)) := by rw [hF_1240 (qs + 1) (by omega)]; exact hm_1195
            have hm_1276 : M_1235 (qs + 2) = some (aZ G 6 (bF nb)) := by rw [hF_1240 (qs + 2) (by omega)]; exact hm_1196
            have hm_1277 : M_1235 (qs + 3) = some (aI G 6 (nF pb)) := by rw [hF_1240 (qs + 3) (by omega)]; exact hm_1197
            have hm_1278 : M_1235 (qs + 4) = some (aI G 6 (nF ab)) := by rw [hF_1240 (qs + 4) (by omega)]; exact hm_1198
            have hm_1279 : M_1235 (qs + 5) = some (aI G 24 (nF rbb)) := by rw [hF_1240 (qs + 5) (by omega)]; exact hm_1199
            have hm_1280 : M_1235 (qs + 6) = some (aI G 24 (nF tbb)) := by rw [hF_1240 (qs + 6) (by omega)]; exact hm_1200
            have hm_1281 : M_1235 61 = some (aI G 36 (nF le)) := by rw [hF_1240 61 (by omega)]; exact hm_1202
            have hm_1282 : M_1235 62 = some (aI G 36 (nF mo)) := by rw [hF_1240 62 (by omega)]; exact hm_1203
            have hm_1283 : M_1235 63 = some (aI G 36 (nF al)) := by rw [hF_1240 63 (by omega)]; exact hm_1204
            have hm_1284 : M_1235 64 = some (aZ G 6 (bF ho)) := by rw [hF_1240 64 (by omega)]; exact hm_1205
            have hm_1285 : M_1235 65 = some (aI G 120 (nF mk)) := by rw [hF_1240 65 (by omega)]; exact hm_1206
            have hm_1286 : M_1235 66 = some (aI G 120 mf) := by rw [hF_1240 66 (by omega)]; exact hm_1207
            have hm_1287 : M_1235 67 = some (aI G 120 mu) := by rw [hF_1240 67 (by omega)]; exact hm_1208
            have hm_1288 : M_1235 68 = some (aI G 121 (nF mz)) := by rw [hF_1240 68 (by omega)]; exact hm_1209
            have hm_1289 : M_1235 69 = some (aI G 726 (nF rr)) := by rw [hF_1240 69 (by omega)]; exact hm_1210
            have hm_1290 : M_1235 70 = some (aI G 726 (nF ee)) := by rw [hF_1240 70 (by omega)]; exact hm_1211
            have hm_1291 : M_1235 71 = some (aI G 40 (nF lst)) := by rw [hF_1240 71 (by omega)]; exact hm_1212
            have hm_1292 : M_1235 72 = some (aI G 40 (nF oa)) := by rw [hF_1240 72 (by omega)]; exact hm_1213
            have hm_1293 : M_1235 73 = some (aI G 40 (nF ob)) := by rw [hF_1240 73 (by omega)]; exact hm_1214
            have hm_1294 : M_1235 74 = some (aI G 120 s74) := by rw [hF_1240 74 (by omega)]; exact hm_1215
            have hm_1295 : M_1235 75 = some (aI G 12 ak) := by rw [hF_1240 75 (by omega)]; exact hm_1216
            have hm_1296 : M_1235 76 = some (aZ G 12 (bF nm)) := by rw [hF_1240 76 (by omega)]; exact hm_1217
            have hm_1297 : M_1235 77 = some (aI G 12 (nF ap)) := by rw [hF_1240 77 (by omega)]; exact hm_1218
            have hm_1298 : M_1235 78 = some (aI G 48 pr) := by rw [hF_1240 78 (by omega)]; exact hm_1219
            have hm_1299 : M_1235 79 = some (aI G 48 pf) := by rw [hF_1240 79 (by omega)]; exact hm_1220
            have hm_1300 : M_1235 80 = some (aB G 400 tf) := by rw [hF_1240 80 (by omega)]; exact hm_1221
            have hm_1301 : M_1235 81 = some (aI G 5 fv) := by rw [hF_1240 81 (by omega)]; exact hm_1222
            have hm_1302 : M_1235 82 = some (aZ G 384000 (bF tr)) := by rw [hF_1240 82 (by omega)]; exact hm_1223
            have hm_1303 : M_1235 83 = some (aI G 3 (oF gv)) := by rw [hF_1240 83 (by omega)]; exact hm_1224
            have hm_1304 : M_1235 84 = some (aI G 3 fo) := by rw [hF_1240 84 (by omega)]; exact hm_1225
            have hm_1305 : M_1235 85 = some (aZ G 40 (bF re)) := by rw [hF_1240 85 (by omega)]; exact hm_1226
            have hm_1306 : M_1235 86 = some (aZ G 120 (bF us)) := by rw [hF_1240 86 (by omega)]; exact hm_1227
            have hm_1307 : M_1235 87 = some (aZ G 120 (bF nx)) := by rw [hF_1240 87 (by omega)]; exact hm_1228
            have hm_1308 : M_1235 99 = some (aJ G 1 (vp_updL of 0 (((-1)).toInt64))) := by rw [hF_1240 99 (by omega)]; exact hm_1159
            have hm_1309 : M_1235 16 = some (cLines ad ) := by rw [hF_1240 16 (by omega)]; exact hm_1229
            have hL_1310 : LSm G ad M_1235 n kd fm to sz rl en := hL_1230.keep (fun j hj => hF_1240 j (by omega))
            have hF_1311 : ∀ j : Nat, j ≠ 99 → j ≠ 60 → M_1235 j = M j := fun j q0 q1 => (hF_1240 j q1).trans (hF_1231 j q0)
            rw [hr_1238]
            refine lv_istore (lv' := [(6, .int (-1)), (5, .int (nI 0)), (0, .ref b), (1, .ref (ad 0)), (2, .ref (ad 60)), (3, .ref (ad 99)), (4, .int (nI i))]) hx hb dL_law_520 hl (by decide) rfl (fun ls hl => ?_)
            refine lv_aload_n hx hb dL_law_522 rfl (lv_at hl 4 rfl) ?_
            refine k_Ri (va_runV (As := []) (rest := []) ⟨hx, hb, hml, hown, hts⟩ (c_X10_thrown l G z ad M_1235 (th := 0) (ln := n) (on := jn) (ao := ao) (vr := vr) (sn := sn) (tp := len) (pt := pt) (zs := zs) (bg := bg) (fa := fw) hm_1239) (cwV 0 hts (gV (lwg_of t_997 rfl) (lwg_of t_998 rfl) (lwg_of t_999 rfl) (lwg_of t_13 rfl) (lwg_of t_1000 rfl)) rfl rfl rfl (by decide +kernel) ⟨Nat.le_of_ble_eq_true rfl, Nat.le_of_ble_eq_true rfl⟩) (hI.preV hm_1239 rfl) rfl rfl hl.1 rfl (lv_room (Nat.le_of_ble_eq_true rfl)) dL_law_523 ⟨(show _ ≤ (601024 : Nat) from by omega), (show _ ≤ (7293034 : Nat) from by omega)⟩) (fun _ h => h) (fun r_1312 hp_1313 => ?_)
            rw [hp_1313]
            refine lv_iload hx hb dL_law_526 (lv_at hl 1 rfl) ?_
            refine lv_icmp_eq (tgt := 533) hx hb dL_law_528 (by decide) (fun c_1314 => ?_) (fun c_1314 => ?_)
            · -- 528: nI 0 eq
              refine lv_iload hx hb dL_law_533 (lv_at hl 1 rfl) ?_
              refine lv_if_ne (tgt := 550) hx hb dL_law_535 (by decide) (fun c_1315 => ?_) (fun c_1315 => ?_)
              · -- 535: nI 0 ne
                exact absurd (by decide) c_1315
              · -- 535: nI 0 eq
                refine lv_aload_n hx hb dL_law_538 rfl (lv_at hl 5 rfl) ?_
                refine lv_iconst (v := nI 0) hx hb dL_law_539 (by decide) ?_
                refine h_lald (i := 0) hx hb hI hm_1308 (by omega) (by decide) dL_law_540 ?_
                refine lv_iload hx hb dL_law_541 (lv_at hl 0 rfl) ?_
                refine lv_i2l (v := (-1).toInt64) hx hb dL_law_543 rfl ?_
                refine W.lcmp hx hb dL_law_544 ?_
                refine lv_if_eq (tgt := 550) hx hb dL_law_545 (by decide) (fun c_1316 => ?_) (fun c_1316 => ?_)
                · -- 545: lg_cmp ((vp_updL of 0 (((-1)).toInt64)) 0) ((-1).toInt64) eq
                  have c_1316 : (vp_updL of 0 (((-1)).toInt64)) 0 = (-1).toInt64 := (lg_cmp_eq _ _).mp c_1316
                  refine lv_goto (tgt := 1333) hx hb dL_law_550 (by decide) ?_
                  refine W.widen (k := cz + 10) (n := sy + 300) (by omega) (by omega) ?_
                  exact kk ad M_1235 H_1236 locs_1237 ls n kd fm to sz rl en qa qs fw len tb le mo al ho jn hg lst jd s0 r0 th ol e0 mm9 ff lq ra rb rt rv qm pz sx ft rx dm rc ao vr kn nq pn av ro te sq su kb nb pb ab rbb tbb 0 sn pt zs bg mk mf mu mz rr ee oa ob s74 ak nm ap pr pf tf fv tr gv fo re us nx (vp_updL of 0 (((-1)).toInt64)) hL_1310 w1 w2 w3 w4 w5 w6 w7 w8 w9 w10 w11 w12 w13 w14 w15 w16 w17 w18 w19 w20 w21 w22 w23 w24 w25 w26 w27 w28 w29 (fun h9 => by rw [hF_1311 17 (by omega) (by omega), hF_1311 18 (by omega) (by omega)]; exact w30 h9) (by rw [hF_1311 29 (by omega) (by omega)]; exact w31) (fun j9 h9 => by rw [hF_1311 j9 (by omega) (by omega)]; exact w32 j9 h9) hm_1241 hm_1242 hm_1243 hm_1244 hm_1245 hm_1246 hm_1247 hm_1248 hm_1249 hm_1250 hm_1251 hm_1252 hm_1253 hm_1254 hm_1255 hm_1256 hm_1257 hm_1258 hm_1259 hm_1260 hm_1261 hm_1262 hm_1263 hm_1264 hm_1265 hm_1266 hm_1267 hm_1268 hm_1269 hm_1270 hm_1271 hm_1272 hm_1273 hm_1274 hm_1275 hm_1276 hm_1277 hm_1278 hm_1279 hm_1280 hm_1239 hm_1281 hm_1282 hm_1283 hm_1284 hm_1285 hm_1286 hm_1287 hm_1288 hm_1289 hm_1290 hm_1291 hm_1292 hm_1293 hm_1294 hm_1295 hm_1296 hm_1297 hm_1298 hm_1299 hm_1300 hm_1301 hm_1302 hm_1303 hm_1304 hm_1305 hm_1306 hm_1307 hm_1308 hI (lv_sub hl [2, 3, 4, 5, 6] rfl)
                · -- 545: lg_cmp ((vp_updL of 0 (((-1)).toInt64)) 0) ((-1).toInt64) ne
                  have c_1316 : (vp_updL of 0 (((-1)).toInt64)) 0 ≠ (-1).toInt64 := (fun h => c_1316 ((lg_cmp_eq _ _).mpr h))
                  exact absurd rfl c_1316
            · -- 528: nI 0 ne
              exact absurd (by decide) c_1314

set_option maxHeartbeats 8000000 in
set_option maxRecDepth 100000 in
theorem law_8 {p : Program} {l : Launch} {e : Env} {s : State} {m : MethodId} {below : List Frame} {meth : Method} {c : Code} {b L : Nat} {xs : Nat → Int32} {Q : State → Prop} {G : GG} {z : Nat} {ad : Nat → Nat} {M : Mem} {H : Heap} {locs : List Loc} {ls : Array Slot} {i cz sy : Nat} (hst : l.stackTraces = false) (hx : p.tables.exec = Jvm.exec) (hb : c.code = code) (hml : c.maxLocals = 7) (hown : s.vm.findClass RL = some m.cls) {cx : Cond} (hts : ∀ w ∈ cx :: lwg, w.before #[Value.ref b] s = true) (hX : va_X b L xs s s.heap) (hbl : b < s.heap.size) (hbz : ¬ z ≤ b) (hI : Iv G z ad M s H locs) (hl : lv_has ls 7 [(0, .ref b), (1, .ref (ad 0)), (2, .ref (ad 60)), (3, .ref (ad 99)), (4, .int (nI i))]) (hiL : i + 6 ≤ L) (hL : L ≤ 3072) (hcz : cz + 10 ≤ 601024) (hsy : sy + 300 ≤ 7293034) {n : Nat} {kd : Nat → Nat} {fm : Nat → Int32} {to : Nat → Int32} {sz : Nat → Nat} {rl : Nat → Nat → Nat} {en : Nat → Nat → Nat} {qa : Nat} {qs : Nat} {fw : Int32} {len : Nat} {tb : Nat → Nat} {le : Nat → Nat} {mo : Nat → Nat} {al : Nat → Nat} {ho : Nat → Bool} {jn : Nat} {hg : Nat → Nat} {lst : Nat → Nat} {jd : Nat → Nat} {s0 : Nat} {r0 : Nat → Nat} {th : Nat → Option Nat} {ol : Nat → Option Nat} {e0 : Nat → Nat} {mm9 : Nat → Bool} {ff : Nat → Int32} {lq : Nat → Int32} {ra : Nat} {rb : Nat} {rt : Int32} {rv : Int32} {qm : Nat} {pz : Nat} {sx : Nat → Int64} {ft : Nat → Nat} {rx : Nat → Int64} {dm : Nat → Int64} {rc : Nat → Int32} {ao : Nat} {vr : Nat} {kn : Nat → Nat} {nq : Nat → Bool} {pn : Nat → Nat} {av : Nat → Nat} {ro : Nat → Nat} {te : Nat → Nat} {sq : Nat} {su : Nat} {kb : Nat → Nat} {nb : Nat → Bool} {pb : Nat → Nat} {ab : Nat → Nat} {rbb : Nat → Nat} {tbb : Nat → Nat} {tw : Nat} {sn : Nat} {pt : Nat} {zs : Nat} {bg : Nat} {mk : Nat → Nat} {mf : Nat → Int32} {mu : Nat → Int32} {mz : Nat → Nat} {rr : Nat → Nat} {ee : Nat → Nat} {oa : Nat → Nat} {ob : Nat → Nat} {s74 : Nat → Int32} {ak : Nat → Int32} {nm : Nat → Bool} {ap : Nat → Nat} {pr : Nat → Int32} {pf : Nat → Int32} {tf : Nat → Int32} {fv : Nat → Int32} {tr : Nat → Bool} {gv : Nat → Option Nat} {fo : Nat → Int32} {re : Nat → Bool} {us : Nat → Bool} {nx : Nat → Bool} {of : Nat → Int64} (fL : LSm G ad M n kd fm to sz rl en) (w1 : LSw n kd sz rl en) (w2 : MRel n kd fm to sz rl en mk mf mu mz rr ee) (w3 : JI jn hg lst jd oa ob) (w4 : len ≤ 400) (w5 : ∀ j, j < len → tb j < 256) (w6 : ∀ j, j < len → tf j = sB (tb j)) (w7 : s0 ≤ 6) (w8 : mz 120 = s0) (w9 : ∀ j, j < s0 → rr (720 + j) = r0 j ∧ ee (720 + j) = e0 j) (w10 : ∀ j, j < s0 → r0 j < 6) (w11 : ∀ j, j < s0 → e0 j < 40 + n) (w12 : ∀ j, j < s0 → th j = thE e0 j) (w13 : ∀ j, j < s0 → ol j = olE e0 j) (w14 : ∀ j, j < 36 → le j < 100) (w15 : ∀ j, j < 36 → mo j < 100) (w16 : ∀ j, j < 36 → al j ≤ 100) (w17 : ∀ i, i < n → (0 : Int32) ≤ fm i) (w18 : ∀ i, i < n → ∀ k, hgs sz en i k = true → fm k ≤ fm i) (w19 : ao ≤ 6) (w20 : vr < 8) (w21 : ∀ i, i < ao → ap i ≤ 4 ∧ (ak i = nI (kn i) ∧ kn i < 6) ∧ ∀ p8, p8 < ap i → (pr (4 * i + p8) = nI (ro (i * 4 + p8)) ∧ ro (i * 4 + p8) < 6) ∧ te (i * 4 + p8) < 43 ∧ pf (4 * i + p8) = tmI (te (i * 4 + p8))) (w22 : ∀ i, i < ao → nm i = nq i ∧ ap i = pn i) (w23 : ∀ i, i < ao → av i < 8) (w24 : ∀ i, i < ao → (av i).testBit 0 = false → ∀ p9, p9 < pn i → te (i * 4 + p9) ≠ 40) (w25 : ∀ v, v < 3 → vr.testBit v = true → ∃ i, i < ao ∧ nq i = false ∧ ∃ k, k < pn i ∧ te (i * 4 + k) = 40 + v) (w26 : 29 < qa ∧ qa < 38) (w27 : 29 < qs ∧ qs < 38) (w28 : qa + 7 ≤ qs ∨ qs + 7 ≤ qa) (w29 : 29 < qm ∧ qm < 51) (w30 : n = 0 → (∃ mcn : Int32, M 17 = some (cList ad mcn G.2.2.2.2 0)) ∧ M 18 = none) (w31 : M 29 = none) (w32 : ∀ j, 100 + 5 * n ≤ j → M j = none) (f_0 : M 0 = some (cStore ad qa qs fw)) (f_1 : M 1 = some (cTape ad len)) (f_2 : M 2 = some (aI G 400 (nF tb))) (f_3 : M 3 = some (cLaws ad )) (f_4 : M 4 = some (aI G 36 (nF le))) (f_5 : M 5 = some (aI G 36 (nF mo))) (f_6 : M 6 = some (aI G 36 (nF al))) (f_7 : M 7 = some (aZ G 6 (bF ho))) (f_8 : M 8 = some (cOnes ad jn)) (f_9 : M 9 = some (aI G 40 (nF hg))) (f_10 : M 10 = some (aI G 40 (nF lst))) (f_11 : M 11 = some (aI G 40 (nF jd))) (f_12 : M 12 = some (cEnds ad 12 s0)) (f_13 : M 13 = some (aI G 6 (nF r0))) (f_14 : M 14 = some (aI G 6 (oF th))) (f_15 : M 15 = some (aI G 6 (oF ol))) (f_19 : M 19 = some (aZ G 120 (bF mm9))) (f_20 : M 20 = some (aI G 120 ff)) (f_21 : M 21 = some (aI G 120 lq)) (f_22 : M 22 = some (cReader ad ra rb rt rv)) (f_23 : M 23 = some (cMatcher ad qm pz)) (f_24 : M 24 = some (aJ G 2160 sx)) (f_25 : M 25 = some (aI G 6 (nF ft))) (f_26 : M 26 = some (aJ G 240 rx)) (f_27 : M 27 = some (aJ G 3 dm)) (f_28 : M 28 = some (aI G 3 rc)) (f_qa : M qa = some (cQuestion ad qa ao vr)) (f_qa_1 : M (qa + 1) = some (aI G 6 (nF kn))) (f_qa_2 : M (qa + 2) = some (aZ G 6 (bF nq))) (f_qa_3 : M (qa + 3) = some (aI G 6 (nF pn))) (f_qa_4 : M (qa + 4) = some (aI G 6 (nF av))) (f_qa_5 : M (qa + 5) = some (aI G 24 (nF ro))) (f_qa_6 : M (qa + 6) = some (aI G 24 (nF te))) (f_qs : M qs = some (cQuestion ad qs sq su)) (f_qs_1 : M (qs + 1) = some (aI G 6 (nF kb))) (f_qs_2 : M (qs + 2) = some (aZ G 6 (bF nb))) (f_qs_3 : M (qs + 3) = some (aI G 6 (nF pb))) (f_qs_4 : M (qs + 4) = some (aI G 6 (nF ab))) (f_qs_5 : M (qs + 5) = some (aI G 24 (nF rbb))) (f_qs_6 : M (qs + 6) = some (aI G 24 (nF tbb))) (f_60 : M 60 = some (cModel ad tw n jn ao vr sn len pt zs bg fw)) (f_61 : M 61 = some (aI G 36 (nF le))) (f_62 : M 62 = some (aI G 36 (nF mo))) (f_63 : M 63 = some (aI G 36 (nF al))) (f_64 : M 64 = some (aZ G 6 (bF ho))) (f_65 : M 65 = some (aI G 120 (nF mk))) (f_66 : M 66 = some (aI G 120 mf)) (f_67 : M 67 = some (aI G 120 mu)) (f_68 : M 68 = some (aI G 121 (nF mz))) (f_69 : M 69 = some (aI G 726 (nF rr))) (f_70 : M 70 = some (aI G 726 (nF ee))) (f_71 : M 71 = some (aI G 40 (nF lst))) (f_72 : M 72 = some (aI G 40 (nF oa))) (f_73 : M 73 = some (aI G 40 (nF ob))) (f_74 : M 74 = some (aI G 120 s74)) (f_75 : M 75 = some (aI G 12 ak)) (f_76 : M 76 = some (aZ G 12 (bF nm))) (f_77 : M 77 = some (aI G 12 (nF ap))) (f_78 : M 78 = some (aI G 48 pr)) (f_79 : M 79 = some (aI G 48 pf)) (f_80 : M 80 = some (aB G 400 tf)) (f_81 : M 81 = some (aI G 5 fv)) (f_82 : M 82 = some (aZ G 384000 (bF tr))) (f_83 : M 83 = some (aI G 3 (oF gv))) (f_84 : M 84 = some (aI G 3 fo)) (f_85 : M 85 = some (aZ G 40 (bF re))) (f_86 : M 86 = some (aZ G 120 (bF us))) (f_87 : M 87 = some (aZ G 120 (bF nx))) (f_99 : M 99 = some (aJ G 1 of)) (kk : ∀ (ad1 : Nat → Nat) (M1 : Mem) (H1 : Heap) (locs1 : List Loc) (ls1 : Array Slot) (n : Nat) (kd : Nat → Nat) (fm : Nat → Int32) (to : Nat → Int32) (sz : Nat → Nat) (rl : Nat → Nat → Nat) (en : Nat → Nat → Nat) (qa : Nat) (qs : Nat) (fw : Int32) (len : Nat) (tb : Nat → Nat) (le : Nat → Nat) (mo : Nat → Nat) (al : Nat → Nat) (ho : Nat → Bool) (jn : Nat) (hg : Nat → Nat) (lst : Nat → Nat) (jd : Nat → Nat) (s0 : Nat) (r0 : Nat → Nat) (th : Nat → Option Nat) (ol : Nat → Option Nat) (e0 : Nat → Nat) (mm9 : Nat → Bool) (ff : Nat → Int32) (lq : Nat → Int32) (ra : Nat) (rb : Nat) (rt : Int32) (rv : Int32) (qm : Nat) (pz : Nat) (sx : Nat → Int64) (ft : Nat → Nat) (rx : Nat → Int64) (dm : Nat → Int64) (rc : Nat → Int32) (ao : Nat) (vr : Nat) (kn : Nat → Nat) (nq : Nat → Bool) (pn : Nat → Nat) (av : Nat → Nat) (ro : Nat → Nat) (te : Nat → Nat) (sq : Nat) (su : Nat) (kb : Nat → Nat) (nb : Nat → Bool) (pb : Nat → Nat) (ab : Nat → Nat) (rbb : Nat → Nat) (tbb : Nat → Nat) (tw : Nat) (sn : Nat) (pt : Nat) (zs : Nat) (bg : Nat) (mk : Nat → Nat) (mf : Nat → Int32) (mu : Nat → Int32) (mz : Nat → Nat) (rr : Nat → Nat) (ee : Nat → Nat) (oa : Nat → Nat) (ob : Nat → Nat) (s74 : Nat → Int32) (ak : Nat → Int32) (nm : Nat → Bool) (ap : Nat → Nat) (pr : Nat → Int32) (pf : Nat → Int32) (tf : Nat → Int32) (fv : Nat → Int32) (tr : Nat → Bool) (gv : Nat → Option Nat) (fo : Nat → Int32) (re : Nat → Bool) (us : Nat → Bool) (nx : Nat → Bool) (of : Nat → Int64), (LSm G ad1 M1 n kd fm to sz rl en) → (LSw n kd sz rl en) → (MRel n kd fm to sz rl en mk mf mu mz rr ee) → (JI jn hg lst jd oa ob) → (len ≤ 400) → (∀ j, j < len → tb j < 256) → (∀ j, j < len → tf j = sB (tb j)) → (s0 ≤ 6) → (mz 120 = s0) → (∀ j, j < s0 → rr (720 + j) = r0 j ∧ ee (720 + j) = e0 j) → (∀ j, j < s0 → r0 j < 6) → (∀ j, j < s0 → e0 j < 40 + n) → (∀ j, j < s0 → th j = thE e0 j) → (∀ j, j < s0 → ol j = olE e0 j) → (∀ j, j < 36 → le j < 100) → (∀ j, j < 36 → mo j < 100) → (∀ j, j < 36 → al j ≤ 100) → (∀ i, i < n → (0 : Int32) ≤ fm i) → (∀ i, i < n → ∀ k, hgs sz en i k = true → fm k ≤ fm i) → (ao ≤ 6) → (vr < 8) → (∀ i, i < ao → ap i ≤ 4 ∧ (ak i = nI (kn i) ∧ kn i < 6) ∧ ∀ p8, p8 < ap i → (pr (4 * i + p8) = nI (ro (i * 4 + p8)) ∧ ro (i * 4 + p8) < 6) ∧ te (i * 4 + p8) < 43 ∧ pf (4 * i + p8) = tmI (te (i * 4 + p8))) → (∀ i, i < ao → nm i = nq i ∧ ap i = pn i) → (∀ i, i < ao → av i < 8) → (∀ i, i < ao → (av i).testBit 0 = false → ∀ p9, p9 < pn i → te (i * 4 + p9) ≠ 40) → (∀ v, v < 3 → vr.testBit v = true → ∃ i, i < ao ∧ nq i = false ∧ ∃ k, k < pn i ∧ te (i * 4 + k) = 40 + v) → (29 < qa ∧ qa < 38) → (29 < qs ∧ qs < 38) → (qa + 7 ≤ qs ∨ qs + 7 ≤ qa) → (29 < qm ∧ qm < 51) → (n = 0 → (∃ mcn : Int32, M1 17 = some (cList ad1 mcn G.2.2.2.2 0)) ∧ M1 18 = none) → (M1 29 = none) → (∀ j, 100 + 5 * n ≤ j → M1 j = none) → (M1 0 = some (cStore ad1 qa qs fw)) → (M1 1 = some (cTape ad1 len)) → (M1 2 = some (aI G 400 (nF tb))) → (M1 3 = some (cLaws ad1 )) → (M1 4 = some (aI G 36 (nF le))) → (M1 5 = some (aI G 36 (nF mo))) → (M1 6 = some (aI G 36 (nF al))) → (M1 7 = some (aZ G 6 (bF ho))) → (M1 8 = some (cOnes ad1 jn)) → (M1 9 = some (aI G 40 (nF hg))) → (M1 10 = some (aI G 40 (nF lst))) → (M1 11 = some (aI G 40 (nF jd))) → (M1 12 = some (cEnds ad1 12 s0)) → (M1 13 = some (aI G 6 (nF r0))) → (M1 14 = some (aI G 6 (oF th))) → (M1 15 = some (aI G 6 (oF ol))) → (M1 19 = some (aZ G 120 (bF mm9))) → (M1 20 = some (aI G 120 ff)) → (M1 21 = some (aI G 120 lq)) → (M1 22 = some (cReader ad1 ra rb rt rv)) → (M1 23 = some (cMatcher ad1 qm pz)) → (M1 24 = some (aJ G 2160 sx)) → (M1 25 = some (aI G 6 (nF ft))) → (M1 26 = some (aJ G 240 rx)) → (M1 27 = some (aJ G 3 dm)) → (M1 28 = some (aI G 3 rc)) → (M1 qa = some (cQuestion ad1 qa ao vr)) → (M1 (qa + 1) = some (aI G 6 (nF kn))) → (M1 (qa + 2) = some (aZ G 6 (bF nq))) → (M1 (qa + 3) = some (aI G 6 (nF pn))) → (M1 (qa + 4) = some (aI G 6 (nF av))) → (M1 (qa + 5) = some (aI G 24 (nF ro))) → (M1 (qa + 6) = some (aI G 24 (nF te))) → (M1 qs = some (cQuestion ad1 qs sq su)) → (M1 (qs + 1) = some (aI G 6 (nF kb))) → (M1 (qs + 2) = some (aZ G 6 (bF nb))) → (M1 (qs + 3) = some (aI G 6 (nF pb))) → (M1 (qs + 4) = some (aI G 6 (nF ab))) → (M1 (qs + 5) = some (aI G 24 (nF rbb))) → (M1 (qs + 6) = some (aI G 24 (nF tbb))) → (M1 60 = some (cModel ad1 tw n jn ao vr sn len pt zs bg fw)) → (M1 61 = some (aI G 36 (nF le))) → (M1 62 = some (aI G 36 (nF mo))) → (M1 63 = some (aI G 36 (nF al))) → (M1 64 = some (aZ G 6 (bF ho))) → (M1 65 = some (aI G 120 (nF mk))) → (M1 66 = some (aI G 120 mf)) → (M1 67 = some (aI G 120 mu)) → (M1 68 = some (aI G 121 (nF mz))) → (M1 69 = some (aI G 726 (nF rr))) → (M1 70 = some (aI G 726 (nF ee))) → (M1 71 = some (aI G 40 (nF lst))) → (M1 72 = some (aI G 40 (nF oa))) → (M1 73 = some (aI G 40 (nF ob))) → (M1 74 = some (aI G 120 s74)) → (M1 75 = some (aI G 12 ak)) → (M1 76 = some (aZ G 12 (bF nm))) → (M1 77 = some (aI G 12 (nF ap))) → (M1 78 = some (aI G 48 pr)) → (M1 79 = some (aI G 48 pf)) → (M1 80 = some (aB G 400 tf)) → (M1 81 = some (aI G 5 fv)) → (M1 82 = some (aZ G 384000 (bF tr))) → (M1 83 = some (aI G 3 (oF gv))) → (M1 84 = some (aI G 3 fo)) → (M1 85 = some (aZ G 40 (bF re))) → (M1 86 = some (aZ G 120 (bF us))) → (M1 87 = some (aZ G 120 (bF nx))) → (M1 99 = some (aJ G 1 of)) → Iv G z ad1 M1 s H1 locs1 → lv_has ls1 7 [(0, .ref b), (1, .ref (ad1 0)), (2, .ref (ad1 60)), (3, .ref (ad1 99)), (4, .int (nI i))] → W p l e room_1 s m #[Value.ref b] below meth c H1 locs1 (cz + 10) (sy + 300) Q (F0 m 1333 ls1 [])) : W p l e room_1 s m #[Value.ref b] below meth c H locs cz sy Q (F0 m 701 ls []) := by
  have h16 := fL.1
  have hw1 := w1.1
  have hlst := ji_lst w3
  rcases (in_or 40 (xs (i + 1)) (by omega) : (xs (i + 1) < 0 ∨ ¬ xs (i + 1) < nI 40) ∨ (∃ t : Nat, t < 40 ∧ xs (i + 1) = nI t)) with hc_1 | hc_2
  · skip
    refine lv_aload_n hx hb dL_law_701 rfl (lv_at hl 1 rfl) ?_
    refine lv_aload_n hx hb dL_law_702 rfl (lv_at hl 0 rfl) ?_
    refine lv_iload hx hb dL_law_703 (lv_at hl 4 rfl) ?_
    refine lv_iconst (v := nI 1) hx hb dL_law_705 (by decide) ?_
    refine lv_iadd hx hb dL_law_706 ?_
    refine n_eq (nI_add i 1) ?_
    refine va_sld (A := fr z) hx hb hX hbl hbz hI.S (vp_in_nI (n := i + 1) (by omega) (by omega)) dL_law_707 ?_
    rw [nI_clamp (by omega)]
    refine lv_aload_n hx hb dL_law_708 rfl (lv_at hl 0 rfl) ?_
    refine lv_iload hx hb dL_law_709 (lv_at hl 4 rfl) ?_
    refine lv_iconst (v := nI 2) hx hb dL_law_711 (by decide) ?_
    refine lv_iadd hx hb dL_law_712 ?_
    refine n_eq (nI_add i 2) ?_
    refine va_sld (A := fr z) hx hb hX hbl hbz hI.S (vp_in_nI (n := i + 2) (by omega) (by omega)) dL_law_713 ?_
    rw [nI_clamp (by omega)]
    refine lv_aload_n hx hb dL_law_714 rfl (lv_at hl 3 rfl) ?_
    refine k_Ni (vx_runSW (As := [.ref (ad 0), .int (xs (i + 1)), .int (xs (i + 2)), .ref (ad 99)]) (rest := []) ⟨hx, hb, hml, hown, hts⟩ (c_L_one_a l hst G z ad M (qa := qa) (qs := qs) (fw := fw) (x0 := xs (i + 1)) (x1 := xs (i + 2)) f_0 hc_1) (vx_cwSW 4 hts (gSW (lwg_of t_834 rfl) (lwg_of t_835 rfl) (lwg_of t_0 rfl) (lwg_of t_836 rfl)) rfl rfl rfl (by decide +kernel) ⟨Nat.le_of_ble_eq_true rfl, Nat.le_of_ble_eq_true rfl⟩) hI.preS rfl rfl hl.1 rfl (lv_room (Nat.le_of_ble_eq_true rfl)) dL_law_715 ⟨(show _ ≤ (601024 : Nat) from by omega), (show _ ≤ (7293034 : Nat) from by omega)⟩) hI (fun r_3 M_5 H_6 locs_7 hp_4 hI => ?_)
    obtain ⟨hr_8, hF_9⟩ := hp_4
    have hm_10 : M_5 0 = some (cStore ad qa qs fw) := by rw [hF_9 0 ]; exact f_0
    have hm_11 : M_5 1 = some (cTape ad len) := by rw [hF_9 1 ]; exact f_1
    have hm_12 : M_5 2 = some (aI G 400 (nF tb)) := by rw [hF_9 2 ]; exact f_2
    have hm_13 : M_5 3 = some (cLaws ad ) := by rw [hF_9 3 ]; exact f_3
    have hm_14 : M_5 4 = some (aI G 36 (nF le)) := by rw [hF_9 4 ]; exact f_4
    have hm_15 : M_5 5 = some (aI G 36 (nF mo)) := by rw [hF_9 5 ]; exact f_5
    have hm_16 : M_5 6 = some (aI G 36 (nF al)) := by rw [hF_9 6 ]; exact f_6
    have hm_17 : M_5 7 = some (aZ G 6 (bF ho)) := by rw [hF_9 7 ]; exact f_7
    have hm_18 : M_5 8 = some (cOnes ad jn) := by rw [hF_9 8 ]; exact f_8
    have hm_19 : M_5 9 = some (aI G 40 (nF hg)) := by rw [hF_9 9 ]; exact f_9
    have hm_20 : M_5 10 = some (aI G 40 (nF lst)) := by rw [hF_9 10 ]; exact f_10
    have hm_21 : M_5 11 = some (aI G 40 (nF jd)) := by rw [hF_9 11 ]; exact f_11
    have hm_22 : M_5 12 = some (cEnds ad 12 s0) := by rw [hF_9 12 ]; exact f_12
    have hm_23 : M_5 13 = some (aI G 6 (nF r0)) := by rw [hF_9 13 ]; exact f_13
    have hm_24 : M_5 14 = some (aI G 6 (oF th)) := by rw [hF_9 14 ]; exact f_14
    have hm_25 : M_5 15 = some (aI G 6 (oF ol)) := by rw [hF_9 15 ]; exact f_15
    have hm_26 : M_5 19 = some (aZ G 120 (bF mm9)) := by rw [hF_9 19 ]; exact f_19
    have hm_27 : M_5 20 = some (aI G 120 ff) := by rw [hF_9 20 ]; exact f_20
    have hm_28 : M_5 21 = some (aI G 120 lq) := by rw [hF_9 21 ]; exact f_21
    have hm_29 : M_5 22 = some (cReader ad ra rb rt rv) := by rw [hF_9 22 ]; exact f_22
    have hm_30 : M_5 23 = some (cMatcher ad qm pz) := by rw [hF_9 23 ]; exact f_23
    have hm_31 : M_5 24 = some (aJ G 2160 sx) := by rw [hF_9 24 ]; exact f_24
    have hm_32 : M_5 25 = some (aI G 6 (nF ft)) := by rw [hF_9 25 ]; exact f_25
    have hm_33 : M_5 26 = some (aJ G 240 rx) := by rw [hF_9 26 ]; exact f_26
    have hm_34 : M_5 27 = some (aJ G 3 dm) := by rw [hF_9 27 ]; exact f_27
    have hm_35 : M_5 28 = some (aI G 3 rc) := by rw [hF_9 28 ]; exact f_28
    have hm_36 : M_5 qa = some (cQuestion ad qa ao vr) := by rw [hF_9 qa ]; exact f_qa
    have hm_37 : M_5 (qa + 1) = some (aI G 6 (nF kn)) := by rw [hF_9 (qa + 1) ]; exact f_qa_1
    have hm_38 : M_5 (qa + 2) = some (aZ G 6 (bF nq)) := by rw [hF_9 (qa + 2) ]; exact f_qa_2
    have hm_39 : M_5 (qa + 3) = some (aI G 6 (nF pn)) := by rw [hF_9 (qa + 3) ]; exact f_qa_3
    have hm_40 : M_5 (qa + 4) = some (aI G 6 (nF av)) := by rw [hF_9 (qa + 4) ]; exact f_qa_4
    have hm_41 : M_5 (qa + 5) = some (aI G 24 (nF ro)) := by rw [hF_9 (qa + 5) ]; exact f_qa_5
    have hm_42 : M_5 (qa + 6) = some (aI G 24 (nF te)) := by rw [hF_9 (qa + 6) ]; exact f_qa_6
    have hm_43 : M_5 qs = some (cQuestion ad qs sq su) := by rw [hF_9 qs ]; exact f_qs
    have hm_44 : M_5 (qs + 1) = some (aI G 6 (nF kb)) := by rw [hF_9 (qs + 1) ]; exact f_qs_1
    have hm_45 : M_5 (qs + 2) = some (aZ G 6 (bF nb)) := by rw [hF_9 (qs + 2) ]; exact f_qs_2
    have hm_46 : M_5 (qs + 3) = some (aI G 6 (nF pb)) := by rw [hF_9 (qs + 3) ]; exact f_qs_3
    have hm_47 : M_5 (qs + 4) = some (aI G 6 (nF ab)) := by rw [hF_9 (qs + 4) ]; exact f_qs_4
    have hm_48 : M_5 (qs + 5) = some (aI G 24 (nF rbb)) := by rw [hF_9 (qs + 5) ]; exact f_qs_5
    have hm_49 : M_5 (qs + 6) = some (aI G 24 (nF tbb)) := by rw [hF_9 (qs + 6) ]; exact f_qs_6
    have hm_50 : M_5 60 = some (cModel ad tw n jn ao vr sn len pt zs bg fw) := by rw [hF_9 60 ]; exact f_60
    have hm_51 : M_5 61 = some (aI G 36 (nF le)) := by rw [hF_9 61 ]; exact f_61
    have hm_52 : M_5 62 = some (aI G 36 (nF mo)) := by rw [hF_9 62 ]; exact f_62
    have hm_53 : M_5 63 = some (aI G 36 (nF al)) := by rw [hF_9 63 ]; exact f_63
    have hm_54 : M_5 64 = some (aZ G 6 (bF ho)) := by rw [hF_9 64 ]; exact f_64
    have hm_55 : M_5 65 = some (aI G 120 (nF mk)) := by rw [hF_9 65 ]; exact f_65
    have hm_56 : M_5 66 = some (aI G 120 mf) := by rw [hF_9 66 ]; exact f_66
    have hm_57 : M_5 67 = some (aI G 120 mu) := by rw [hF_9 67 ]; exact f_67
    have hm_58 : M_5 68 = some (aI G 121 (nF mz)) := by rw [hF_9 68 ]; exact f_68
    have hm_59 : M_5 69 = some (aI G 726 (nF rr)) := by rw [hF_9 69 ]; exact f_69
    have hm_60 : M_5 70 = some (aI G 726 (nF ee)) := by rw [hF_9 70 ]; exact f_70
    have hm_61 : M_5 71 = some (aI G 40 (nF lst)) := by rw [hF_9 71 ]; exact f_71
    have hm_62 : M_5 72 = some (aI G 40 (nF oa)) := by rw [hF_9 72 ]; exact f_72
    have hm_63 : M_5 73 = some (aI G 40 (nF ob)) := by rw [hF_9 73 ]; exact f_73
    have hm_64 : M_5 74 = some (aI G 120 s74) := by rw [hF_9 74 ]; exact f_74
    have hm_65 : M_5 75 = some (aI G 12 ak) := by rw [hF_9 75 ]; exact f_75
    have hm_66 : M_5 76 = some (aZ G 12 (bF nm)) := by rw [hF_9 76 ]; exact f_76
    have hm_67 : M_5 77 = some (aI G 12 (nF ap)) := by rw [hF_9 77 ]; exact f_77
    have hm_68 : M_5 78 = some (aI G 48 pr) := by rw [hF_9 78 ]; exact f_78
    have hm_69 : M_5 79 = some (aI G 48 pf) := by rw [hF_9 79 ]; exact f_79
    have hm_70 : M_5 80 = some (aB G 400 tf) := by rw [hF_9 80 ]; exact f_80
    have hm_71 : M_5 81 = some (aI G 5 fv) := by rw [hF_9 81 ]; exact f_81
    have hm_72 : M_5 82 = some (aZ G 384000 (bF tr)) := by rw [hF_9 82 ]; exact f_82
    have hm_73 : M_5 83 = some (aI G 3 (oF gv)) := by rw [hF_9 83 ]; exact f_83
    have hm_74 : M_5 84 = some (aI G 3 fo) := by rw [hF_9 84 ]; exact f_84
    have hm_75 : M_5 85 = some (aZ G 40 (bF re)) := by rw [hF_9 85 ]; exact f_85
    have hm_76 : M_5 86 = some (aZ G 120 (bF us)) := by rw [hF_9 86 ]; exact f_86
    have hm_77 : M_5 87 = some (aZ G 120 (bF nx)) := by rw [hF_9 87 ]; exact f_87
    have hm_78 : M_5 99 = some (aJ G 1 of) := by rw [hF_9 99 ]; exact f_99
    have hm_79 : M_5 16 = some (cLines ad ) := by rw [hF_9 16 ]; exact h16
    have hL_80 : LSm G ad M_5 n kd fm to sz rl en := fL.keep (fun j hj => hF_9 j )
    rw [hr_8]
    refine lv_istore (lv' := [(5, .int (nI 1)), (0, .ref b), (1, .ref (ad 0)), (2, .ref (ad 60)), (3, .ref (ad 99)), (4, .int (nI i))]) hx hb dL_law_718 hl (by decide) rfl (fun ls hl => ?_)
    refine lv_aload_n hx hb dL_law_720 rfl (lv_at hl 3 rfl) ?_
    refine lv_aload_n hx hb dL_law_721 rfl (lv_at hl 1 rfl) ?_
    refine lv_iload hx hb dL_law_722 (lv_at hl 5 rfl) ?_
    refine lv_iconst (v := nI 1) hx hb dL_law_724 (by decide) ?_
    refine lv_iadd hx hb dL_law_725 ?_
    refine n_eq (nI_add i 1) ?_
    refine va_sld (A := fr z) hx hb hX hbl hbz hI.S (vp_in_nI (n := i + 1) (by omega) (by omega)) dL_law_726 ?_
    rw [nI_clamp (by omega)]
    refine lv_aload_n hx hb dL_law_727 rfl (lv_at hl 1 rfl) ?_
    refine lv_iload hx hb dL_law_728 (lv_at hl 5 rfl) ?_
    refine lv_iconst (v := nI 2) hx hb dL_law_730 (by decide) ?_
    refine lv_iadd hx hb dL_law_731 ?_
    refine n_eq (nI_add i 2) ?_
    refine va_sld (A := fr z) hx hb hX hbl hbz hI.S (vp_in_nI (n := i + 2) (by omega) (by omega)) dL_law_732 ?_
    rw [nI_clamp (by omega)]
    refine k_Ni (va_runV (As := [.int (xs (i + 1)), .int (xs (i + 2))]) (rest := []) ⟨hx, hb, hml, hown, hts⟩ (c_X10_one_a l G z ad M_5 (th := tw) (ln := n) (on := jn) (ao := ao) (vr := vr) (sn := sn) (tp := len) (pt := pt) (zs := zs) (bg := bg) (fa := fw) (x0 := xs (i + 1)) (x1 := xs (i + 2)) hm_50 hc_1) (cwV 2 hts (gV (lwg_of t_1201 rfl) (lwg_of t_1202 rfl) (lwg_of t_1203 rfl) (lwg_of t_13 rfl) (lwg_of t_1204 rfl)) rfl rfl rfl (by decide +kernel) ⟨Nat.le_of_ble_eq_true rfl, Nat.le_of_ble_eq_true rfl⟩) (hI.preV hm_50 rfl) rfl rfl hl.1 rfl (lv_room (Nat.le_of_ble_eq_true rfl)) dL_law_733 ⟨(show _ ≤ (601024 : Nat) from by omega), (show _ ≤ (7293034 : Nat) from by omega)⟩) hI (fun r_81 M_83 H_84 locs_85 hp_82 hI => ?_)
    obtain ⟨hr_86, hm_87, hF_88⟩ := hp_82
    have hm_89 : M_83 0 = some (cStore ad qa qs fw) := by rw [hF_88 0 (by omega)]; exact hm_10
    have hm_90 : M_83 1 = some (cTape ad len) := by rw [hF_88 1 (by omega)]; exact hm_11
    have hm_91 : M_83 2 = some (aI G 400 (nF tb)) := by rw [hF_88 2 (by omega)]; exact hm_12
    have hm_92 : M_83 3 = some (cLaws ad ) := by rw [hF_88 3 (by omega)]; exact hm_13
    have hm_93 : M_83 4 = some (aI G 36 (nF le)) := by rw [hF_88 4 (by omega)]; exact hm_14
    have hm_94 : M_83 5 = some (aI G 36 (nF mo)) := by rw [hF_88 5 (by omega)]; exact hm_15
    have hm_95 : M_83 6 = some (aI G 36 (nF al)) := by rw [hF_88 6 (by omega)]; exact hm_16
    have hm_96 : M_83 7 = some (aZ G 6 (bF ho)) := by rw [hF_88 7 (by omega)]; exact hm_17
    have hm_97 : M_83 8 = some (cOnes ad jn) := by rw [hF_88 8 (by omega)]; exact hm_18
    have hm_98 : M_83 9 = some (aI G 40 (nF hg)) := by rw [hF_88 9 (by omega)]; exact hm_19
    have hm_99 : M_83 10 = some (aI G 40 (nF lst)) := by rw [hF_88 10 (by omega)]; exact hm_20
    have hm_100 : M_83 11 = some (aI G 40 (nF jd)) := by rw [hF_88 11 (by omega)]; exact hm_21
    have hm_101 : M_83 12 = some (cEnds ad 12 s0) := by rw [hF_88 12 (by omega)]; exact hm_22
    have hm_102 : M_83 13 = some (aI G 6 (nF r0)) := by rw [hF_88 13 (by omega)]; exact hm_23
    have hm_103 : M_83 14 = some (aI G 6 (oF th)) := by rw [hF_88 14 (by omega)]; exact hm_24
    have hm_104 : M_83 15 = some (aI G 6 (oF ol)) := by rw [hF_88 15 (by omega)]; exact hm_25
    have hm_105 : M_83 19 = some (aZ G 120 (bF mm9)) := by rw [hF_88 19 (by omega)]; exact hm_26
    have hm_106 : M_83 20 = some (aI G 120 ff) := by rw [hF_88 20 (by omega)]; exact hm_27
    have hm_107 : M_83 21 = some (aI G 120 lq) := by rw [hF_88 21 (by omega)]; exact hm_28
    have hm_108 : M_83 22 = some (cReader ad ra rb rt rv) := by rw [hF_88 22 (by omega)]; exact hm_29
    have hm_109 : M_83 23 = some (cMatcher ad qm pz) := by rw [hF_88 23 (by omega)]; exact hm_30
    have hm_110 : M_83 24 = some (aJ G 2160 sx) := by rw [hF_88 24 (by omega)]; exact hm_31
    have hm_111 : M_83 25 = some (aI G 6 (nF ft)) := by rw [hF_88 25 (by omega)]; exact hm_32
    have hm_112 : M_83 26 = some (aJ G 240 rx) := by rw [hF_88 26 (by omega)]; exact hm_33
    have hm_113 : M_83 27 = some (aJ G 3 dm) := by rw [hF_88 27 (by omega)]; exact hm_34
    have hm_114 : M_83 28 = some (aI G 3 rc) := by rw [hF_88 28 (by omega)]; exact hm_35
    have hm_115 : M_83 qa = some (cQuestion ad qa ao vr) := by rw [hF_88 qa (by omega)]; exact hm_36
    have hm_116 : M_83 (qa + 1) = some (aI G 6 (nF kn)) := by rw [hF_88 (qa + 1) (by omega)]; exact hm_37
    have hm_117 : M_83 (qa + 2) = some (aZ G 6 (bF nq)) := by rw [hF_88 (qa + 2) (by omega)]; exact hm_38
    have hm_118 : M_83 (qa + 3) = some (aI G 6 (nF pn)) := by rw [hF_88 (qa + 3) (by omega)]; exact hm_39
    have hm_119 : M_83 (qa + 4) = some (aI G 6 (nF av)) := by rw [hF_88 (qa + 4) (by omega)]; exact hm_40
    have hm_120 : M_83 (qa + 5) = some (aI G 24 (nF ro)) := by rw [hF_88 (qa + 5) (by omega)]; exact hm_41
    have hm_121 : M_83 (qa + 6) = some (aI G 24 (nF te)) := by rw [hF_88 (qa + 6) (by omega)]; exact hm_42
    have hm_122 : M_83 qs = some (cQuestion ad qs sq su) := by rw [hF_88 qs (by omega)]; exact hm_43
    have hm_123 : M_83 (qs + 1) = some (aI G 6 (nF kb)) := by rw [hF_88 (qs + 1) (by omega)]; exact hm_44
    have hm_124 : M_83 (qs + 2) = some (aZ G 6 (bF nb)) := by rw [hF_88 (qs + 2) (by omega)]; exact hm_45
    have hm_125 : M_83 (qs + 3) = some (aI G 6 (nF pb)) := by rw [hF_88 (qs + 3) (by omega)]; exact hm_46
    have hm_126 : M_83 (qs + 4) = some (aI G 6 (nF ab)) := by rw [hF_88 (qs + 4) (by omega)]; exact hm_47
    have hm_127 : M_83 (qs + 5) = some (aI G 24 (nF rbb)) := by rw [hF_88 (qs + 5) (by omega)]; exact hm_48
    have hm_128 : M_83 (qs + 6) = some (aI G 24 (nF tbb)) := by rw [hF_88 (qs + 6) (by omega)]; exact hm_49
    have hm_129 : M_83 61 = some (aI G 36 (nF le)) := by rw [hF_88 61 (by omega)]; exact hm_51
    have hm_130 : M_83 62 = some (aI G 36 (nF mo)) := by rw [hF_88 62 (by omega)]; exact hm_52
    have hm_131 : M_83 63 = some (aI G 36 (nF al)) := by rw [hF_88 63 (by omega)]; exact hm_53
    have hm_132 : M_83 64 = some (aZ G 6 (bF ho)) := by rw [hF_88 64 (by omega)]; exact hm_54
    have hm_133 : M_83 65 = some (aI G 120 (nF mk)) := by rw [hF_88 65 (by omega)]; exact hm_55
    have hm_134 : M_83 66 = some (aI G 120 mf) := by rw [hF_88 66 (by omega)]; exact hm_56
    have hm_135 : M_83 67 = some (aI G 120 mu) := by rw [hF_88 67 (by omega)]; exact hm_57
    have hm_136 : M_83 68 = some (aI G 121 (nF mz)) := by rw [hF_88 68 (by omega)]; exact hm_58
    have hm_137 : M_83 69 = some (aI G 726 (nF rr)) := by rw [hF_88 69 (by omega)]; exact hm_59
    have hm_138 : M_83 70 = some (aI G 726 (nF ee)) := by rw [hF_88 70 (by omega)]; exact hm_60
    have hm_139 : M_83 71 = some (aI G 40 (nF lst)) := by rw [hF_88 71 (by omega)]; exact hm_61
    have hm_140 : M_83 72 = some (aI G 40 (nF oa)) := by rw [hF_88 72 (by omega)]; exact hm_62
    have hm_141 : M_83 73 = some (aI G 40 (nF ob)) := by rw [hF_88 73 (by omega)]; exact hm_63
    have hm_142 : M_83 74 = some (aI G 120 s74) := by rw [hF_88 74 (by omega)]; exact hm_64
    have hm_143 : M_83 75 = some (aI G 12 ak) := by rw [hF_88 75 (by omega)]; exact hm_65
    have hm_144 : M_83 76 = some (aZ G 12 (bF nm)) := by rw [hF_88 76 (by omega)]; exact hm_66
    have hm_145 : M_83 77 = some (aI G 12 (nF ap)) := by rw [hF_88 77 (by omega)]; exact hm_67
    have hm_146 : M_83 78 = some (aI G 48 pr) := by rw [hF_88 78 (by omega)]; exact hm_68
    have hm_147 : M_83 79 = some (aI G 48 pf) := by rw [hF_88 79 (by omega)]; exact hm_69
    have hm_148 : M_83 80 = some (aB G 400 tf) := by rw [hF_88 80 (by omega)]; exact hm_70
    have hm_149 : M_83 81 = some (aI G 5 fv) := by rw [hF_88 81 (by omega)]; exact hm_71
    have hm_150 : M_83 82 = some (aZ G 384000 (bF tr)) := by rw [hF_88 82 (by omega)]; exact hm_72
    have hm_151 : M_83 83 = some (aI G 3 (oF gv)) := by rw [hF_88 83 (by omega)]; exact hm_73
    have hm_152 : M_83 84 = some (aI G 3 fo) := by rw [hF_88 84 (by omega)]; exact hm_74
    have hm_153 : M_83 85 = some (aZ G 40 (bF re)) := by rw [hF_88 85 (by omega)]; exact hm_75
    have hm_154 : M_83 86 = some (aZ G 120 (bF us)) := by rw [hF_88 86 (by omega)]; exact hm_76
    have hm_155 : M_83 87 = some (aZ G 120 (bF nx)) := by rw [hF_88 87 (by omega)]; exact hm_77
    have hm_156 : M_83 99 = some (aJ G 1 of) := by rw [hF_88 99 (by omega)]; exact hm_78
    have hm_157 : M_83 16 = some (cLines ad ) := by rw [hF_88 16 (by omega)]; exact hm_79
    have hL_158 : LSm G ad M_83 n kd fm to sz rl en := hL_80.keep (fun j hj => hF_88 j (by omega))
    have hF_159 : ∀ j : Nat, j ≠ 60 → M_83 j = M j := fun j q0 => (hF_88 j q0).trans (hF_9 j )
    rw [hr_86]
    refine lv_istore (lv' := [(6, .int (nI 0)), (5, .int (nI 1)), (0, .ref b), (1, .ref (ad 0)), (2, .ref (ad 60)), (3, .ref (ad 99)), (4, .int (nI i))]) hx hb dL_law_736 hl (by decide) rfl (fun ls hl => ?_)
    refine lv_aload_n hx hb dL_law_738 rfl (lv_at hl 4 rfl) ?_
    refine k_Ri (va_runV (As := []) (rest := []) ⟨hx, hb, hml, hown, hts⟩ (c_X10_thrown l G z ad M_83 (th := 1) (ln := n) (on := jn) (ao := ao) (vr := vr) (sn := sn) (tp := len) (pt := pt) (zs := zs) (bg := bg) (fa := fw) hm_87) (cwV 0 hts (gV (lwg_of t_997 rfl) (lwg_of t_998 rfl) (lwg_of t_999 rfl) (lwg_of t_13 rfl) (lwg_of t_1000 rfl)) rfl rfl rfl (by decide +kernel) ⟨Nat.le_of_ble_eq_true rfl, Nat.le_of_ble_eq_true rfl⟩) (hI.preV hm_87 rfl) rfl rfl hl.1 rfl (lv_room (Nat.le_of_ble_eq_true rfl)) dL_law_739 ⟨(show _ ≤ (601024 : Nat) from by omega), (show _ ≤ (7293034 : Nat) from by omega)⟩) (fun _ h => h) (fun r_160 hp_161 => ?_)
    rw [hp_161]
    refine lv_iload hx hb dL_law_742 (lv_at hl 1 rfl) ?_
    refine lv_icmp_eq (tgt := 749) hx hb dL_law_744 (by decide) (fun c_162 => ?_) (fun c_162 => ?_)
    · -- 744: nI 1 eq
      refine lv_iload hx hb dL_law_749 (lv_at hl 1 rfl) ?_
      refine lv_if_ne (tgt := 773) hx hb dL_law_751 (by decide) (fun c_163 => ?_) (fun c_163 => ?_)
      · -- 751: nI 1 ne
        refine lv_goto (tgt := 1333) hx hb dL_law_773 (by decide) ?_
        refine W.widen (k := cz + 10) (n := sy + 300) (by omega) (by omega) ?_
        exact kk ad M_83 H_84 locs_85 ls n kd fm to sz rl en qa qs fw len tb le mo al ho jn hg lst jd s0 r0 th ol e0 mm9 ff lq ra rb rt rv qm pz sx ft rx dm rc ao vr kn nq pn av ro te sq su kb nb pb ab rbb tbb 1 sn pt zs bg mk mf mu mz rr ee oa ob s74 ak nm ap pr pf tf fv tr gv fo re us nx of hL_158 w1 w2 w3 w4 w5 w6 w7 w8 w9 w10 w11 w12 w13 w14 w15 w16 w17 w18 w19 w20 w21 w22 w23 w24 w25 w26 w27 w28 w29 (fun h9 => by rw [hF_159 17 (by omega), hF_159 18 (by omega)]; exact w30 h9) (by rw [hF_159 29 (by omega)]; exact w31) (fun j9 h9 => by rw [hF_159 j9 (by omega)]; exact w32 j9 h9) hm_89 hm_90 hm_91 hm_92 hm_93 hm_94 hm_95 hm_96 hm_97 hm_98 hm_99 hm_100 hm_101 hm_102 hm_103 hm_104 hm_105 hm_106 hm_107 hm_108 hm_109 hm_110 hm_111 hm_112 hm_113 hm_114 hm_115 hm_116 hm_117 hm_118 hm_119 hm_120 hm_121 hm_122 hm_123 hm_124 hm_125 hm_126 hm_127 hm_128 hm_87 hm_129 hm_130 hm_131 hm_132 hm_133 hm_134 hm_135 hm_136 hm_137 hm_138 hm_139 hm_140 hm_141 hm_142 hm_143 hm_144 hm_145 hm_146 hm_147 hm_148 hm_149 hm_150 hm_151 hm_152 hm_153 hm_154 hm_155 hm_156 hI (lv_sub hl [2, 3, 4, 5, 6] rfl)
      · -- 751: nI 1 eq
        exact absurd c_163 (by decide)
    · -- 744: nI 1 ne
      exact absurd (by decide) c_162
  · skip
    refine lv_aload_n hx hb dL_law_701 rfl (lv_at hl 1 rfl) ?_
    obtain ⟨t1, ht1, et1⟩ := hc_2
    rcases (in_or 40 (xs (i + 2)) (by omega) : (xs (i + 2) < 0 ∨ ¬ xs (i + 2) < nI 40) ∨ (∃ t : Nat, t < 40 ∧ xs (i + 2) = nI t)) with hc_164 | hc_165
    · skip
      refine lv_aload_n hx hb dL_law_702 rfl (lv_at hl 0 rfl) ?_
      refine lv_iload hx hb dL_law_703 (lv_at hl 4 rfl) ?_
      refine lv_iconst (v := nI 1) hx hb dL_law_705 (by decide) ?_
      refine lv_iadd hx hb dL_law_706 ?_
      refine n_eq (nI_add i 1) ?_
      refine va_sld (A := fr z) hx hb hX hbl hbz hI.S (vp_in_nI (n := i + 1) (by omega) (by omega)) dL_law_707 ?_
      rw [nI_clamp (by omega)]
      refine n_eq (show _ = nI t1 from et1) ?_
      refine lv_aload_n hx hb dL_law_708 rfl (lv_at hl 0 rfl) ?_
      refine lv_iload hx hb dL_law_709 (lv_at hl 4 rfl) ?_
      refine lv_iconst (v := nI 2) hx hb dL_law_711 (by decide) ?_
      refine lv_iadd hx hb dL_law_712 ?_
      refine n_eq (nI_add i 2) ?_
      refine va_sld (A := fr z) hx hb hX hbl hbz hI.S (vp_in_nI (n := i + 2) (by omega) (by omega)) dL_law_713 ?_
      rw [nI_clamp (by omega)]
      refine lv_aload_n hx hb dL_law_714 rfl (lv_at hl 3 rfl) ?_
      refine k_Ni (vx_runSW (As := [.ref (ad 0), .int (nI t1), .int (xs (i + 2)), .ref (ad 99)]) (rest := []) ⟨hx, hb, hml, hown, hts⟩ (c_L_one_b l hst G z ad M (qa := qa) (qs := qs) (fw := fw) (a := t1) (x1 := xs (i + 2)) f_0 ht1 hc_164) (vx_cwSW 4 hts (gSW (lwg_of t_834 rfl) (lwg_of t_835 rfl) (lwg_of t_0 rfl) (lwg_of t_836 rfl)) rfl rfl rfl (by decide +kernel) ⟨Nat.le_of_ble_eq_true rfl, Nat.le_of_ble_eq_true rfl⟩) hI.preS rfl rfl hl.1 rfl (lv_room (Nat.le_of_ble_eq_true rfl)) dL_law_715 ⟨(show _ ≤ (601024 : Nat) from by omega), (show _ ≤ (7293034 : Nat) from by omega)⟩) hI (fun r_166 M_168 H_169 locs_170 hp_167 hI => ?_)
      obtain ⟨hr_171, hF_172⟩ := hp_167
      have hm_173 : M_168 0 = some (cStore ad qa qs fw) := by rw [hF_172 0 ]; exact f_0
      have hm_174 : M_168 1 = some (cTape ad len) := by rw [hF_172 1 ]; exact f_1
      have hm_175 : M_168 2 = some (aI G 400 (nF tb)) := by rw [hF_172 2 ]; exact f_2
      have hm_176 : M_168 3 = some (cLaws ad ) := by rw [hF_172 3 ]; exact f_3
      have hm_177 : M_168 4 = some (aI G 36 (nF le)) := by rw [hF_172 4 ]; exact f_4
      have hm_178 : M_168 5 = some (aI G 36 (nF mo)) := by rw [hF_172 5 ]; exact f_5
      have hm_179 : M_168 6 = some (aI G 36 (nF al)) := by rw [hF_172 6 ]; exact f_6
      have hm_180 : M_168 7 = some (aZ G 6 (bF ho)) := by rw [hF_172 7 ]; exact f_7
      have hm_181 : M_168 8 = some (cOnes ad jn) := by rw [hF_172 8 ]; exact f_8
      have hm_182 : M_168 9 = some (aI G 40 (nF hg)) := by rw [hF_172 9 ]; exact f_9
      have hm_183 : M_168 10 = some (aI G 40 (nF lst)) := by rw [hF_172 10 ]; exact f_10
      have hm_184 : M_168 11 = some (aI G 40 (nF jd)) := by rw [hF_172 11 ]; exact f_11
      have hm_185 : M_168 12 = some (cEnds ad 12 s0) := by rw [hF_172 12 ]; exact f_12
      have hm_186 : M_168 13 = some (aI G 6 (nF r0)) := by rw [hF_172 13 ]; exact f_13
      have hm_187 : M_168 14 = some (aI G 6 (oF th)) := by rw [hF_172 14 ]; exact f_14
      have hm_188 : M_168 15 = some (aI G 6 (oF ol)) := by rw [hF_172 15 ]; exact f_15
      have hm_189 : M_168 19 = some (aZ G 120 (bF mm9)) := by rw [hF_172 19 ]; exact f_19
      have hm_190 : M_168 20 = some (aI G 120 ff) := by rw [hF_172 20 ]; exact f_20
      have hm_191 : M_168 21 = some (aI G 120 lq) := by rw [hF_172 21 ]; exact f_21
      have hm_192 : M_168 22 = some (cReader ad ra rb rt rv) := by rw [hF_172 22 ]; exact f_22
      have hm_193 : M_168 23 = some (cMatcher ad qm pz) := by rw [hF_172 23 ]; exact f_23
      have hm_194 : M_168 24 = some (aJ G 2160 sx) := by rw [hF_172 24 ]; exact f_24
      have hm_195 : M_168 25 = some (aI G 6 (nF ft)) := by rw [hF_172 25 ]; exact f_25
      have hm_196 : M_168 26 = some (aJ G 240 rx) := by rw [hF_172 26 ]; exact f_26
      have hm_197 : M_168 27 = some (aJ G 3 dm) := by rw [hF_172 27 ]; exact f_27
      have hm_198 : M_168 28 = some (aI G 3 rc) := by rw [hF_172 28 ]; exact f_28
      have hm_199 : M_168 qa = some (cQuestion ad qa ao vr) := by rw [hF_172 qa ]; exact f_qa
      have hm_200 : M_168 (qa + 1) = some (aI G 6 (nF kn)) := by rw [hF_172 (qa + 1) ]; exact f_qa_1
      have hm_201 : M_168 (qa + 2) = some (aZ G 6 (bF nq)) := by rw [hF_172 (qa + 2) ]; exact f_qa_2
      have hm_202 : M_168 (qa + 3) = some (aI G 6 (nF pn)) := by rw [hF_172 (qa + 3) ]; exact f_qa_3
      have hm_203 : M_168 (qa + 4) = some (aI G 6 (nF av)) := by rw [hF_172 (qa + 4) ]; exact f_qa_4
      have hm_204 : M_168 (qa + 5) = some (aI G 24 (nF ro)) := by rw [hF_172 (qa + 5) ]; exact f_qa_5
      have hm_205 : M_168 (qa + 6) = some (aI G 24 (nF te)) := by rw [hF_172 (qa + 6) ]; exact f_qa_6
      have hm_206 : M_168 qs = some (cQuestion ad qs sq su) := by rw [hF_172 qs ]; exact f_qs
      have hm_207 : M_168 (qs + 1) = some (aI G 6 (nF kb)) := by rw [hF_172 (qs + 1) ]; exact f_qs_1
      have hm_208 : M_168 (qs + 2) = some (aZ G 6 (bF nb)) := by rw [hF_172 (qs + 2) ]; exact f_qs_2
      have hm_209 : M_168 (qs + 3) = some (aI G 6 (nF pb)) := by rw [hF_172 (qs + 3) ]; exact f_qs_3
      have hm_210 : M_168 (qs + 4) = some (aI G 6 (nF ab)) := by rw [hF_172 (qs + 4) ]; exact f_qs_4
      have hm_211 : M_168 (qs + 5) = some (aI G 24 (nF rbb)) := by rw [hF_172 (qs + 5) ]; exact f_qs_5
      have hm_212 : M_168 (qs + 6) = some (aI G 24 (nF tbb)) := by rw [hF_172 (qs + 6) ]; exact f_qs_6
      have hm_213 : M_168 60 = some (cModel ad tw n jn ao vr sn len pt zs bg fw) := by rw [hF_172 60 ]; exact f_60
      have hm_214 : M_168 61 = some (aI G 36 (nF le)) := by rw [hF_172 61 ]; exact f_61
      have hm_215 : M_168 62 = some (aI G 36 (nF mo)) := by rw [hF_172 62 ]; exact f_62
      have hm_216 : M_168 63 = some (aI G 36 (nF al)) := by rw [hF_172 63 ]; exact f_63
      have hm_217 : M_168 64 = some (aZ G 6 (bF ho)) := by rw [hF_172 64 ]; exact f_64
      have hm_218 : M_168 65 = some (aI G 120 (nF mk)) := by rw [hF_172 65 ]; exact f_65
      have hm_219 : M_168 66 = some (aI G 120 mf) := by rw [hF_172 66 ]; exact f_66
      have hm_220 : M_168 67 = some (aI G 120 mu) := by rw [hF_172 67 ]; exact f_67
      have hm_221 : M_168 68 = some (aI G 121 (nF mz)) := by rw [hF_172 68 ]; exact f_68
      have hm_222 : M_168 69 = some (aI G 726 (nF rr)) := by rw [hF_172 69 ]; exact f_69
      have hm_223 : M_168 70 = some (aI G 726 (nF ee)) := by rw [hF_172 70 ]; exact f_70
      have hm_224 : M_168 71 = some (aI G 40 (nF lst)) := by rw [hF_172 71 ]; exact f_71
      have hm_225 : M_168 72 = some (aI G 40 (nF oa)) := by rw [hF_172 72 ]; exact f_72
      have hm_226 : M_168 73 = some (aI G 40 (nF ob)) := by rw [hF_172 73 ]; exact f_73
      have hm_227 : M_168 74 = some (aI G 120 s74) := by rw [hF_172 74 ]; exact f_74
      have hm_228 : M_168 75 = some (aI G 12 ak) := by rw [hF_172 75 ]; exact f_75
      have hm_229 : M_168 76 = some (aZ G 12 (bF nm)) := by rw [hF_172 76 ]; exact f_76
      have hm_230 : M_168 77 = some (aI G 12 (nF ap)) := by rw [hF_172 77 ]; exact f_77
      have hm_231 : M_168 78 = some (aI G 48 pr) := by rw [hF_172 78 ]; exact f_78
      have hm_232 : M_168 79 = some (aI G 48 pf) := by rw [hF_172 79 ]; exact f_79
      have hm_233 : M_168 80 = some (aB G 400 tf) := by rw [hF_172 80 ]; exact f_80
      have hm_234 : M_168 81 = some (aI G 5 fv) := by rw [hF_172 81 ]; exact f_81
      have hm_235 : M_168 82 = some (aZ G 384000 (bF tr)) := by rw [hF_172 82 ]; exact f_82
      have hm_236 : M_168 83 = some (aI G 3 (oF gv)) := by rw [hF_172 83 ]; exact f_83
      have hm_237 : M_168 84 = some (aI G 3 fo) := by rw [hF_172 84 ]; exact f_84
      have hm_238 : M_168 85 = some (aZ G 40 (bF re)) := by rw [hF_172 85 ]; exact f_85
      have hm_239 : M_168 86 = some (aZ G 120 (bF us)) := by rw [hF_172 86 ]; exact f_86
      have hm_240 : M_168 87 = some (aZ G 120 (bF nx)) := by rw [hF_172 87 ]; exact f_87
      have hm_241 : M_168 99 = some (aJ G 1 of) := by rw [hF_172 99 ]; exact f_99
      have hm_242 : M_168 16 = some (cLines ad ) := by rw [hF_172 16 ]; exact h16
      have hL_243 : LSm G ad M_168 n kd fm to sz rl en := fL.keep (fun j hj => hF_172 j )
      rw [hr_171]
      refine lv_istore (lv' := [(5, .int (nI 1)), (0, .ref b), (1, .ref (ad 0)), (2, .ref (ad 60)), (3, .ref (ad 99)), (4, .int (nI i))]) hx hb dL_law_718 hl (by decide) rfl (fun ls hl => ?_)
      refine lv_aload_n hx hb dL_law_720 rfl (lv_at hl 3 rfl) ?_
      refine lv_aload_n hx hb dL_law_721 rfl (lv_at hl 1 rfl) ?_
      refine lv_iload hx hb dL_law_722 (lv_at hl 5 rfl) ?_
      refine lv_iconst (v := nI 1) hx hb dL_law_724 (by decide) ?_
      refine lv_iadd hx hb dL_law_725 ?_
      refine n_eq (nI_add i 1) ?_
      refine va_sld (A := fr z) hx hb hX hbl hbz hI.S (vp_in_nI (n := i + 1) (by omega) (by omega)) dL_law_726 ?_
      rw [nI_clamp (by omega)]
      refine n_eq (show _ = nI t1 from et1) ?_
      refine lv_aload_n hx hb dL_law_727 rfl (lv_at hl 1 rfl) ?_
      refine lv_iload hx hb dL_law_728 (lv_at hl 5 rfl) ?_
      refine lv_iconst (v := nI 2) hx hb dL_law_730 (by decide) ?_
      refine lv_iadd hx hb dL_law_731 ?_
      refine n_eq (nI_add i 2) ?_
      refine va_sld (A := fr z) hx hb hX hbl hbz hI.S (vp_in_nI (n := i + 2) (by omega) (by omega)) dL_law_732 ?_
      rw [nI_clamp (by omega)]
      refine k_Ni (va_runV (As := [.int (nI t1), .int (xs (i + 2))]) (rest := []) ⟨hx, hb, hml, hown, hts⟩ (c_X10_one_b l G z ad M_168 (th := tw) (ln := n) (on := jn) (ao := ao) (vr := vr) (sn := sn) (tp := len) (pt := pt) (zs := zs) (bg := bg) (fa := fw) (a := t1) (x1 := xs (i + 2)) hm_213 ht1 hc_164) (cwV 2 hts (gV (lwg_of t_1201 rfl) (lwg_of t_1202 rfl) (lwg_of t_1203 rfl) (lwg_of t_13 rfl) (lwg_of t_1204 rfl)) rfl rfl rfl (by decide +kernel) ⟨Nat.le_of_ble_eq_true rfl, Nat.le_of_ble_eq_true rfl⟩) (hI.preV hm_213 rfl) rfl rfl hl.1 rfl (lv_room (Nat.le_of_ble_eq_true rfl)) dL_law_733 ⟨(show _ ≤ (601024 : Nat) from by omega), (show _ ≤ (7293034 : Nat) from by omega)⟩) hI (fun r_244 M_246 H_247 locs_248 hp_245 hI => ?_)
      obtain ⟨hr_249, hm_250, hF_251⟩ := hp_245
      have hm_252 : M_246 0 = some (cStore ad qa qs fw) := by rw [hF_251 0 (by omega)]; exact hm_173
      have hm_253 : M_246 1 = some (cTape ad len) := by rw [hF_251 1 (by omega)]; exact hm_174
      have hm_254 : M_246 2 = some (aI G 400 (nF tb)) := by rw [hF_251 2 (by omega)]; exact hm_175
      have hm_255 : M_246 3 = some (cLaws ad ) := by rw [hF_251 3 (by omega)]; exact hm_176
      have hm_256 : M_246 4 = some (aI G 36 (nF le)) := by rw [hF_251 4 (by omega)]; exact hm_177
      have hm_257 : M_246 5 = some (aI G 36 (nF mo)) := by rw [hF_251 5 (by omega)]; exact hm_178
      have hm_258 : M_246 6 = some (aI G 36 (nF al)) := by rw [hF_251 6 (by omega)]; exact hm_179
      have hm_259 : M_246 7 = some (aZ G 6 (bF ho)) := by rw [hF_251 7 (by omega)]; exact hm_180
      have hm_260 : M_246 8 = some (cOnes ad jn) := by rw [hF_251 8 (by omega)]; exact hm_181
      have hm_261 : M_246 9 = some (aI G 40 (nF hg)) := by rw [hF_251 9 (by omega)]; exact hm_182
      have hm_262 : M_246 10 = some (aI G 40 (nF lst)) := by rw [hF_251 10 (by omega)]; exact hm_183
      have hm_263 : M_246 11 = some (aI G 40 (nF jd)) := by rw [hF_251 11 (by omega)]; exact hm_184
      have hm_264 : M_246 12 = some (cEnds ad 12 s0) := by rw [hF_251 12 (by omega)]; exact hm_185
      have hm_265 : M_246 13 = some (aI G 6 (nF r0)) := by rw [hF_251 13 (by omega)]; exact hm_186
      have hm_266 : M_246 14 = some (aI G 6 (oF th)) := by rw [hF_251 14 (by omega)]; exact hm_187
      have hm_267 : M_246 15 = some (aI G 6 (oF ol)) := by rw [hF_251 15 (by omega)]; exact hm_188
      have hm_268 : M_246 19 = some (aZ G 120 (bF mm9)) := by rw [hF_251 19 (by omega)]; exact hm_189
      have hm_269 : M_246 20 = some (aI G 120 ff) := by rw [hF_251 20 (by omega)]; exact hm_190
      have hm_270 : M_246 21 = some (aI G 120 lq) := by rw [hF_251 21 (by omega)]; exact hm_191
      have hm_271 : M_246 22 = some (cReader ad ra rb rt rv) := by rw [hF_251 22 (by omega)]; exact hm_192
      have hm_272 : M_246 23 = some (cMatcher ad qm pz) := by rw [hF_251 23 (by omega)]; exact hm_193
      have hm_273 : M_246 24 = some (aJ G 2160 sx) := by rw [hF_251 24 (by omega)]; exact hm_194
      have hm_274 : M_246 25 = some (aI G 6 (nF ft)) := by rw [hF_251 25 (by omega)]; exact hm_195
      have hm_275 : M_246 26 = some (aJ G 240 rx) := by rw [hF_251 26 (by omega)]; exact hm_196
      have hm_276 : M_246 27 = some (aJ G 3 dm) := by rw [hF_251 27 (by omega)]; exact hm_197
      have hm_277 : M_246 28 = some (aI G 3 rc) := by rw [hF_251 28 (by omega)]; exact hm_198
      have hm_278 : M_246 qa = some (cQuestion ad qa ao vr) := by rw [hF_251 qa (by omega)]; exact hm_199
      have hm_279 : M_246 (qa + 1) = some (aI G 6 (nF kn)) := by rw [hF_251 (qa + 1) (by omega)]; exact hm_200
      have hm_280 : M_246 (qa + 2) = some (aZ G 6 (bF nq)) := by rw [hF_251 (qa + 2) (by omega)]; exact hm_201
      have hm_281 : M_246 (qa + 3) = some (aI G 6 (nF pn)) := by rw [hF_251 (qa + 3) (by omega)]; exact hm_202
      have hm_282 : M_246 (qa + 4) = some (aI G 6 (nF av)) := by rw [hF_251 (qa + 4) (by omega)]; exact hm_203
      have hm_283 : M_246 (qa + 5) = some (aI G 24 (nF ro)) := by rw [hF_251 (qa + 5) (by omega)]; exact hm_204
      have hm_284 : M_246 (qa + 6) = some (aI G 24 (nF te)) := by rw [hF_251 (qa + 6) (by omega)]; exact hm_205
      have hm_285 : M_246 qs = some (cQuestion ad qs sq su) := by rw [hF_251 qs (by omega)]; exact hm_206
      have hm_286 : M_246 (qs + 1) = some (aI G 6 (nF kb)) := by rw [hF_251 (qs + 1) (by omega)]; exact hm_207
      have hm_287 : M_246 (qs + 2) = some (aZ G 6 (bF nb)) := by rw [hF_251 (qs + 2) (by omega)]; exact hm_208
      have hm_288 : M_246 (qs + 3) = some (aI G 6 (nF pb)) := by rw [hF_251 (qs + 3) (by omega)]; exact hm_209
      have hm_289 : M_246 (qs + 4) = some (aI G 6 (nF ab)) := by rw [hF_251 (qs + 4) (by omega)]; exact hm_210
      have hm_290 : M_246 (qs + 5) = some (aI G 24 (nF rbb)) := by rw [hF_251 (qs + 5) (by omega)]; exact hm_211
      have hm_291 : M_246 (qs + 6) = some (aI G 24 (nF tbb)) := by rw [hF_251 (qs + 6) (by omega)]; exact hm_212
      have hm_292 : M_246 61 = some (aI G 36 (nF le)) := by rw [hF_251 61 (by omega)]; exact hm_214
      have hm_293 : M_246 62 = some (aI G 36 (nF mo)) := by rw [hF_251 62 (by omega)]; exact hm_215
      have hm_294 : M_246 63 = some (aI G 36 (nF al)) := by rw [hF_251 63 (by omega)]; exact hm_216
      have hm_295 : M_246 64 = some (aZ G 6 (bF ho)) := by rw [hF_251 64 (by omega)]; exact hm_217
      have hm_296 : M_246 65 = some (aI G 120 (nF mk)) := by rw [hF_251 65 (by omega)]; exact hm_218
      have hm_297 : M_246 66 = some (aI G 120 mf) := by rw [hF_251 66 (by omega)]; exact hm_219
      have hm_298 : M_246 67 = some (aI G 120 mu) := by rw [hF_251 67 (by omega)]; exact hm_220
      have hm_299 : M_246 68 = some (aI G 121 (nF mz)) := by rw [hF_251 68 (by omega)]; exact hm_221
      have hm_300 : M_246 69 = some (aI G 726 (nF rr)) := by rw [hF_251 69 (by omega)]; exact hm_222
      have hm_301 : M_246 70 = some (aI G 726 (nF ee)) := by rw [hF_251 70 (by omega)]; exact hm_223
      have hm_302 : M_246 71 = some (aI G 40 (nF lst)) := by rw [hF_251 71 (by omega)]; exact hm_224
      have hm_303 : M_246 72 = some (aI G 40 (nF oa)) := by rw [hF_251 72 (by omega)]; exact hm_225
      have hm_304 : M_246 73 = some (aI G 40 (nF ob)) := by rw [hF_251 73 (by omega)]; exact hm_226
      have hm_305 : M_246 74 = some (aI G 120 s74) := by rw [hF_251 74 (by omega)]; exact hm_227
      have hm_306 : M_246 75 = some (aI G 12 ak) := by rw [hF_251 75 (by omega)]; exact hm_228
      have hm_307 : M_246 76 = some (aZ G 12 (bF nm)) := by rw [hF_251 76 (by omega)]; exact hm_229
      have hm_308 : M_246 77 = some (aI G 12 (nF ap)) := by rw [hF_251 77 (by omega)]; exact hm_230
      have hm_309 : M_246 78 = some (aI G 48 pr) := by rw [hF_251 78 (by omega)]; exact hm_231
      have hm_310 : M_246 79 = some (aI G 48 pf) := by rw [hF_251 79 (by omega)]; exact hm_232
      have hm_311 : M_246 80 = some (aB G 400 tf) := by rw [hF_251 80 (by omega)]; exact hm_233
      have hm_312 : M_246 81 = some (aI G 5 fv) := by rw [hF_251 81 (by omega)]; exact hm_234
      have hm_313 : M_246 82 = some (aZ G 384000 (bF tr)) := by rw [hF_251 82 (by omega)]; exact hm_235
      have hm_314 : M_246 83 = some (aI G 3 (oF gv)) := by rw [hF_251 83 (by omega)]; exact hm_236
      have hm_315 : M_246 84 = some (aI G 3 fo) := by rw [hF_251 84 (by omega)]; exact hm_237
      have hm_316 : M_246 85 = some (aZ G 40 (bF re)) := by rw [hF_251 85 (by omega)]; exact hm_238
      have hm_317 : M_246 86 = some (aZ G 120 (bF us)) := by rw [hF_251 86 (by omega)]; exact hm_239
      have hm_318 : M_246 87 = some (aZ G 120 (bF nx)) := by rw [hF_251 87 (by omega)]; exact hm_240
      have hm_319 : M_246 99 = some (aJ G 1 of) := by rw [hF_251 99 (by omega)]; exact hm_241
      have hm_320 : M_246 16 = some (cLines ad ) := by rw [hF_251 16 (by omega)]; exact hm_242
      have hL_321 : LSm G ad M_246 n kd fm to sz rl en := hL_243.keep (fun j hj => hF_251 j (by omega))
      have hF_322 : ∀ j : Nat, j ≠ 60 → M_246 j = M j := fun j q0 => (hF_251 j q0).trans (hF_172 j )
      rw [hr_249]
      refine lv_istore (lv' := [(6, .int (nI 0)), (5, .int (nI 1)), (0, .ref b), (1, .ref (ad 0)), (2, .ref (ad 60)), (3, .ref (ad 99)), (4, .int (nI i))]) hx hb dL_law_736 hl (by decide) rfl (fun ls hl => ?_)
      refine lv_aload_n hx hb dL_law_738 rfl (lv_at hl 4 rfl) ?_
      refine k_Ri (va_runV (As := []) (rest := []) ⟨hx, hb, hml, hown, hts⟩ (c_X10_thrown l G z ad M_246 (th := 1) (ln := n) (on := jn) (ao := ao) (vr := vr) (sn := sn) (tp := len) (pt := pt) (zs := zs) (bg := bg) (fa := fw) hm_250) (cwV 0 hts (gV (lwg_of t_997 rfl) (lwg_of t_998 rfl) (lwg_of t_999 rfl) (lwg_of t_13 rfl) (lwg_of t_1000 rfl)) rfl rfl rfl (by decide +kernel) ⟨Nat.le_of_ble_eq_true rfl, Nat.le_of_ble_eq_true rfl⟩) (hI.preV hm_250 rfl) rfl rfl hl.1 rfl (lv_room (Nat.le_of_ble_eq_true rfl)) dL_law_739 ⟨(show _ ≤ (601024 : Nat) from by omega), (show _ ≤ (7293034 : Nat) from by omega)⟩) (fun _ h => h) (fun r_323 hp_324 => ?_)
      rw [hp_324]
      refine lv_iload hx hb dL_law_742 (lv_at hl 1 rfl) ?_
      refine lv_icmp_eq (tgt := 749) hx hb dL_law_744 (by decide) (fun c_325 => ?_) (fun c_325 => ?_)
      · -- 744: nI 1 eq
        refine lv_iload hx hb dL_law_749 (lv_at hl 1 rfl) ?_
        refine lv_if_ne (tgt := 773) hx hb dL_law_751 (by decide) (fun c_326 => ?_) (fun c_326 => ?_)
        · -- 751: nI 1 ne
          refine lv_goto (tgt := 1333) hx hb dL_law_773 (by decide) ?_
          refine W.widen (k := cz + 10) (n := sy + 300) (by omega) (by omega) ?_
          exact kk ad M_246 H_247 locs_248 ls n kd fm to sz rl en qa qs fw len tb le mo al ho jn hg lst jd s0 r0 th ol e0 mm9 ff lq ra rb rt rv qm pz sx ft rx dm rc ao vr kn nq pn av ro te sq su kb nb pb ab rbb tbb 1 sn pt zs bg mk mf mu mz rr ee oa ob s74 ak nm ap pr pf tf fv tr gv fo re us nx of hL_321 w1 w2 w3 w4 w5 w6 w7 w8 w9 w10 w11 w12 w13 w14 w15 w16 w17 w18 w19 w20 w21 w22 w23 w24 w25 w26 w27 w28 w29 (fun h9 => by rw [hF_322 17 (by omega), hF_322 18 (by omega)]; exact w30 h9) (by rw [hF_322 29 (by omega)]; exact w31) (fun j9 h9 => by rw [hF_322 j9 (by omega)]; exact w32 j9 h9) hm_252 hm_253 hm_254 hm_255 hm_256 hm_257 hm_258 hm_259 hm_260 hm_261 hm_262 hm_263 hm_264 hm_265 hm_266 hm_267 hm_268 hm_269 hm_270 hm_271 hm_272 hm_273 hm_274 hm_275 hm_276 hm_277 hm_278 hm_279 hm_280 hm_281 hm_282 hm_283 hm_284 hm_285 hm_286 hm_287 hm_288 hm_289 hm_290 hm_291 hm_250 hm_292 hm_293 hm_294 hm_295 hm_296 hm_297 hm_298 hm_299 hm_300 hm_301 hm_302 hm_303 hm_304 hm_305 hm_306 hm_307 hm_308 hm_309 hm_310 hm_311 hm_312 hm_313 hm_314 hm_315 hm_316 hm_317 hm_318 hm_319 hI (lv_sub hl [2, 3, 4, 5, 6] rfl)
        · -- 751: nI 1 eq
          exact absurd c_326 (by decide)
      · -- 744: nI 1 ne
        exact absurd (by decide) c_325
    · skip
      refine lv_aload_n hx hb dL_law_702 rfl (lv_at hl 0 rfl) ?_
      obtain ⟨t2, ht2, et2⟩ := hc_165
      refine lv_iload hx hb dL_law_703 (lv_at hl 4 rfl) ?_
      rcases (Decidable.em (lst t1 = lst t2) : lst t1 = lst t2 ∨ ¬ lst t1 = lst t2) with hc_327 | hc_328
      · skip
        refine lv_iconst (v := nI 1) hx hb dL_law_705 (by decide) ?_
        refine lv_iadd hx hb dL_law_706 ?_
        refine n_eq (nI_add i 1) ?_
        refine va_sld (A := fr z) hx hb hX hbl hbz hI.S (vp_in_nI (n := i + 1) (by omega) (by omega)) dL_law_707 ?_
        rw [nI_clamp (by omega)]
        refine n_eq (show _ = nI t1 from et1) ?_
        refine lv_aload_n hx hb dL_law_708 rfl (lv_at hl 0 rfl) ?_
        refine lv_iload hx hb dL_law_709 (lv_at hl 4 rfl) ?_
        refine lv_iconst (v := nI 2) hx hb dL_law_711 (by decide) ?_
        refine lv_iadd hx hb dL_law_712 ?_
        refine n_eq (nI_add i 2) ?_
        refine va_sld (A := fr z) hx hb hX hbl hbz hI.S (vp_in_nI (n := i + 2) (by omega) (by omega)) dL_law_713 ?_
        rw [nI_clamp (by omega)]
        refine n_eq (show _ = nI t2 from et2) ?_
        refine lv_aload_n hx hb dL_law_714 rfl (lv_at hl 3 rfl) ?_
        refine k_Ni (vx_runSW (As := [.ref (ad 0), .int (nI t1), .int (nI t2), .ref (ad 99)]) (rest := []) ⟨hx, hb, hml, hown, hts⟩ (c_L_one_same l hst G z ad M (qa := qa) (qs := qs) (fw := fw) (jn := jn) (lst := lst) (a := t1) (b := t2) (of := of) f_0 f_8 f_10 f_99 ht1 ht2 hlst hc_327) (vx_cwSW 4 hts (gSW (lwg_of t_834 rfl) (lwg_of t_835 rfl) (lwg_of t_0 rfl) (lwg_of t_836 rfl)) rfl rfl rfl (by decide +kernel) ⟨Nat.le_of_ble_eq_true rfl, Nat.le_of_ble_eq_true rfl⟩) hI.preS rfl rfl hl.1 rfl (lv_room (Nat.le_of_ble_eq_true rfl)) dL_law_715 ⟨(show _ ≤ (601024 : Nat) from by omega), (show _ ≤ (7293034 : Nat) from by omega)⟩) hI (fun r_329 M_331 H_332 locs_333 hp_330 hI => ?_)
        obtain ⟨hr_334, hm_335, hF_336⟩ := hp_330
        have hm_337 : M_331 0 = some (cStore ad qa qs fw) := by rw [hF_336 0 (by omega)]; exact f_0
        have hm_338 : M_331 1 = some (cTape ad len) := by rw [hF_336 1 (by omega)]; exact f_1
        have hm_339 : M_331 2 = some (aI G 400 (nF tb)) := by rw [hF_336 2 (by omega)]; exact f_2
        have hm_340 : M_331 3 = some (cLaws ad ) := by rw [hF_336 3 (by omega)]; exact f_3
        have hm_341 : M_331 4 = some (aI G 36 (nF le)) := by rw [hF_336 4 (by omega)]; exact f_4
        have hm_342 : M_331 5 = some (aI G 36 (nF mo)) := by rw [hF_336 5 (by omega)]; exact f_5
        have hm_343 : M_331 6 = some (aI G 36 (nF al)) := by rw [hF_336 6 (by omega)]; exact f_6
        have hm_344 : M_331 7 = some (aZ G 6 (bF ho)) := by rw [hF_336 7 (by omega)]; exact f_7
        have hm_345 : M_331 8 = some (cOnes ad jn) := by rw [hF_336 8 (by omega)]; exact f_8
        have hm_346 : M_331 9 = some (aI G 40 (nF hg)) := by rw [hF_336 9 (by omega)]; exact f_9
        have hm_347 : M_331 10 = some (aI G 40 (nF lst)) := by rw [hF_336 10 (by omega)]; exact f_10
        have hm_348 : M_331 11 = some (aI G 40 (nF jd)) := by rw [hF_336 11 (by omega)]; exact f_11
        have hm_349 : M_331 12 = some (cEnds ad 12 s0) := by rw [hF_336 12 (by omega)]; exact f_12
        have hm_350 : M_331 13 = some (aI G 6 (nF r0)) := by rw [hF_336 13 (by omega)]; exact f_13
        have hm_351 : M_331 14 = some (aI G 6 (oF th)) := by rw [hF_336 14 (by omega)]; exact f_14
        have hm_352 : M_331 15 = some (aI G 6 (oF ol)) := by rw [hF_336 15 (by omega)]; exact f_15
        have hm_353 : M_331 19 = some (aZ G 120 (bF mm9)) := by rw [hF_336 19 (by omega)]; exact f_19
        have hm_354 : M_331 20 = some (aI G 120 ff) := by rw [hF_336 20 (by omega)]; exact f_20
        have hm_355 : M_331 21 = some (aI G 120 lq) := by rw [hF_336 21 (by omega)]; exact f_21
        have hm_356 : M_331 22 = some (cReader ad ra rb rt rv) := by rw [hF_336 22 (by omega)]; exact f_22
        have hm_357 : M_331 23 = some (cMatcher ad qm pz) := by rw [hF_336 23 (by omega)]; exact f_23
        have hm_358 : M_331 24 = some (aJ G 2160 sx) := by rw [hF_336 24 (by omega)]; exact f_24
        have hm_359 : M_331 25 = some (aI G 6 (nF ft)) := by rw [hF_336 25 (by omega)]; exact f_25
        have hm_360 : M_331 26 = some (aJ G 240 rx) := by rw [hF_336 26 (by omega)]; exact f_26
        have hm_361 : M_331 27 = some (aJ G 3 dm) := by rw [hF_336 27 (by omega)]; exact f_27
        have hm_362 : M_331 28 = some (aI G 3 rc) := by rw [hF_336 28 (by omega)]; exact f_28
        have hm_363 : M_331 qa = some (cQuestion ad qa ao vr) := by rw [hF_336 qa (by omega)]; exact f_qa
        have hm_364 : M_331 (qa + 1) = some (aI G 6 (nF kn)) := by rw [hF_336 (qa + 1) (by omega)]; exact f_qa_1
        have hm_365 : M_331 (qa + 2) = some (aZ G 6 (bF nq)) := by rw [hF_336 (qa + 2) (by omega)]; exact f_qa_2
        have hm_366 : M_331 (qa + 3) = some (aI G 6 (nF pn)) := by rw [hF_336 (qa + 3) (by omega)]; exact f_qa_3
        have hm_367 : M_331 (qa + 4) = some (aI G 6 (nF av)) := by rw [hF_336 (qa + 4) (by omega)]; exact f_qa_4
        have hm_368 : M_331 (qa + 5) = some (aI G 24 (nF ro)) := by rw [hF_336 (qa + 5) (by omega)]; exact f_qa_5
        have hm_369 : M_331 (qa + 6) = some (aI G 24 (nF te)) := by rw [hF_336 (qa + 6) (by omega)]; exact f_qa_6
        have hm_370 : M_331 qs = some (cQuestion ad qs sq su) := by rw [hF_336 qs (by omega)]; exact f_qs
        have hm_371 : M_331 (qs + 1) = some (aI G 6 (nF kb)) := by rw [hF_336 (qs + 1) (by omega)]; exact f_qs_1
        have hm_372 : M_331 (qs + 2) = some (aZ G 6 (bF nb)) := by rw [hF_336 (qs + 2) (by omega)]; exact f_qs_2
        have hm_373 : M_331 (qs + 3) = some (aI G 6 (nF pb)) := by rw [hF_336 (qs + 3) (by omega)]; exact f_qs_3
        have hm_374 : M_331 (qs + 4) = some (aI G 6 (nF ab)) := by rw [hF_336 (qs + 4) (by omega)]; exact f_qs_4
        have hm_375 : M_331 (qs + 5) = some (aI G 24 (nF rbb)) := by rw [hF_336 (qs + 5) (by omega)]; exact f_qs_5
        have hm_376 : M_331 (qs + 6) = some (aI G 24 (nF tbb)) := by rw [hF_336 (qs + 6) (by omega)]; exact f_qs_6
        have hm_377 : M_331 60 = some (cModel ad tw n jn ao vr sn len pt zs bg fw) := by rw [hF_336 60 (by omega)]; exact f_60
        have hm_378 : M_331 61 = some (aI G 36 (nF le)) := by rw [hF_336 61 (by omega)]; exact f_61
        have hm_379 : M_331 62 = some (aI G 36 (nF mo)) := by rw [hF_336 62 (by omega)]; exact f_62
        have hm_380 : M_331 63 = some (aI G 36 (nF al)) := by rw [hF_336 63 (by omega)]; exact f_63
        have hm_381 : M_331 64 = some (aZ G 6 (bF ho)) := by rw [hF_336 64 (by omega)]; exact f_64
        have hm_382 : M_331 65 = some (aI G 120 (nF mk)) := by rw [hF_336 65 (by omega)]; exact f_65
        have hm_383 : M_331 66 = some (aI G 120 mf) := by rw [hF_336 66 (by omega)]; exact f_66
        have hm_384 : M_331 67 = some (aI G 120 mu) := by rw [hF_336 67 (by omega)]; exact f_67
        have hm_385 : M_331 68 = some (aI G 121 (nF mz)) := by rw [hF_336 68 (by omega)]; exact f_68
        have hm_386 : M_331 69 = some (aI G 726 (nF rr)) := by rw [hF_336 69 (by omega)]; exact f_69
        have hm_387 : M_331 70 = some (aI G 726 (nF ee)) := by rw [hF_336 70 (by omega)]; exact f_70
        have hm_388 : M_331 71 = some (aI G 40 (nF lst)) := by rw [hF_336 71 (by omega)]; exact f_71
        have hm_389 : M_331 72 = some (aI G 40 (nF oa)) := by rw [hF_336 72 (by omega)]; exact f_72
        have hm_390 : M_331 73 = some (aI G 40 (nF ob)) := by rw [hF_336 73 (by omega)]; exact f_73
        have hm_391 : M_331 74 = some (aI G 120 s74) := by rw [hF_336 74 (by omega)]; exact f_74
        have hm_392 : M_331 75 = some (aI G 12 ak) := by rw [hF_336 75 (by omega)]; exact f_75
        have hm_393 : M_331 76 = some (aZ G 12 (bF nm)) := by rw [hF_336 76 (by omega)]; exact f_76
        have hm_394 : M_331 77 = some (aI G 12 (nF ap)) := by rw [hF_336 77 (by omega)]; exact f_77
        have hm_395 : M_331 78 = some (aI G 48 pr) := by rw [hF_336 78 (by omega)]; exact f_78
        have hm_396 : M_331 79 = some (aI G 48 pf) := by rw [hF_336 79 (by omega)]; exact f_79
        have hm_397 : M_331 80 = some (aB G 400 tf) := by rw [hF_336 80 (by omega)]; exact f_80
        have hm_398 : M_331 81 = some (aI G 5 fv) := by rw [hF_336 81 (by omega)]; exact f_81
        have hm_399 : M_331 82 = some (aZ G 384000 (bF tr)) := by rw [hF_336 82 (by omega)]; exact f_82
        have hm_400 : M_331 83 = some (aI G 3 (oF gv)) := by rw [hF_336 83 (by omega)]; exact f_83
        have hm_401 : M_331 84 = some (aI G 3 fo) := by rw [hF_336 84 (by omega)]; exact f_84
        have hm_402 : M_331 85 = some (aZ G 40 (bF re)) := by rw [hF_336 85 (by omega)]; exact f_85
        have hm_403 : M_331 86 = some (aZ G 120 (bF us)) := by rw [hF_336 86 (by omega)]; exact f_86
        have hm_404 : M_331 87 = some (aZ G 120 (bF nx)) := by rw [hF_336 87 (by omega)]; exact f_87
        have hm_405 : M_331 16 = some (cLines ad ) := by rw [hF_336 16 (by omega)]; exact h16
        have hL_406 : LSm G ad M_331 n kd fm to sz rl en := fL.keep (fun j hj => hF_336 j (by omega))
        have hF_407 : ∀ j : Nat, j ≠ 99 → M_331 j = M j := fun j q0 => (hF_336 j q0)
        rw [hr_334]
        refine lv_istore (lv' := [(5, .int (nI 0)), (0, .ref b), (1, .ref (ad 0)), (2, .ref (ad 60)), (3, .ref (ad 99)), (4, .int (nI i))]) hx hb dL_law_718 hl (by decide) rfl (fun ls hl => ?_)
        refine lv_aload_n hx hb dL_law_720 rfl (lv_at hl 3 rfl) ?_
        refine lv_aload_n hx hb dL_law_721 rfl (lv_at hl 1 rfl) ?_
        refine lv_iload hx hb dL_law_722 (lv_at hl 5 rfl) ?_
        refine lv_iconst (v := nI 1) hx hb dL_law_724 (by decide) ?_
        refine lv_iadd hx hb dL_law_725 ?_
        refine n_eq (nI_add i 1) ?_
        refine va_sld (A := fr z) hx hb hX hbl hbz hI.S (vp_in_nI (n := i + 1) (by omega) (by omega)) dL_law_726 ?_
        rw [nI_clamp (by omega)]
        refine n_eq (show _ = nI t1 from et1) ?_
        refine lv_aload_n hx hb dL_law_727 rfl (lv_at hl 1 rfl) ?_
        refine lv_iload hx hb dL_law_728 (lv_at hl 5 rfl) ?_
        refine lv_iconst (v := nI 2) hx hb dL_law_730 (by decide) ?_
        refine lv_iadd hx hb dL_law_731 ?_
        refine n_eq (nI_add i 2) ?_
        refine va_sld (A := fr z) hx hb hX hbl hbz hI.S (vp_in_nI (n := i + 2) (by omega) (by omega)) dL_law_732 ?_
        rw [nI_clamp (by omega)]
        refine n_eq (show _ = nI t2 from et2) ?_
        refine k_Ni (va_runV (As := [.int (nI t1), .int (nI t2)]) (rest := []) ⟨hx, hb, hml, hown, hts⟩ (c_X10_one_same l G z ad M_331 (th := tw) (ln := n) (on := jn) (ao := ao) (vr := vr) (sn := sn) (tp := len) (pt := pt) (zs := zs) (bg := bg) (fa := fw) (lst := lst) (a := t1) (b := t2) hm_377 hm_388 ht1 ht2 hlst hc_327) (cwV 2 hts (gV (lwg_of t_1201 rfl) (lwg_of t_1202 rfl) (lwg_of t_1203 rfl) (lwg_of t_13 rfl) (lwg_of t_1204 rfl)) rfl rfl rfl (by decide +kernel) ⟨Nat.le_of_ble_eq_true rfl, Nat.le_of_ble_eq_true rfl⟩) (hI.preV hm_377 rfl) rfl rfl hl.1 rfl (lv_room (Nat.le_of_ble_eq_true rfl)) dL_law_733 ⟨(show _ ≤ (601024 : Nat) from by omega), (show _ ≤ (7293034 : Nat) from by omega)⟩) hI (fun r_408 M_410 H_411 locs_412 hp_409 hI => ?_)
        obtain ⟨hr_413, hm_414, hF_415⟩ := hp_409
        have hm_416 : M_410 0 = some (cStore ad qa qs fw) := by rw [hF_415 0 (by omega)]; exact hm_337
        have hm_417 : M_410 1 = some (cTape ad len) := by rw [hF_415 1 (by omega)]; exact hm_338
        have hm_418 : M_410 2 = some (aI G 400 (nF tb)) := by rw [hF_415 2 (by omega)]; exact hm_339
        have hm_419 : M_410 3 = some (cLaws ad ) := by rw [hF_415 3 (by omega)]; exact hm_340
        have hm_420 : M_410 4 = some (aI G 36 (nF le)) := by rw [hF_415 4 (by omega)]; exact hm_341
        have hm_421 : M_410 5 = some (aI G 36 (nF mo)) := by rw [hF_415 5 (by omega)]; exact hm_342
        have hm_422 : M_410 6 = some (aI G 36 (nF al)) := by rw [hF_415 6 (by omega)]; exact hm_343
        have hm_423 : M_410 7 = some (aZ G 6 (bF ho)) := by rw [hF_415 7 (by omega)]; exact hm_344
        have hm_424 : M_410 8 = some (cOnes ad jn) := by rw [hF_415 8 (by omega)]; exact hm_345
        have hm_425 : M_410 9 = some (aI G 40 (nF hg)) := by rw [hF_415 9 (by omega)]; exact hm_346
        have hm_426 : M_410 10 = some (aI G 40 (nF lst)) := by rw [hF_415 10 (by omega)]; exact hm_347
        have hm_427 : M_410 11 = some (aI G 40 (nF jd)) := by rw [hF_415 11 (by omega)]; exact hm_348
        have hm_428 : M_410 12 = some (cEnds ad 12 s0) := by rw [hF_415 12 (by omega)]; exact hm_349
        have hm_429 : M_410 13 = some (aI G 6 (nF r0)) := by rw [hF_415 13 (by omega)]; exact hm_350
        have hm_430 : M_410 14 = some (aI G 6 (oF th)) := by rw [hF_415 14 (by omega)]; exact hm_351
        have hm_431 : M_410 15 = some (aI G 6 (oF ol)) := by rw [hF_415 15 (by omega)]; exact hm_352
        have hm_432 : M_410 19 = some (aZ G 120 (bF mm9)) := by rw [hF_415 19 (by omega)]; exact hm_353
        have hm_433 : M_410 20 = some (aI G 120 ff) := by rw [hF_415 20 (by omega)]; exact hm_354
        have hm_434 : M_410 21 = some (aI G 120 lq) := by rw [hF_415 21 (by omega)]; exact hm_355
        have hm_435 : M_410 22 = some (cReader ad ra rb rt rv) := by rw [hF_415 22 (by omega)]; exact hm_356
        have hm_436 : M_410 23 = some (cMatcher ad qm pz) := by rw [hF_415 23 (by omega)]; exact hm_357
        have hm_437 : M_410 24 = some (aJ G 2160 sx) := by rw [hF_415 24 (by omega)]; exact hm_358
        have hm_438 : M_410 25 = some (aI G 6 (nF ft)) := by rw [hF_415 25 (by omega)]; exact hm_359
        have hm_439 : M_410 26 = some (aJ G 240 rx) := by rw [hF_415 26 (by omega)]; exact hm_360
        have hm_440 : M_410 27 = some (aJ G 3 dm) := by rw [hF_415 27 (by omega)]; exact hm_361
        have hm_441 : M_410 28 = some (aI G 3 rc) := by rw [hF_415 28 (by omega)]; exact hm_362
        have hm_442 : M_410 qa = some (cQuestion ad qa ao vr) := by rw [hF_415 qa (by omega)]; exact hm_363
        have hm_443 : M_410 (qa + 1) = some (aI G 6 (nF kn)) := by rw [hF_415 (qa + 1) (by omega)]; exact hm_364
        have hm_444 : M_410 (qa + 2) = some (aZ G 6 (bF nq)) := by rw [hF_415 (qa + 2) (by omega)]; exact hm_365
        have hm_445 : M_410 (qa + 3) = some (aI G 6 (nF pn)) := by rw [hF_415 (qa + 3) (by omega)]; exact hm_366
        have hm_446 : M_410 (qa + 4) = some (aI G 6 (nF av)) := by rw [hF_415 (qa + 4) (by omega)]; exact hm_367
        have hm_447 : M_410 (qa + 5) = some (aI G 24 (nF ro)) := by rw [hF_415 (qa + 5) (by omega)]; exact hm_368
        have hm_448 : M_410 (qa + 6) = some (aI G 24 (nF te)) := by rw [hF_415 (qa + 6) (by omega)]; exact hm_369
        have hm_449 : M_410 qs = some (cQuestion ad qs sq su) := by rw [hF_415 qs (by omega)]; exact hm_370
        have hm_450 : M_410 (qs + 1) = some (aI G 6 (nF kb)) := by rw [hF_415 (qs + 1) (by omega)]; exact hm_371
        have hm_451 : M_410 (qs + 2) = some (aZ G 6 (bF nb)) := by rw [hF_415 (qs + 2) (by omega)]; exact hm_372
        have hm_452 : M_410 (qs + 3) = some (aI G 6 (nF pb)) := by rw [hF_415 (qs + 3) (by omega)]; exact hm_373
        have hm_453 : M_410 (qs + 4) = some (aI G 6 (nF ab)) := by rw [hF_415 (qs + 4) (by omega)]; exact hm_374
        have hm_454 : M_410 (qs + 5) = some (aI G 24 (nF rbb)) := by rw [hF_415 (qs + 5) (by omega)]; exact hm_375
        have hm_455 : M_410 (qs + 6) = some (aI G 24 (nF tbb)) := by rw [hF_415 (qs + 6) (by omega)]; exact hm_376
        have hm_456 : M_410 61 = some (aI G 36 (nF le)) := by rw [hF_415 61 (by omega)]; exact hm_378
        have hm_457 : M_410 62 = some (aI G 36 (nF mo)) := by rw [hF_415 62 (by omega)]; exact hm_379
        have hm_458 : M_410 63 = some (aI G 36 (nF al)) := by rw [hF_415 63 (by omega)]; exact hm_380
        have hm_459 : M_410 64 = some (aZ G 6 (bF ho)) := by rw [hF_415 64 (by omega)]; exact hm_381
        have hm_460 : M_410 65 = some (aI G 120 (nF mk)) := by rw [hF_415 65 (by omega)]; exact hm_382
        have hm_461 : M_410 66 = some (aI G 120 mf) := by rw [hF_415 66 (by omega)]; exact hm_383
        have hm_462 : M_410 67 = some (aI G 120 mu) := by rw [hF_415 67 (by omega)]; exact hm_384
        have hm_463 : M_410 68 = some (aI G 121 (nF mz)) := by rw [hF_415 68 (by omega)]; exact hm_385
        have hm_464 : M_410 69 = some (aI G 726 (nF rr)) := by rw [hF_415 69 (by omega)]; exact hm_386
        have hm_465 : M_410 70 = some (aI G 726 (nF ee)) := by rw [hF_415 70 (by omega)]; exact hm_387
        have hm_466 : M_410 71 = some (aI G 40 (nF lst)) := by rw [hF_415 71 (by omega)]; exact hm_388
        have hm_467 : M_410 72 = some (aI G 40 (nF oa)) := by rw [hF_415 72 (by omega)]; exact hm_389
        have hm_468 : M_410 73 = some (aI G 40 (nF ob)) := by rw [hF_415 73 (by omega)]; exact hm_390
        have hm_469 : M_410 74 = some (aI G 120 s74) := by rw [hF_415 74 (by omega)]; exact hm_391
        have hm_470 : M_410 75 = some (aI G 12 ak) := by rw [hF_415 75 (by omega)]; exact hm_392
        have hm_471 : M_410 76 = some (aZ G 12 (bF nm)) := by rw [hF_415 76 (by omega)]; exact hm_393
        have hm_472 : M_410 77 = some (aI G 12 (nF ap)) := by rw [hF_415 77 (by omega)]; exact hm_394
        have hm_473 : M_410 78 = some (aI G 48 pr) := by rw [hF_415 78 (by omega)]; exact hm_395
        have hm_474 : M_410 79 = some (aI G 48 pf) := by rw [hF_415 79 (by omega)]; exact hm_396
        have hm_475 : M_410 80 = some (aB G 400 tf) := by rw [hF_415 80 (by omega)]; exact hm_397
        have hm_476 : M_410 81 = some (aI G 5 fv) := by rw [hF_415 81 (by omega)]; exact hm_398
        have hm_477 : M_410 82 = some (aZ G 384000 (bF tr)) := by rw [hF_415 82 (by omega)]; exact hm_399
        have hm_478 : M_410 83 = some (aI G 3 (oF gv)) := by rw [hF_415 83 (by omega)]; exact hm_400
        have hm_479 : M_410 84 = some (aI G 3 fo) := by rw [hF_415 84 (by omega)]; exact hm_401
        have hm_480 : M_410 85 = some (aZ G 40 (bF re)) := by rw [hF_415 85 (by omega)]; exact hm_402
        have hm_481 : M_410 86 = some (aZ G 120 (bF us)) := by rw [hF_415 86 (by omega)]; exact hm_403
        have hm_482 : M_410 87 = some (aZ G 120 (bF nx)) := by rw [hF_415 87 (by omega)]; exact hm_404
        have hm_483 : M_410 99 = some (aJ G 1 (vp_updL of 0 ((0 : Int64)))) := by rw [hF_415 99 (by omega)]; exact hm_335
        have hm_484 : M_410 16 = some (cLines ad ) := by rw [hF_415 16 (by omega)]; exact hm_405
        have hL_485 : LSm G ad M_410 n kd fm to sz rl en := hL_406.keep (fun j hj => hF_415 j (by omega))
        have hF_486 : ∀ j : Nat, j ≠ 99 → j ≠ 60 → M_410 j = M j := fun j q0 q1 => (hF_415 j q1).trans (hF_407 j q0)
        rw [hr_413]
        refine lv_istore (lv' := [(6, .int (nI 0)), (5, .int (nI 0)), (0, .ref b), (1, .ref (ad 0)), (2, .ref (ad 60)), (3, .ref (ad 99)), (4, .int (nI i))]) hx hb dL_law_736 hl (by decide) rfl (fun ls hl => ?_)
        refine lv_aload_n hx hb dL_law_738 rfl (lv_at hl 4 rfl) ?_
        refine k_Ri (va_runV (As := []) (rest := []) ⟨hx, hb, hml, hown, hts⟩ (c_X10_thrown l G z ad M_410 (th := 0) (ln := n) (on := jn) (ao := ao) (vr := vr) (sn := sn) (tp := len) (pt := pt) (zs := zs) (bg := bg) (fa := fw) hm_414) (cwV 0 hts (gV (lwg_of t_997 rfl) (lwg_of t_998 rfl) (lwg_of t_999 rfl) (lwg_of t_13 rfl) (lwg_of t_1000 rfl)) rfl rfl rfl (by decide +kernel) ⟨Nat.le_of_ble_eq_true rfl, Nat.le_of_ble_eq_true rfl⟩) (hI.preV hm_414 rfl) rfl rfl hl.1 rfl (lv_room (Nat.le_of_ble_eq_true rfl)) dL_law_739 ⟨(show _ ≤ (601024 : Nat) from by omega), (show _ ≤ (7293034 : Nat) from by omega)⟩) (fun _ h => h) (fun r_487 hp_488 => ?_)
        rw [hp_488]
        refine lv_iload hx hb dL_law_742 (lv_at hl 1 rfl) ?_
        refine lv_icmp_eq (tgt := 749) hx hb dL_law_744 (by decide) (fun c_489 => ?_) (fun c_489 => ?_)
        · -- 744: nI 0 eq
          refine lv_iload hx hb dL_law_749 (lv_at hl 1 rfl) ?_
          refine lv_if_ne (tgt := 773) hx hb dL_law_751 (by decide) (fun c_490 => ?_) (fun c_490 => ?_)
          · -- 751: nI 0 ne
            exact absurd (by decide) c_490
          · -- 751: nI 0 eq
            refine lv_aload_n hx hb dL_law_754 rfl (lv_at hl 5 rfl) ?_
            refine lv_iconst (v := nI 0) hx hb dL_law_755 (by decide) ?_
            refine h_lald (i := 0) hx hb hI hm_483 (by omega) (by decide) dL_law_756 ?_
            refine n_eql (show _ = (0 : Int64) from updL_0) ?_
            refine lv_iload hx hb dL_law_757 (lv_at hl 0 rfl) ?_
            refine lv_if_eq (tgt := 766) hx hb dL_law_759 (by decide) (fun c_491 => ?_) (fun c_491 => ?_)
            · -- 759: nI 0 eq
              refine lv_lconst (v := 0) hx hb dL_law_766 (by decide) ?_
              refine W.lcmp hx hb dL_law_767 ?_
              refine lv_if_eq (tgt := 773) hx hb dL_law_768 (by decide) (fun c_492 => ?_) (fun c_492 => ?_)
              · -- 768: lg_cmp (0 : Int64) (0 : Int64) eq
                have c_492 : (0 : Int64) = (0 : Int64) := (lg_cmp_eq _ _).mp c_492
                refine lv_goto (tgt := 1333) hx hb dL_law_773 (by decide) ?_
                refine W.widen (k := cz + 10) (n := sy + 300) (by omega) (by omega) ?_
                exact kk ad M_410 H_411 locs_412 ls n kd fm to sz rl en qa qs fw len tb le mo al ho jn hg lst jd s0 r0 th ol e0 mm9 ff lq ra rb rt rv qm pz sx ft rx dm rc ao vr kn nq pn av ro te sq su kb nb pb ab rbb tbb 0 sn pt zs bg mk mf mu mz rr ee oa ob s74 ak nm ap pr pf tf fv tr gv fo re us nx (vp_updL of 0 ((0 : Int64))) hL_485 w1 w2 w3 w4 w5 w6 w7 w8 w9 w10 w11 w12 w13 w14 w15 w16 w17 w18 w19 w20 w21 w22 w23 w24 w25 w26 w27 w28 w29 (fun h9 => by rw [hF_486 17 (by omega) (by omega), hF_486 18 (by omega) (by omega)]; exact w30 h9) (by rw [hF_486 29 (by omega) (by omega)]; exact w31) (fun j9 h9 => by rw [hF_486 j9 (by omega) (by omega)]; exact w32 j9 h9) hm_416 hm_417 hm_418 hm_419 hm_420 hm_421 hm_422 hm_423 hm_424 hm_425 hm_426 hm_427 hm_428 hm_429 hm_430 hm_431 hm_432 hm_433 hm_434 hm_435 hm_436 hm_437 hm_438 hm_439 hm_440 hm_441 hm_442 hm_443 hm_444 hm_445 hm_446 hm_447 hm_448 hm_449 hm_450 hm_451 hm_452 hm_453 hm_454 hm_455 hm_414 hm_456 hm_457 hm_458 hm_459 hm_460 hm_461 hm_462 hm_463 hm_464 hm_465 hm_466 hm_467 hm_468 hm_469 hm_470 hm_471 hm_472 hm_473 hm_474 hm_475 hm_476 hm_477 hm_478 hm_479 hm_480 hm_481 hm_482 hm_483 hI (lv_sub hl [2, 3, 4, 5, 6] rfl)
              · -- 768: lg_cmp (0 : Int64) (0 : Int64) ne
                have c_492 : (0 : Int64) ≠ (0 : Int64) := (fun h => c_492 ((lg_cmp_eq _ _).mpr h))
                exact absurd rfl c_492
            · -- 759: nI 0 ne
              exact absurd (by decide) c_491
        · -- 744: nI 0 ne
          exact absurd (by decide) c_489
      · skip
        refine lv_iconst (v := nI 1) hx hb dL_law_705 (by decide) ?_
        refine lv_iadd hx hb dL_law_706 ?_
        refine n_eq (nI_add i 1) ?_
        refine va_sld (A := fr z) hx hb hX hbl hbz hI.S (vp_in_nI (n := i + 1) (by omega) (by omega)) dL_law_707 ?_
        rw [nI_clamp (by omega)]
        refine n_eq (show _ = nI t1 from et1) ?_
        refine lv_aload_n hx hb dL_law_708 rfl (lv_at hl 0 rfl) ?_
        refine lv_iload hx hb dL_law_709 (lv_at hl 4 rfl) ?_
        refine lv_iconst (v := nI 2) hx hb dL_law_711 (by decide) ?_
        refine lv_iadd hx hb dL_law_712 ?_
        refine n_eq (nI_add i 2) ?_
        refine va_sld (A := fr z) hx hb hX hbl hbz hI.S (vp_in_nI (n := i + 2) (by omega) (by omega)) dL_law_713 ?_
        rw [nI_clamp (by omega)]
        refine n_eq (show _ = nI t2 from et2) ?_
        refine lv_aload_n hx hb dL_law_714 rfl (lv_at hl 3 rfl) ?_
        refine k_Ni (vx_runSW (As := [.ref (ad 0), .int (nI t1), .int (nI t2), .ref (ad 99)]) (rest := []) ⟨hx, hb, hml, hown, hts⟩ (c_L_one l hst G z ad M (qa := qa) (qs := qs) (fw := fw) (jn := jn) (hg := hg) (lst := lst) (jd := jd) (a := t1) (b := t2) (of := of) f_0 f_8 f_9 f_10 f_11 f_99 ht1 ht2 hlst hc_328 (ji_lt w3 ht1) (ji_hg w3)) (vx_cwSW 4 hts (gSW (lwg_of t_834 rfl) (lwg_of t_835 rfl) (lwg_of t_0 rfl) (lwg_of t_836 rfl)) rfl rfl rfl (by decide +kernel) ⟨Nat.le_of_ble_eq_true rfl, Nat.le_of_ble_eq_true rfl⟩) hI.preS rfl rfl hl.1 rfl (lv_room (Nat.le_of_ble_eq_true rfl)) dL_law_715 ⟨(show _ ≤ (601024 : Nat) from by omega), (show _ ≤ (7293034 : Nat) from by omega)⟩) hI (fun r_493 M_495 H_496 locs_497 hp_494 hI => ?_)
        obtain ⟨l2_506, hr_498, hm_499, hm_500, hm_501, hm_502, hm_503, hF_504, hP_505⟩ := hp_494
        have hm_507 : M_495 0 = some (cStore ad qa qs fw) := by rw [hF_504 0 (by omega) (by omega) (by omega) (by omega) (by omega)]; exact f_0
        have hm_508 : M_495 1 = some (cTape ad len) := by rw [hF_504 1 (by omega) (by omega) (by omega) (by omega) (by omega)]; exact f_1
        have hm_509 : M_495 2 = some (aI G 400 (nF tb)) := by rw [hF_504 2 (by omega) (by omega) (by omega) (by omega) (by omega)]; exact f_2
        have hm_510 : M_495 3 = some (cLaws ad ) := by rw [hF_504 3 (by omega) (by omega) (by omega) (by omega) (by omega)]; exact f_3
        have hm_511 : M_495 4 = some (aI G 36 (nF le)) := by rw [hF_504 4 (by omega) (by omega) (by omega) (by omega) (by omega)]; exact f_4
        have hm_512 : M_495 5 = some (aI G 36 (nF mo)) := by rw [hF_504 5 (by omega) (by omega) (by omega) (by omega) (by omega)]; exact f_5
        have hm_513 : M_495 6 = some (aI G 36 (nF al)) := by rw [hF_504 6 (by omega) (by omega) (by omega) (by omega) (by omega)]; exact f_6
        have hm_514 : M_495 7 = some (aZ G 6 (bF ho)) := by rw [hF_504 7 (by omega) (by omega) (by omega) (by omega) (by omega)]; exact f_7
        have hm_515 : M_495 12 = some (cEnds ad 12 s0) := by rw [hF_504 12 (by omega) (by omega) (by omega) (by omega) (by omega)]; exact f_12
        have hm_516 : M_495 13 = some (aI G 6 (nF r0)) := by rw [hF_504 13 (by omega) (by omega) (by omega) (by omega) (by omega)]; exact f_13
        have hm_517 : M_495 14 = some (aI G 6 (oF th)) := by rw [hF_504 14 (by omega) (by omega) (by omega) (by omega) (by omega)]; exact f_14
        have hm_518 : M_495 15 = some (aI G 6 (oF ol)) := by rw [hF_504 15 (by omega) (by omega) (by omega) (by omega) (by omega)]; exact f_15
        have hm_519 : M_495 19 = some (aZ G 120 (bF mm9)) := by rw [hF_504 19 (by omega) (by omega) (by omega) (by omega) (by omega)]; exact f_19
        have hm_520 : M_495 20 = some (aI G 120 ff) := by rw [hF_504 20 (by omega) (by omega) (by omega) (by omega) (by omega)]; exact f_20
        have hm_521 : M_495 21 = some (aI G 120 lq) := by rw [hF_504 21 (by omega) (by omega) (by omega) (by omega) (by omega)]; exact f_21
        have hm_522 : M_495 22 = some (cReader ad ra rb rt rv) := by rw [hF_504 22 (by omega) (by omega) (by omega) (by omega) (by omega)]; exact f_22
        have hm_523 : M_495 23 = some (cMatcher ad qm pz) := by rw [hF_504 23 (by omega) (by omega) (by omega) (by omega) (by omega)]; exact f_23
        have hm_524 : M_495 24 = some (aJ G 2160 sx) := by rw [hF_504 24 (by omega) (by omega) (by omega) (by omega) (by omega)]; exact f_24
        have hm_525 : M_495 25 = some (aI G 6 (nF ft)) := by rw [hF_504 25 (by omega) (by omega) (by omega) (by omega) (by omega)]; exact f_25
        have hm_526 : M_495 26 = some (aJ G 240 rx) := by rw [hF_504 26 (by omega) (by omega) (by omega) (by omega) (by omega)]; exact f_26
        have hm_527 : M_495 27 = some (aJ G 3 dm) := by rw [hF_504 27 (by omega) (by omega) (by omega) (by omega) (by omega)]; exact f_27
        have hm_528 : M_495 28 = some (aI G 3 rc) := by rw [hF_504 28 (by omega) (by omega) (by omega) (by omega) (by omega)]; exact f_28
        have hm_529 : M_495 qa = some (cQuestion ad qa ao vr) := by rw [hF_504 qa (by omega) (by omega) (by omega) (by omega) (by omega)]; exact f_qa
        have hm_530 : M_495 (qa + 1) = some (aI G 6 (nF kn)) := by rw [hF_504 (qa + 1) (by omega) (by omega) (by omega) (by omega) (by omega)]; exact f_qa_1
        have hm_531 : M_495 (qa + 2) = some (aZ G 6 (bF nq)) := by rw [hF_504 (qa + 2) (by omega) (by omega) (by omega) (by omega) (by omega)]; exact f_qa_2
        have hm_532 : M_495 (qa + 3) = some (aI G 6 (nF pn)) := by rw [hF_504 (qa + 3) (by omega) (by omega) (by omega) (by omega) (by omega)]; exact f_qa_3
        have hm_533 : M_495 (qa + 4) = some (aI G 6 (nF av)) := by rw [hF_504 (qa + 4) (by omega) (by omega) (by omega) (by omega) (by omega)]; exact f_qa_4
        have hm_534 : M_495 (qa + 5) = some (aI G 24 (nF ro)) := by rw [hF_504 (qa + 5) (by omega) (by omega) (by omega) (by omega) (by omega)]; exact f_qa_5
        have hm_535 : M_495 (qa + 6) = some (aI G 24 (nF te)) := by rw [hF_504 (qa + 6) (by omega) (by omega) (by omega) (by omega) (by omega)]; exact f_qa_6
        have hm_536 : M_495 qs = some (cQuestion ad qs sq su) := by rw [hF_504 qs (by omega) (by omega) (by omega) (by omega) (by omega)]; exact f_qs
        have hm_537 : M_495 (qs + 1) = some (aI G 6 (nF kb)) := by rw [hF_504 (qs + 1) (by omega) (by omega) (by omega) (by omega) (by omega)]; exact f_qs_1
        have hm_538 : M_495 (qs + 2) = some (aZ G 6 (bF nb)) := by rw [hF_504 (qs + 2) (by omega) (by omega) (by omega) (by omega) (by omega)]; exact f_qs_2
        have hm_539 : M_495 (qs + 3) = some (aI G 6 (nF pb)) := by rw [hF_504 (qs + 3) (by omega) (by omega) (by omega) (by omega) (by omega)]; exact f_qs_3
        have hm_540 : M_495 (qs + 4) = some (aI G 6 (nF ab)) := by rw [hF_504 (qs + 4) (by omega) (by omega) (by omega) (by omega) (by omega)]; exact f_qs_4
        have hm_541 : M_495 (qs + 5) = some (aI G 24 (nF rbb)) := by rw [hF_504 (qs + 5) (by omega) (by omega) (by omega) (by omega) (by omega)]; exact f_qs_5
        have hm_542 : M_495 (qs + 6) = some (aI G 24 (nF tbb)) := by rw [hF_504 (qs + 6) (by omega) (by omega) (by omega) (by omega) (by omega)]; exact f_qs_6
        have hm_543 : M_495 60 = some (cModel ad tw n jn ao vr sn len pt zs bg fw) := by rw [hF_504 60 (by omega) (by omega) (by omega) (by omega) (by omega)]; exact f_60
        have hm_544 : M_495 61 = some (aI G 36 (nF le)) := by rw [hF_504 61 (by omega) (by omega) (by omega) (by omega) (by omega)]; exact f_61
        have hm_545 : M_495 62 = some (aI G 36 (nF mo)) := by rw [hF_504 62 (by omega) (by omega) (by omega) (by omega) (by omega)]; exact f_62
        have hm_546 : M_495 63 = some (aI G 36 (nF al)) := by rw [hF_504 63 (by omega) (by omega) (by omega) (by omega) (by omega)]; exact f_63
        have hm_547 : M_495 64 = some (aZ G 6 (bF ho)) := by rw [hF_504 64 (by omega) (by omega) (by omega) (by omega) (by omega)]; exact f_64
        have hm_548 : M_495 65 = some (aI G 120 (nF mk)) := by rw [hF_504 65 (by omega) (by omega) (by omega) (by omega) (by omega)]; exact f_65
        have hm_549 : M_495 66 = some (aI G 120 mf) := by rw [hF_504 66 (by omega) (by omega) (by omega) (by omega) (by omega)]; exact f_66
        have hm_550 : M_495 67 = some (aI G 120 mu) := by rw [hF_504 67 (by omega) (by omega) (by omega) (by omega) (by omega)]; exact f_67
        have hm_551 : M_495 68 = some (aI G 121 (nF mz)) := by rw [hF_504 68 (by omega) (by omega) (by omega) (by omega) (by omega)]; exact f_68
        have hm_552 : M_495 69 = some (aI G 726 (nF rr)) := by rw [hF_504 69 (by omega) (by omega) (by omega) (by omega) (by omega)]; exact f_69
        have hm_553 : M_495 70 = some (aI G 726 (nF ee)) := by rw [hF_504 70 (by omega) (by omega) (by omega) (by omega) (by omega)]; exact f_70
        have hm_554 : M_495 71 = some (aI G 40 (nF lst)) := by rw [hF_504 71 (by omega) (by omega) (by omega) (by omega) (by omega)]; exact f_71
        have hm_555 : M_495 72 = some (aI G 40 (nF oa)) := by rw [hF_504 72 (by omega) (by omega) (by omega) (by omega) (by omega)]; exact f_72
        have hm_556 : M_495 73 = some (aI G 40 (nF ob)) := by rw [hF_504 73 (by omega) (by omega) (by omega) (by omega) (by omega)]; exact f_73
        have hm_557 : M_495 74 = some (aI G 120 s74) := by rw [hF_504 74 (by omega) (by omega) (by omega) (by omega) (by omega)]; exact f_74
        have hm_558 : M_495 75 = some (aI G 12 ak) := by rw [hF_504 75 (by omega) (by omega) (by omega) (by omega) (by omega)]; exact f_75
        have hm_559 : M_495 76 = some (aZ G 12 (bF nm)) := by rw [hF_504 76 (by omega) (by omega) (by omega) (by omega) (by omega)]; exact f_76
        have hm_560 : M_495 77 = some (aI G 12 (nF ap)) := by rw [hF_504 77 (by omega) (by omega) (by omega) (by omega) (by omega)]; exact f_77
        have hm_561 : M_495 78 = some (aI G 48 pr) := by rw [hF_504 78 (by omega) (by omega) (by omega) (by omega) (by omega)]; exact f_78
        have hm_562 : M_495 79 = some (aI G 48 pf) := by rw [hF_504 79 (by omega) (by omega) (by omega) (by omega) (by omega)]; exact f_79
        have hm_563 : M_495 80 = some (aB G 400 tf) := by rw [hF_504 80 (by omega) (by omega) (by omega) (by omega) (by omega)]; exact f_80
        have hm_564 : M_495 81 = some (aI G 5 fv) := by rw [hF_504 81 (by omega) (by omega) (by omega) (by omega) (by omega)]; exact f_81
        have hm_565 : M_495 82 = some (aZ G 384000 (bF tr)) := by rw [hF_504 82 (by omega) (by omega) (by omega) (by omega) (by omega)]; exact f_82
        have hm_566 : M_495 83 = some (aI G 3 (oF gv)) := by rw [hF_504 83 (by omega) (by omega) (by omega) (by omega) (by omega)]; exact f_83
        have hm_567 : M_495 84 = some (aI G 3 fo) := by rw [hF_504 84 (by omega) (by omega) (by omega) (by omega) (by omega)]; exact f_84
        have hm_568 : M_495 85 = some (aZ G 40 (bF re)) := by rw [hF_504 85 (by omega) (by omega) (by omega) (by omega) (by omega)]; exact f_85
        have hm_569 : M_495 86 = some (aZ G 120 (bF us)) := by rw [hF_504 86 (by omega) (by omega) (by omega) (by omega) (by omega)]; exact f_86
        have hm_570 : M_495 87 = some (aZ G 120 (bF nx)) := by rw [hF_504 87 (by omega) (by omega) (by omega) (by omega) (by omega)]; exact f_87
        have hm_571 : M_495 16 = some (cLines ad ) := by rw [hF_504 16 (by omega) (by omega) (by omega) (by omega) (by omega)]; exact h16
        have hL_572 : LSm G ad M_495 n kd fm to sz rl en := fL.keep (fun j hj => hF_504 j (by omega) (by omega) (by omega) (by omega) (by omega))
        have hF_573 : ∀ j : Nat, j ≠ 8 → j ≠ 9 → j ≠ 10 → j ≠ 11 → j ≠ 99 → M_495 j = M j := fun j q0 q1 q2 q3 q4 => (hF_504 j q0 q1 q2 q3 q4)
        rw [hr_498]
        refine lv_istore (lv' := [(5, .int (nI 0)), (0, .ref b), (1, .ref (ad 0)), (2, .ref (ad 60)), (3, .ref (ad 99)), (4, .int (nI i))]) hx hb dL_law_718 hl (by decide) rfl (fun ls hl => ?_)
        refine lv_aload_n hx hb dL_law_720 rfl (lv_at hl 3 rfl) ?_
        refine lv_aload_n hx hb dL_law_721 rfl (lv_at hl 1 rfl) ?_
        refine lv_iload hx hb dL_law_722 (lv_at hl 5 rfl) ?_
        refine lv_iconst (v := nI 1) hx hb dL_law_724 (by decide) ?_
        refine lv_iadd hx hb dL_law_725 ?_
        refine n_eq (nI_add i 1) ?_
        refine va_sld (A := fr z) hx hb hX hbl hbz hI.S (vp_in_nI (n := i + 1) (by omega) (by omega)) dL_law_726 ?_
        rw [nI_clamp (by omega)]
        refine n_eq (show _ = nI t1 from et1) ?_
        refine lv_aload_n hx hb dL_law_727 rfl (lv_at hl 1 rfl) ?_
        refine lv_iload hx hb dL_law_728 (lv_at hl 5 rfl) ?_
        refine lv_iconst (v := nI 2) hx hb dL_law_730 (by decide) ?_
        refine lv_iadd hx hb dL_law_731 ?_
        refine n_eq (nI_add i 2) ?_
        refine va_sld (A := fr z) hx hb hX hbl hbz hI.S (vp_in_nI (n := i + 2) (by omega) (by omega)) dL_law_732 ?_
        rw [nI_clamp (by omega)]
        refine n_eq (show _ = nI t2 from et2) ?_
        refine k_Ni (va_runV (As := [.int (nI t1), .int (nI t2)]) (rest := []) ⟨hx, hb, hml, hown, hts⟩ (c_X10_one l G z ad M_495 (th := tw) (ln := n) (on := jn) (ao := ao) (vr := vr) (sn := sn) (tp := len) (pt := pt) (zs := zs) (bg := bg) (fa := fw) (lst := lst) (oa := oa) (ob := ob) (a := t1) (b := t2) hm_543 hm_554 hm_555 hm_556 ht1 ht2 hlst hc_328 (ji_lt w3 ht1) (ji_ab w3)) (cwV 2 hts (gV (lwg_of t_1201 rfl) (lwg_of t_1202 rfl) (lwg_of t_1203 rfl) (lwg_of t_13 rfl) (lwg_of t_1204 rfl)) rfl rfl rfl (by decide +kernel) ⟨Nat.le_of_ble_eq_true rfl, Nat.le_of_ble_eq_true rfl⟩) (hI.preV hm_543 rfl) rfl rfl hl.1 rfl (lv_room (Nat.le_of_ble_eq_true rfl)) dL_law_733 ⟨(show _ ≤ (601024 : Nat) from by omega), (show _ ≤ (7293034 : Nat) from by omega)⟩) hI (fun r_574 M_576 H_577 locs_578 hp_575 hI => ?_)
        obtain ⟨l2_586, hr_579, hm_580, hm_581, hm_582, hm_583, hF_584, hP_585⟩ := hp_575
        have hm_587 : M_576 0 = some (cStore ad qa qs fw) := by rw [hF_584 0 (by omega) (by omega) (by omega) (by omega)]; exact hm_507
        have hm_588 : M_576 1 = some (cTape ad len) := by rw [hF_584 1 (by omega) (by omega) (by omega) (by omega)]; exact hm_508
        have hm_589 : M_576 2 = some (aI G 400 (nF tb)) := by rw [hF_584 2 (by omega) (by omega) (by omega) (by omega)]; exact hm_509
        have hm_590 : M_576 3 = some (cLaws ad ) := by rw [hF_584 3 (by omega) (by omega) (by omega) (by omega)]; exact hm_510
        have hm_591 : M_576 4 = some (aI G 36 (nF le)) := by rw [hF_584 4 (by omega) (by omega) (by omega) (by omega)]; exact hm_511
        have hm_592 : M_576 5 = some (aI G 36 (nF mo)) := by rw [hF_584 5 (by omega) (by omega) (by omega) (by omega)]; exact hm_512
        have hm_593 : M_576 6 = some (aI G 36 (nF al)) := by rw [hF_584 6 (by omega) (by omega) (by omega) (by omega)]; exact hm_513
        have hm_594 : M_576 7 = some (aZ G 6 (bF ho)) := by rw [hF_584 7 (by omega) (by omega) (by omega) (by omega)]; exact hm_514
        have hm_595 : M_576 8 = some (cOnes ad (jn + 1)) := by rw [hF_584 8 (by omega) (by omega) (by omega) (by omega)]; exact hm_499
        have hm_596 : M_576 9 = some (aI G 40 (nF (va_up hg (max (lst t1) (lst t2)) (min (lst t1) (lst t2))))) := by rw [hF_584 9 (by omega) (by omega) (by omega) (by omega)]; exact hm_500
        have hm_597 : M_576 10 = some (aI G 40 (nF l2_506)) := by rw [hF_584 10 (by omega) (by omega) (by omega) (by omega)]; exact hm_501
        have hm_598 : M_576 11 = some (aI G 40 (nF (va_up jd jn (max (lst t1) (lst t2))))) := by rw [hF_584 11 (by omega) (by omega) (by omega) (by omega)]; exact hm_502
        have hm_599 : M_576 12 = some (cEnds ad 12 s0) := by rw [hF_584 12 (by omega) (by omega) (by omega) (by omega)]; exact hm_515
        have hm_600 : M_576 13 = some (aI G 6 (nF r0)) := by rw [hF_584 13 (by omega) (by omega) (by omega) (by omega)]; exact hm_516
        have hm_601 : M_576 14 = some (aI G 6 (oF th)) := by rw [hF_584 14 (by omega) (by omega) (by omega) (by omega)]; exact hm_517
        have hm_602 : M_576 15 = some (aI G 6 (oF ol)) := by rw [hF_584 15 (by omega) (by omega) (by omega) (by omega)]; exact hm_518
        have hm_603 : M_576 19 = some (aZ G 120 (bF mm9)) := by rw [hF_584 19 (by omega) (by omega) (by omega) (by omega)]; exact hm_519
        have hm_604 : M_576 20 = some (aI G 120 ff) := by rw [hF_584 20 (by omega) (by omega) (by omega) (by omega)]; exact hm_520
        have hm_605 : M_576 21 = some (aI G 120 lq) := by rw [hF_584 21 (by omega) (by omega) (by omega) (by omega)]; exact hm_521
        have hm_606 : M_576 22 = some (cReader ad ra rb rt rv) := by rw [hF_584 22 (by omega) (by omega) (by omega) (by omega)]; exact hm_522
        have hm_607 : M_576 23 = some (cMatcher ad qm pz) := by rw [hF_584 23 (by omega) (by omega) (by omega) (by omega)]; exact hm_523
        have hm_608 : M_576 24 = some (aJ G 2160 sx) := by rw [hF_584 24 (by omega) (by omega) (by omega) (by omega)]; exact hm_524
        have hm_609 : M_576 25 = some (aI G 6 (nF ft)) := by rw [hF_584 25 (by omega) (by omega) (by omega) (by omega)]; exact hm_525
        have hm_610 : M_576 26 = some (aJ G 240 rx) := by rw [hF_584 26 (by omega) (by omega) (by omega) (by omega)]; exact hm_526
        have hm_611 : M_576 27 = some (aJ G 3 dm) := by rw [hF_584 27 (by omega) (by omega) (by omega) (by omega)]; exact hm_527
        have hm_612 : M_576 28 = some (aI G 3 rc) := by rw [hF_584 28 (by omega) (by omega) (by omega) (by omega)]; exact hm_528
        have hm_613 : M_576 qa = some (cQuestion ad qa ao vr) := by rw [hF_584 qa (by omega) (by omega) (by omega) (by omega)]; exact hm_529
        have hm_614 : M_576 (qa + 1) = some (aI G 6 (nF kn)) := by rw [hF_584 (qa + 1) (by omega) (by omega) (by omega) (by omega)]; exact hm_530
        have hm_615 : M_576 (qa + 2) = some (aZ G 6 (bF nq)) := by rw [hF_584 (qa + 2) (by omega) (by omega) (by omega) (by omega)]; exact hm_531
        have hm_616 : M_576 (qa + 3) = some (aI G 6 (nF pn)) := by rw [hF_584 (qa + 3) (by omega) (by omega) (by omega) (by omega)]; exact hm_532
        have hm_617 : M_576 (qa + 4) = some (aI G 6 (nF av)) := by rw [hF_584 (qa + 4) (by omega) (by omega) (by omega) (by omega)]; exact hm_533
        have hm_618 : M_576 (qa + 5) = some (aI G 24 (nF ro)) := by rw [hF_584 (qa + 5) (by omega) (by omega) (by omega) (by omega)]; exact hm_534
        have hm_619 : M_576 (qa + 6) = some (aI G 24 (nF te)) := by rw [hF_584 (qa + 6) (by omega) (by omega) (by omega) (by omega)]; exact hm_535
        have hm_620 : M_576 qs = some (cQuestion ad qs sq su) := by rw [hF_584 qs (by omega) (by omega) (by omega) (by omega)]; exact hm_536
        have hm_621 : M_576 (qs + 1) = some (aI G 6 (nF kb)) := by rw [hF_584 (qs + 1) (by omega) (by omega) (by omega) (by omega)]; exact hm_537
        have hm_622 : M_576 (qs + 2) = some (aZ G 6 (bF nb)) := by rw [hF_584 (qs + 2) (by omega) (by omega) (by omega) (by omega)]; exact hm_538
        have hm_623 : M_576 (qs + 3) = some (aI G 6 (nF pb)) := by rw [hF_584 (qs + 3) (by omega) (by omega) (by omega) (by omega)]; exact hm_539
        have hm_624 : M_576 (qs + 4) = some (aI G 6 (nF ab)) := by rw [hF_584 (qs + 4) (by omega) (by omega) (by omega) (by omega)]; exact hm_540
        have hm_625 : M_576 (qs + 5) = some (aI G 24 (nF rbb)) := by rw [hF_584 (qs + 5) (by omega) (by omega) (by omega) (by omega)]; exact hm_541
        have hm_626 : M_576 (qs + 6) = some (aI G 24 (nF tbb)) := by rw [hF_584 (qs + 6) (by omega) (by omega) (by omega) (by omega)]; exact hm_542
        have hm_627 : M_576 61 = some (aI G 36 (nF le)) := by rw [hF_584 61 (by omega) (by omega) (by omega) (by omega)]; exact hm_544
        have hm_628 : M_576 62 = some (aI G 36 (nF mo)) := by rw [hF_584 62 (by omega) (by omega) (by omega) (by omega)]; exact hm_545
        have hm_629 : M_576 63 = some (aI G 36 (nF al)) := by rw [hF_584 63 (by omega) (by omega) (by omega) (by omega)]; exact hm_546
        have hm_630 : M_576 64 = some (aZ G 6 (bF ho)) := by rw [hF_584 64 (by omega) (by omega) (by omega) (by omega)]; exact hm_547
        have hm_631 : M_576 65 = some (aI G 120 (nF mk)) := by rw [hF_584 65 (by omega) (by omega) (by omega) (by omega)]; exact hm_548
        have hm_632 : M_576 66 = some (aI G 120 mf) := by rw [hF_584 66 (by omega) (by omega) (by omega) (by omega)]; exact hm_549
        have hm_633 : M_576 67 = some (aI G 120 mu) := by rw [hF_584 67 (by omega) (by omega) (by omega) (by omega)]; exact hm_550
        have hm_634 : M_576 68 = some (aI G 121 (nF mz)) := by rw [hF_584 68 (by omega) (by omega) (by omega) (by omega)]; exact hm_551
        have hm_635 : M_576 69 = some (aI G 726 (nF rr)) := by rw [hF_584 69 (by omega) (by omega) (by omega) (by omega)]; exact hm_552
        have hm_636 : M_576 70 = some (aI G 726 (nF ee)) := by rw [hF_584 70 (by omega) (by omega) (by omega) (by omega)]; exact hm_553
        have hm_637 : M_576 74 = some (aI G 120 s74) := by rw [hF_584 74 (by omega) (by omega) (by omega) (by omega)]; exact hm_557
        have hm_638 : M_576 75 = some (aI G 12 ak) := by rw [hF_584 75 (by omega) (by omega) (by omega) (by omega)]; exact hm_558
        have hm_639 : M_576 76 = some (aZ G 12 (bF nm)) := by rw [hF_584 76 (by omega) (by omega) (by omega) (by omega)]; exact hm_559
        have hm_640 : M_576 77 = some (aI G 12 (nF ap)) := by rw [hF_584 77 (by omega) (by omega) (by omega) (by omega)]; exact hm_560
        have hm_641 : M_576 78 = some (aI G 48 pr) := by rw [hF_584 78 (by omega) (by omega) (by omega) (by omega)]; exact hm_561
        have hm_642 : M_576 79 = some (aI G 48 pf) := by rw [hF_584 79 (by omega) (by omega) (by omega) (by omega)]; exact hm_562
        have hm_643 : M_576 80 = some (aB G 400 tf) := by rw [hF_584 80 (by omega) (by omega) (by omega) (by omega)]; exact hm_563
        have hm_644 : M_576 81 = some (aI G 5 fv) := by rw [hF_584 81 (by omega) (by omega) (by omega) (by omega)]; exact hm_564
        have hm_645 : M_576 82 = some (aZ G 384000 (bF tr)) := by rw [hF_584 82 (by omega) (by omega) (by omega) (by omega)]; exact hm_565
        have hm_646 : M_576 83 = some (aI G 3 (oF gv)) := by rw [hF_584 83 (by omega) (by omega) (by omega) (by omega)]; exact hm_566
        have hm_647 : M_576 84 = some (aI G 3 fo) := by rw [hF_584 84 (by omega) (by omega) (by omega) (by omega)]; exact hm_567
        have hm_648 : M_576 85 = some (aZ G 40 (bF re)) := by rw [hF_584 85 (by omega) (by omega) (by omega) (by omega)]; exact hm_568
        have hm_649 : M_576 86 = some (aZ G 120 (bF us)) := by rw [hF_584 86 (by omega) (by omega) (by omega) (by omega)]; exact hm_569
        have hm_650 : M_576 87 = some (aZ G 120 (bF nx)) := by rw [hF_584 87 (by omega) (by omega) (by omega) (by omega)]; exact hm_570
        have hm_651 : M_576 99 = some (aJ G 1 (vp_updL of 0 ((1 : Int64)))) := by rw [hF_584 99 (by omega) (by omega) (by omega) (by omega)]; exact hm_503
        have hm_652 : M_576 16 = some (cLines ad ) := by rw [hF_584 16 (by omega) (by omega) (by omega) (by omega)]; exact hm_571
        have hL_653 : LSm G ad M_576 n kd fm to sz rl en := hL_572.keep (fun j hj => hF_584 j (by omega) (by omega) (by omega) (by omega))
        have hF_654 : ∀ j : Nat, j ≠ 8 → j ≠ 9 → j ≠ 10 → j ≠ 11 → j ≠ 99 → j ≠ 60 → j ≠ 71 → j ≠ 72 → j ≠ 73 → M_576 j = M j := fun j q0 q1 q2 q3 q4 q5 q6 q7 q8 => (hF_584 j q5 q6 q7 q8).trans (hF_573 j q0 q1 q2 q3 q4)
        rw [hr_579]
        refine lv_istore (lv' := [(6, .int (nI 1)), (5, .int (nI 0)), (0, .ref b), (1, .ref (ad 0)), (2, .ref (ad 60)), (3, .ref (ad 99)), (4, .int (nI i))]) hx hb dL_law_736 hl (by decide) rfl (fun ls hl => ?_)
        refine lv_aload_n hx hb dL_law_738 rfl (lv_at hl 4 rfl) ?_
        refine k_Ri (va_runV (As := []) (rest := []) ⟨hx, hb, hml, hown, hts⟩ (c_X10_thrown l G z ad M_576 (th := 0) (ln := n) (on := jn + 1) (ao := ao) (vr := vr) (sn := sn) (tp := len) (pt := pt) (zs := zs) (bg := bg) (fa := fw) hm_580) (cwV 0 hts (gV (lwg_of t_997 rfl) (lwg_of t_998 rfl) (lwg_of t_999 rfl) (lwg_of t_13 rfl) (lwg_of t_1000 rfl)) rfl rfl rfl (by decide +kernel) ⟨Nat.le_of_ble_eq_true rfl, Nat.le_of_ble_eq_true rfl⟩) (hI.preV hm_580 rfl) rfl rfl hl.1 rfl (lv_room (Nat.le_of_ble_eq_true rfl)) dL_law_739 ⟨(show _ ≤ (601024 : Nat) from by omega), (show _ ≤ (7293034 : Nat) from by omega)⟩) (fun _ h => h) (fun r_655 hp_656 => ?_)
        rw [hp_656]
        refine lv_iload hx hb dL_law_742 (lv_at hl 1 rfl) ?_
        refine lv_icmp_eq (tgt := 749) hx hb dL_law_744 (by decide) (fun c_657 => ?_) (fun c_657 => ?_)
        · -- 744: nI 0 eq
          refine lv_iload hx hb dL_law_749 (lv_at hl 1 rfl) ?_
          refine lv_if_ne (tgt := 773) hx hb dL_law_751 (by decide) (fun c_658 => ?_) (fun c_658 => ?_)
          · -- 751: nI 0 ne
            exact absurd (by decide) c_658
          · -- 751: nI 0 eq
            refine lv_aload_n hx hb dL_law_754 rfl (lv_at hl 5 rfl) ?_
            refine lv_iconst (v := nI 0) hx hb dL_law_755 (by decide) ?_
            refine h_lald (i := 0) hx hb hI hm_651 (by omega) (by decide) dL_law_756 ?_
            refine n_eql (show _ = (1 : Int64) from updL_0) ?_
            refine lv_iload hx hb dL_law_757 (lv_at hl 0 rfl) ?_
            refine lv_if_eq (tgt := 766) hx hb dL_law_759 (by decide) (fun c_659 => ?_) (fun c_659 => ?_)
            · -- 759: nI 1 eq
              exact absurd c_659 (by decide)
            · -- 759: nI 1 ne
              refine lv_lconst (v := 1) hx hb dL_law_762 (by decide) ?_
              refine lv_goto (tgt := 767) hx hb dL_law_763 (by decide) ?_
              refine W.lcmp hx hb dL_law_767 ?_
              refine lv_if_eq (tgt := 773) hx hb dL_law_768 (by decide) (fun c_660 => ?_) (fun c_660 => ?_)
              · -- 768: lg_cmp (1 : Int64) (1 : Int64) eq
                have c_660 : (1 : Int64) = (1 : Int64) := (lg_cmp_eq _ _).mp c_660
                refine lv_goto (tgt := 1333) hx hb dL_law_773 (by decide) ?_
                have hJ := ji_join w3 ht1 ht2 hc_328 hP_505 hP_585
                have h32w : ∀ j9, 100 + 5 * n ≤ j9 → M_576 j9 = none := (fun j9 h9 => by rw [hF_654 j9 (by omega) (by omega) (by omega) (by omega) (by omega) (by omega) (by omega) (by omega) (by omega)]; exact w32 j9 h9)
                refine W.widen (k := cz + 10) (n := sy + 300) (by omega) (by omega) ?_
                exact kk ad (va_up M_576 71 (some (aI G 40 (nF l2_506)))) H_577 locs_578 ls n kd fm to sz rl en qa qs fw len tb le mo al ho (jn + 1) (va_up hg (max (lst t1) (lst t2)) (min (lst t1) (lst t2))) l2_506 (va_up jd jn (max (lst t1) (lst t2))) s0 r0 th ol e0 mm9 ff lq ra rb rt rv qm pz sx ft rx dm rc ao vr kn nq pn av ro te sq su kb nb pb ab rbb tbb 0 sn pt zs bg mk mf mu mz rr ee (va_up oa jn t1) (va_up ob jn t2) s74 ak nm ap pr pf tf fv tr gv fo re us nx (vp_updL of 0 ((1 : Int64))) (LSm.cg hL_653 (by omega)) w1 w2 hJ.1 w4 w5 w6 w7 w8 w9 w10 w11 w12 w13 w14 w15 w16 w17 w18 w19 w20 w21 w22 w23 w24 w25 w26 w27 w28 w29 (fun h9 => by rw [(va_up_ne _ _ (by decide)), (va_up_ne _ _ (by decide))]; exact (fun h9 => by rw [hF_654 17 (by omega) (by omega) (by omega) (by omega) (by omega) (by omega) (by omega) (by omega) (by omega), hF_654 18 (by omega) (by omega) (by omega) (by omega) (by omega) (by omega) (by omega) (by omega) (by omega)]; exact w30 h9) h9) ((va_up_ne _ _ (by decide)).trans (by rw [hF_654 29 (by omega) (by omega) (by omega) (by omega) (by omega) (by omega) (by omega) (by omega) (by omega)]; exact w31)) (fun j9 h9 => (va_up_ne _ _ (by omega)).trans (h32w j9 h9)) ((va_up_ne _ _ (by decide)).trans hm_587) ((va_up_ne _ _ (by decide)).trans hm_588) ((va_up_ne _ _ (by decide)).trans hm_589) ((va_up_ne _ _ (by decide)).trans hm_590) ((va_up_ne _ _ (by decide)).trans hm_591) ((va_up_ne _ _ (by decide)).trans hm_592) ((va_up_ne _ _ (by decide)).trans hm_593) ((va_up_ne _ _ (by decide)).trans hm_594) ((va_up_ne _ _ (by decide)).trans hm_595) ((va_up_ne _ _ (by decide)).trans hm_596) ((va_up_ne _ _ (by decide)).trans hm_597) ((va_up_ne _ _ (by decide)).trans hm_598) ((va_up_ne _ _ (by decide)).trans hm_599) ((va_up_ne _ _ (by decide)).trans hm_600) ((va_up_ne _ _ (by decide)).trans hm_601) ((va_up_ne _ _ (by decide)).trans hm_602) ((va_up_ne _ _ (by decide)).trans hm_603) ((va_up_ne _ _ (by decide)).trans hm_604) ((va_up_ne _ _ (by decide)).trans hm_605) ((va_up_ne _ _ (by decide)).trans hm_606) ((va_up_ne _ _ (by decide)).trans hm_607) ((va_up_ne _ _ (by decide)).trans hm_608) ((va_up_ne _ _ (by decide)).trans hm_609) ((va_up_ne _ _ (by decide)).trans hm_610) ((va_up_ne _ _ (by decide)).trans hm_611) ((va_up_ne _ _ (by decide)).trans hm_612) ((va_up_ne _ _ (by omega)).trans hm_613) ((va_up_ne _ _ (by omega)).trans hm_614) ((va_up_ne _ _ (by omega)).trans hm_615) ((va_up_ne _ _ (by omega)).trans hm_616) ((va_up_ne _ _ (by omega)).trans hm_617) ((va_up_ne _ _ (by omega)).trans hm_618) ((va_up_ne _ _ (by omega)).trans hm_619) ((va_up_ne _ _ (by omega)).trans hm_620) ((va_up_ne _ _ (by omega)).trans hm_621) ((va_up_ne _ _ (by omega)).trans hm_622) ((va_up_ne _ _ (by omega)).trans hm_623) ((va_up_ne _ _ (by omega)).trans hm_624) ((va_up_ne _ _ (by omega)).trans hm_625) ((va_up_ne _ _ (by omega)).trans hm_626) ((va_up_ne _ _ (by decide)).trans hm_580) ((va_up_ne _ _ (by decide)).trans hm_627) ((va_up_ne _ _ (by decide)).trans hm_628) ((va_up_ne _ _ (by decide)).trans hm_629) ((va_up_ne _ _ (by decide)).trans hm_630) ((va_up_ne _ _ (by decide)).trans hm_631) ((va_up_ne _ _ (by decide)).trans hm_632) ((va_up_ne _ _ (by decide)).trans hm_633) ((va_up_ne _ _ (by decide)).trans hm_634) ((va_up_ne _ _ (by decide)).trans hm_635) ((va_up_ne _ _ (by decide)).trans hm_636) (va_up_self _ _ _) ((va_up_ne _ _ (by decide)).trans hm_582) ((va_up_ne _ _ (by decide)).trans hm_583) ((va_up_ne _ _ (by decide)).trans hm_637) ((va_up_ne _ _ (by decide)).trans hm_638) ((va_up_ne _ _ (by decide)).trans hm_639) ((va_up_ne _ _ (by decide)).trans hm_640) ((va_up_ne _ _ (by decide)).trans hm_641) ((va_up_ne _ _ (by decide)).trans hm_642) ((va_up_ne _ _ (by decide)).trans hm_643) ((va_up_ne _ _ (by decide)).trans hm_644) ((va_up_ne _ _ (by decide)).trans hm_645) ((va_up_ne _ _ (by decide)).trans hm_646) ((va_up_ne _ _ (by decide)).trans hm_647) ((va_up_ne _ _ (by decide)).trans hm_648) ((va_up_ne _ _ (by decide)).trans hm_649) ((va_up_ne _ _ (by decide)).trans hm_650) ((va_up_ne _ _ (by decide)).trans hm_651) (iv_cg hI hm_581 (fun j9 h9 => congrArg nI (hJ.2 j9 h9))) (lv_sub hl [2, 3, 4, 5, 6] rfl)
              · -- 768: lg_cmp (1 : Int64) (1 : Int64) ne
                have c_660 : (1 : Int64) ≠ (1 : Int64) := (fun h => c_660 ((lg_cmp_eq _ _).mpr h))
                exact absurd rfl c_660
        · -- 744: nI 0 ne
          exact absurd (by decide) c_657

set_option maxHeartbeats 8000000 in
set_option maxRecDepth 100000 in
theorem law_9 {p : Program} {l : Launch} {e : Env} {s : State} {m : MethodId} {below : List Frame} {meth : Method} {c : Code} {b L : Nat} {xs : Nat → Int32} {Q : State → Prop} {G : GG} {z : Nat} {ad : Nat → Nat} {M : Mem} {H : Heap} {locs : List Loc} {ls : Array Slot} {i cz sy : Nat} (hst : l.stackTraces = false) (hx : p.tables.exec = Jvm.exec) (hb : c.code = code) (hml : c.maxLocals = 7) (hown : s.vm.findClass RL = some m.cls) {cx : Cond} (hts : ∀ w ∈ cx :: lwg, w.before #[Value.ref b] s = true) (hX : va_X b L xs s s.heap) (hbl : b < s.heap.size) (hbz : ¬ z ≤ b) (hI : Iv G z ad M s H locs) (hl : lv_has ls 7 [(0, .ref b), (1, .ref (ad 0)), (2, .ref (ad 60)), (3, .ref (ad 99)), (4, .int (nI i))]) (hiL : i + 6 ≤ L) (hL : L ≤ 3072) (hcz : cz + 10 ≤ 601024) (hsy : sy + 300 ≤ 7293034) {n : Nat} {kd : Nat → Nat} {fm : Nat → Int32} {to : Nat → Int32} {sz : Nat → Nat} {rl : Nat → Nat → Nat} {en : Nat → Nat → Nat} {qa : Nat} {qs : Nat} {fw : Int32} {len : Nat} {tb : Nat → Nat} {le : Nat → Nat} {mo : Nat → Nat} {al : Nat → Nat} {ho : Nat → Bool} {jn : Nat} {hg : Nat → Nat} {lst : Nat → Nat} {jd : Nat → Nat} {s0 : Nat} {r0 : Nat → Nat} {th : Nat → Option Nat} {ol : Nat → Option Nat} {e0 : Nat → Nat} {mm9 : Nat → Bool} {ff : Nat → Int32} {lq : Nat → Int32} {ra : Nat} {rb : Nat} {rt : Int32} {rv : Int32} {qm : Nat} {pz : Nat} {sx : Nat → Int64} {ft : Nat → Nat} {rx : Nat → Int64} {dm : Nat → Int64} {rc : Nat → Int32} {ao : Nat} {vr : Nat} {kn : Nat → Nat} {nq : Nat → Bool} {pn : Nat → Nat} {av : Nat → Nat} {ro : Nat → Nat} {te : Nat → Nat} {sq : Nat} {su : Nat} {kb : Nat → Nat} {nb : Nat → Bool} {pb : Nat → Nat} {ab : Nat → Nat} {rbb : Nat → Nat} {tbb : Nat → Nat} {tw : Nat} {sn : Nat} {pt : Nat} {zs : Nat} {bg : Nat} {mk : Nat → Nat} {mf : Nat → Int32} {mu : Nat → Int32} {mz : Nat → Nat} {rr : Nat → Nat} {ee : Nat → Nat} {oa : Nat → Nat} {ob : Nat → Nat} {s74 : Nat → Int32} {ak : Nat → Int32} {nm : Nat → Bool} {ap : Nat → Nat} {pr : Nat → Int32} {pf : Nat → Int32} {tf : Nat → Int32} {fv : Nat → Int32} {tr : Nat → Bool} {gv : Nat → Option Nat} {fo : Nat → Int32} {re : Nat → Bool} {us : Nat → Bool} {nx : Nat → Bool} {of : Nat → Int64} (fL : LSm G ad M n kd fm to sz rl en) (w1 : LSw n kd sz rl en) (w2 : MRel n kd fm to sz rl en mk mf mu mz rr ee) (w3 : JI jn hg lst jd oa ob) (w4 : len ≤ 400) (w5 : ∀ j, j < len → tb j < 256) (w6 : ∀ j, j < len → tf j = sB (tb j)) (w7 : s0 ≤ 6) (w8 : mz 120 = s0) (w9 : ∀ j, j < s0 → rr (720 + j) = r0 j ∧ ee (720 + j) = e0 j) (w10 : ∀ j, j < s0 → r0 j < 6) (w11 : ∀ j, j < s0 → e0 j < 40 + n) (w12 : ∀ j, j < s0 → th j = thE e0 j) (w13 : ∀ j, j < s0 → ol j = olE e0 j) (w14 : ∀ j, j < 36 → le j < 100) (w15 : ∀ j, j < 36 → mo j < 100) (w16 : ∀ j, j < 36 → al j ≤ 100) (w17 : ∀ i, i < n → (0 : Int32) ≤ fm i) (w18 : ∀ i, i < n → ∀ k, hgs sz en i k = true → fm k ≤ fm i) (w19 : ao ≤ 6) (w20 : vr < 8) (w21 : ∀ i, i < ao → ap i ≤ 4 ∧ (ak i = nI (kn i) ∧ kn i < 6) ∧ ∀ p8, p8 < ap i → (pr (4 * i + p8) = nI (ro (i * 4 + p8)) ∧ ro (i * 4 + p8) < 6) ∧ te (i * 4 + p8) < 43 ∧ pf (4 * i + p8) = tmI (te (i * 4 + p8))) (w22 : ∀ i, i < ao → nm i = nq i ∧ ap i = pn i) (w23 : ∀ i, i < ao → av i < 8) (w24 : ∀ i, i < ao → (av i).testBit 0 = false → ∀ p9, p9 < pn i → te (i * 4 + p9) ≠ 40) (w25 : ∀ v, v < 3 → vr.testBit v = true → ∃ i, i < ao ∧ nq i = false ∧ ∃ k, k < pn i ∧ te (i * 4 + k) = 40 + v) (w26 : 29 < qa ∧ qa < 38) (w27 : 29 < qs ∧ qs < 38) (w28 : qa + 7 ≤ qs ∨ qs + 7 ≤ qa) (w29 : 29 < qm ∧ qm < 51) (w30 : n = 0 → (∃ mcn : Int32, M 17 = some (cList ad mcn G.2.2.2.2 0)) ∧ M 18 = none) (w31 : M 29 = none) (w32 : ∀ j, 100 + 5 * n ≤ j → M j = none) (f_0 : M 0 = some (cStore ad qa qs fw)) (f_1 : M 1 = some (cTape ad len)) (f_2 : M 2 = some (aI G 400 (nF tb))) (f_3 : M 3 = some (cLaws ad )) (f_4 : M 4 = some (aI G 36 (nF le))) (f_5 : M 5 = some (aI G 36 (nF mo))) (f_6 : M 6 = some (aI G 36 (nF al))) (f_7 : M 7 = some (aZ G 6 (bF ho))) (f_8 : M 8 = some (cOnes ad jn)) (f_9 : M 9 = some (aI G 40 (nF hg))) (f_10 : M 10 = some (aI G 40 (nF lst))) (f_11 : M 11 = some (aI G 40 (nF jd))) (f_12 : M 12 = some (cEnds ad 12 s0)) (f_13 : M 13 = some (aI G 6 (nF r0))) (f_14 : M 14 = some (aI G 6 (oF th))) (f_15 : M 15 = some (aI G 6 (oF ol))) (f_19 : M 19 = some (aZ G 120 (bF mm9))) (f_20 : M 20 = some (aI G 120 ff)) (f_21 : M 21 = some (aI G 120 lq)) (f_22 : M 22 = some (cReader ad ra rb rt rv)) (f_23 : M 23 = some (cMatcher ad qm pz)) (f_24 : M 24 = some (aJ G 2160 sx)) (f_25 : M 25 = some (aI G 6 (nF ft))) (f_26 : M 26 = some (aJ G 240 rx)) (f_27 : M 27 = some (aJ G 3 dm)) (f_28 : M 28 = some (aI G 3 rc)) (f_qa : M qa = some (cQuestion ad qa ao vr)) (f_qa_1 : M (qa + 1) = some (aI G 6 (nF kn))) (f_qa_2 : M (qa + 2) = some (aZ G 6 (bF nq))) (f_qa_3 : M (qa + 3) = some (aI G 6 (nF pn))) (f_qa_4 : M (qa + 4) = some (aI G 6 (nF av))) (f_qa_5 : M (qa + 5) = some (aI G 24 (nF ro))) (f_qa_6 : M (qa + 6) = some (aI G 24 (nF te))) (f_qs : M qs = some (cQuestion ad qs sq su)) (f_qs_1 : M (qs + 1) = some (aI G 6 (nF kb))) (f_qs_2 : M (qs + 2) = some (aZ G 6 (bF nb))) (f_qs_3 : M (qs + 3) = some (aI G 6 (nF pb))) (f_qs_4 : M (qs + 4) = some (aI G 6 (nF ab))) (f_qs_5 : M (qs + 5) = some (aI G 24 (nF rbb))) (f_qs_6 : M (qs + 6) = some (aI G 24 (nF tbb))) (f_60 : M 60 = some (cModel ad tw n jn ao vr sn len pt zs bg fw)) (f_61 : M 61 = some (aI G 36 (nF le))) (f_62 : M 62 = some (aI G 36 (nF mo))) (f_63 : M 63 = some (aI G 36 (nF al))) (f_64 : M 64 = some (aZ G 6 (bF ho))) (f_65 : M 65 = some (aI G 120 (nF mk))) (f_66 : M 66 = some (aI G 120 mf)) (f_67 : M 67 = some (aI G 120 mu)) (f_68 : M 68 = some (aI G 121 (nF mz))) (f_69 : M 69 = some (aI G 726 (nF rr))) (f_70 : M 70 = some (aI G 726 (nF ee))) (f_71 : M 71 = some (aI G 40 (nF lst))) (f_72 : M 72 = some (aI G 40 (nF oa))) (f_73 : M 73 = some (aI G 40 (nF ob))) (f_74 : M 74 = some (aI G 120 s74)) (f_75 : M 75 = some (aI G 12 ak)) (f_76 : M 76 = some (aZ G 12 (bF nm))) (f_77 : M 77 = some (aI G 12 (nF ap))) (f_78 : M 78 = some (aI G 48 pr)) (f_79 : M 79 = some (aI G 48 pf)) (f_80 : M 80 = some (aB G 400 tf)) (f_81 : M 81 = some (aI G 5 fv)) (f_82 : M 82 = some (aZ G 384000 (bF tr))) (f_83 : M 83 = some (aI G 3 (oF gv))) (f_84 : M 84 = some (aI G 3 fo)) (f_85 : M 85 = some (aZ G 40 (bF re))) (f_86 : M 86 = some (aZ G 120 (bF us))) (f_87 : M 87 = some (aZ G 120 (bF nx))) (f_99 : M 99 = some (aJ G 1 of)) (kk : ∀ (ad1 : Nat → Nat) (M1 : Mem) (H1 : Heap) (locs1 : List Loc) (ls1 : Array Slot) (n : Nat) (kd : Nat → Nat) (fm : Nat → Int32) (to : Nat → Int32) (sz : Nat → Nat) (rl : Nat → Nat → Nat) (en : Nat → Nat → Nat) (qa : Nat) (qs : Nat) (fw : Int32) (len : Nat) (tb : Nat → Nat) (le : Nat → Nat) (mo : Nat → Nat) (al : Nat → Nat) (ho : Nat → Bool) (jn : Nat) (hg : Nat → Nat) (lst : Nat → Nat) (jd : Nat → Nat) (s0 : Nat) (r0 : Nat → Nat) (th : Nat → Option Nat) (ol : Nat → Option Nat) (e0 : Nat → Nat) (mm9 : Nat → Bool) (ff : Nat → Int32) (lq : Nat → Int32) (ra : Nat) (rb : Nat) (rt : Int32) (rv : Int32) (qm : Nat) (pz : Nat) (sx : Nat → Int64) (ft : Nat → Nat) (rx : Nat → Int64) (dm : Nat → Int64) (rc : Nat → Int32) (ao : Nat) (vr : Nat) (kn : Nat → Nat) (nq : Nat → Bool) (pn : Nat → Nat) (av : Nat → Nat) (ro : Nat → Nat) (te : Nat → Nat) (sq : Nat) (su : Nat) (kb : Nat → Nat) (nb : Nat → Bool) (pb : Nat → Nat) (ab : Nat → Nat) (rbb : Nat → Nat) (tbb : Nat → Nat) (tw : Nat) (sn : Nat) (pt : Nat) (zs : Nat) (bg : Nat) (mk : Nat → Nat) (mf : Nat → Int32) (mu : Nat → Int32) (mz : Nat → Nat) (rr : Nat → Nat) (ee : Nat → Nat) (oa : Nat → Nat) (ob : Nat → Nat) (s74 : Nat → Int32) (ak : Nat → Int32) (nm : Nat → Bool) (ap : Nat → Nat) (pr : Nat → Int32) (pf : Nat → Int32) (tf : Nat → Int32) (fv : Nat → Int32) (tr : Nat → Bool) (gv : Nat → Option Nat) (fo : Nat → Int32) (re : Nat → Bool) (us : Nat → Bool) (nx : Nat → Bool) (of : Nat → Int64), (LSm G ad1 M1 n kd fm to sz rl en) → (LSw n kd sz rl en) → (MRel n kd fm to sz rl en mk mf mu mz rr ee) → (JI jn hg lst jd oa ob) → (len ≤ 400) → (∀ j, j < len → tb j < 256) → (∀ j, j < len → tf j = sB (tb j)) → (s0 ≤ 6) → (mz 120 = s0) → (∀ j, j < s0 → rr (720 + j) = r0 j ∧ ee (720 + j) = e0 j) → (∀ j, j < s0 → r0 j < 6) → (∀ j, j < s0 → e0 j < 40 + n) → (∀ j, j < s0 → th j = thE e0 j) → (∀ j, j < s0 → ol j = olE e0 j) → (∀ j, j < 36 → le j < 100) → (∀ j, j < 36 → mo j < 100) → (∀ j, j < 36 → al j ≤ 100) → (∀ i, i < n → (0 : Int32) ≤ fm i) → (∀ i, i < n → ∀ k, hgs sz en i k = true → fm k ≤ fm i) → (ao ≤ 6) → (vr < 8) → (∀ i, i < ao → ap i ≤ 4 ∧ (ak i = nI (kn i) ∧ kn i < 6) ∧ ∀ p8, p8 < ap i → (pr (4 * i + p8) = nI (ro (i * 4 + p8)) ∧ ro (i * 4 + p8) < 6) ∧ te (i * 4 + p8) < 43 ∧ pf (4 * i + p8) = tmI (te (i * 4 + p8))) → (∀ i, i < ao → nm i = nq i ∧ ap i = pn i) → (∀ i, i < ao → av i < 8) → (∀ i, i < ao → (av i).testBit 0 = false → ∀ p9, p9 < pn i → te (i * 4 + p9) ≠ 40) → (∀ v, v < 3 → vr.testBit v = true → ∃ i, i < ao ∧ nq i = false ∧ ∃ k, k < pn i ∧ te (i * 4 + k) = 40 + v) → (29 < qa ∧ qa < 38) → (29 < qs ∧ qs < 38) → (qa + 7 ≤ qs ∨ qs + 7 ≤ qa) → (29 < qm ∧ qm < 51) → (n = 0 → (∃ mcn : Int32, M1 17 = some (cList ad1 mcn G.2.2.2.2 0)) ∧ M1 18 = none) → (M1 29 = none) → (∀ j, 100 + 5 * n ≤ j → M1 j = none) → (M1 0 = some (cStore ad1 qa qs fw)) → (M1 1 = some (cTape ad1 len)) → (M1 2 = some (aI G 400 (nF tb))) → (M1 3 = some (cLaws ad1 )) → (M1 4 = some (aI G 36 (nF le))) → (M1 5 = some (aI G 36 (nF mo))) → (M1 6 = some (aI G 36 (nF al))) → (M1 7 = some (aZ G 6 (bF ho))) → (M1 8 = some (cOnes ad1 jn)) → (M1 9 = some (aI G 40 (nF hg))) → (M1 10 = some (aI G 40 (nF lst))) → (M1 11 = some (aI G 40 (nF jd))) → (M1 12 = some (cEnds ad1 12 s0)) → (M1 13 = some (aI G 6 (nF r0))) → (M1 14 = some (aI G 6 (oF th))) → (M1 15 = some (aI G 6 (oF ol))) → (M1 19 = some (aZ G 120 (bF mm9))) → (M1 20 = some (aI G 120 ff)) → (M1 21 = some (aI G 120 lq)) → (M1 22 = some (cReader ad1 ra rb rt rv)) → (M1 23 = some (cMatcher ad1 qm pz)) → (M1 24 = some (aJ G 2160 sx)) → (M1 25 = some (aI G 6 (nF ft))) → (M1 26 = some (aJ G 240 rx)) → (M1 27 = some (aJ G 3 dm)) → (M1 28 = some (aI G 3 rc)) → (M1 qa = some (cQuestion ad1 qa ao vr)) → (M1 (qa + 1) = some (aI G 6 (nF kn))) → (M1 (qa + 2) = some (aZ G 6 (bF nq))) → (M1 (qa + 3) = some (aI G 6 (nF pn))) → (M1 (qa + 4) = some (aI G 6 (nF av))) → (M1 (qa + 5) = some (aI G 24 (nF ro))) → (M1 (qa + 6) = some (aI G 24 (nF te))) → (M1 qs = some (cQuestion ad1 qs sq su)) → (M1 (qs + 1) = some (aI G 6 (nF kb))) → (M1 (qs + 2) = some (aZ G 6 (bF nb))) → (M1 (qs + 3) = some (aI G 6 (nF pb))) → (M1 (qs + 4) = some (aI G 6 (nF ab))) → (M1 (qs + 5) = some (aI G 24 (nF rbb))) → (M1 (qs + 6) = some (aI G 24 (nF tbb))) → (M1 60 = some (cModel ad1 tw n jn ao vr sn len pt zs bg fw)) → (M1 61 = some (aI G 36 (nF le))) → (M1 62 = some (aI G 36 (nF mo))) → (M1 63 = some (aI G 36 (nF al))) → (M1 64 = some (aZ G 6 (bF ho))) → (M1 65 = some (aI G 120 (nF mk))) → (M1 66 = some (aI G 120 mf)) → (M1 67 = some (aI G 120 mu)) → (M1 68 = some (aI G 121 (nF mz))) → (M1 69 = some (aI G 726 (nF rr))) → (M1 70 = some (aI G 726 (nF ee))) → (M1 71 = some (aI G 40 (nF lst))) → (M1 72 = some (aI G 40 (nF oa))) → (M1 73 = some (aI G 40 (nF ob))) → (M1 74 = some (aI G 120 s74)) → (M1 75 = some (aI G 12 ak)) → (M1 76 = some (aZ G 12 (bF nm))) → (M1 77 = some (aI G 12 (nF ap))) → (M1 78 = some (aI G 48 pr)) → (M1 79 = some (aI G 48 pf)) → (M1 80 = some (aB G 400 tf)) → (M1 81 = some (aI G 5 fv)) → (M1 82 = some (aZ G 384000 (bF tr))) → (M1 83 = some (aI G 3 (oF gv))) → (M1 84 = some (aI G 3 fo)) → (M1 85 = some (aZ G 40 (bF re))) → (M1 86 = some (aZ G 120 (bF us))) → (M1 87 = some (aZ G 120 (bF nx))) → (M1 99 = some (aJ G 1 of)) → Iv G z ad1 M1 s H1 locs1 → lv_has ls1 7 [(0, .ref b), (1, .ref (ad1 0)), (2, .ref (ad1 60)), (3, .ref (ad1 99)), (4, .int (nI i))] → W p l e room_1 s m #[Value.ref b] below meth c H1 locs1 (cz + 10) (sy + 300) Q (F0 m 1333 ls1 [])) : W p l e room_1 s m #[Value.ref b] below meth c H locs cz sy Q (F0 m 776 ls []) := by
  have h16 := fL.1
  have hw1 := w1.1
  have hlst := ji_lst w3
  rcases (by omega : jn = 0 ∨ 0 < jn) with hc_1 | hc_2
  · skip
    refine lv_aload_n hx hb dL_law_776 rfl (lv_at hl 1 rfl) ?_
    have hj := hc_1
    have h8z : M 8 = some (cOnes ad 0) := by rw [← hj]; exact f_8
    refine k_Ri (va_runV (As := []) (rest := []) ⟨hx, hb, hml, hown, hts⟩ (c_X9_part_0 l G z ad M (qa := qa) (qs := qs) (fw := fw) f_0 h8z) (cwV 0 hts (gV (lwg_of t_295 rfl) (lwg_of t_296 rfl) (lwg_of t_297 rfl) (lwg_of t_1 rfl) (lwg_of t_298 rfl)) rfl rfl rfl (by decide +kernel) ⟨Nat.le_of_ble_eq_true rfl, Nat.le_of_ble_eq_true rfl⟩) (hI.preV f_0 rfl) rfl rfl hl.1 rfl (lv_room (Nat.le_of_ble_eq_true rfl)) dL_law_777 ⟨(show _ ≤ (601024 : Nat) from by omega), (show _ ≤ (7293034 : Nat) from by omega)⟩) (fun _ h => h) (fun r_3 hp_4 => ?_)
    rw [hp_4]
    refine lv_aload_n hx hb dL_law_780 rfl (lv_at hl 2 rfl) ?_
    refine k_Ni (va_runV (As := []) (rest := [.int (nI 0)]) ⟨hx, hb, hml, hown, hts⟩ (c_X10_part_0 l G z ad M (th := tw) (ln := n) (on := jn) (ao := ao) (vr := vr) (sn := sn) (tp := len) (pt := pt) (zs := zs) (bg := bg) (fa := fw) f_60 hj) (cwV 0 hts (gV (lwg_of t_1205 rfl) (lwg_of t_1206 rfl) (lwg_of t_1207 rfl) (lwg_of t_13 rfl) (lwg_of t_1208 rfl)) rfl rfl rfl (by decide +kernel) ⟨Nat.le_of_ble_eq_true rfl, Nat.le_of_ble_eq_true rfl⟩) (hI.preV f_60 rfl) rfl rfl hl.1 rfl (lv_room (Nat.le_of_ble_eq_true rfl)) dL_law_781 ⟨(show _ ≤ (601024 : Nat) from by omega), (show _ ≤ (7293034 : Nat) from by omega)⟩) hI (fun r_5 M_7 H_8 locs_9 hp_6 hI => ?_)
    obtain ⟨hr_10, hm_11, hF_12⟩ := hp_6
    have hm_13 : M_7 0 = some (cStore ad qa qs fw) := by rw [hF_12 0 (by omega)]; exact f_0
    have hm_14 : M_7 1 = some (cTape ad len) := by rw [hF_12 1 (by omega)]; exact f_1
    have hm_15 : M_7 2 = some (aI G 400 (nF tb)) := by rw [hF_12 2 (by omega)]; exact f_2
    have hm_16 : M_7 3 = some (cLaws ad ) := by rw [hF_12 3 (by omega)]; exact f_3
    have hm_17 : M_7 4 = some (aI G 36 (nF le)) := by rw [hF_12 4 (by omega)]; exact f_4
    have hm_18 : M_7 5 = some (aI G 36 (nF mo)) := by rw [hF_12 5 (by omega)]; exact f_5
    have hm_19 : M_7 6 = some (aI G 36 (nF al)) := by rw [hF_12 6 (by omega)]; exact f_6
    have hm_20 : M_7 7 = some (aZ G 6 (bF ho)) := by rw [hF_12 7 (by omega)]; exact f_7
    have hm_21 : M_7 8 = some (cOnes ad 0) := by rw [hF_12 8 (by omega)]; exact h8z
    have hm_22 : M_7 9 = some (aI G 40 (nF hg)) := by rw [hF_12 9 (by omega)]; exact f_9
    have hm_23 : M_7 10 = some (aI G 40 (nF lst)) := by rw [hF_12 10 (by omega)]; exact f_10
    have hm_24 : M_7 11 = some (aI G 40 (nF jd)) := by rw [hF_12 11 (by omega)]; exact f_11
    have hm_25 : M_7 12 = some (cEnds ad 12 s0) := by rw [hF_12 12 (by omega)]; exact f_12
    have hm_26 : M_7 13 = some (aI G 6 (nF r0)) := by rw [hF_12 13 (by omega)]; exact f_13
    have hm_27 : M_7 14 = some (aI G 6 (oF th)) := by rw [hF_12 14 (by omega)]; exact f_14
    have hm_28 : M_7 15 = some (aI G 6 (oF ol)) := by rw [hF_12 15 (by omega)]; exact f_15
    have hm_29 : M_7 19 = some (aZ G 120 (bF mm9)) := by rw [hF_12 19 (by omega)]; exact f_19
    have hm_30 : M_7 20 = some (aI G 120 ff) := by rw [hF_12 20 (by omega)]; exact f_20
    have hm_31 : M_7 21 = some (aI G 120 lq) := by rw [hF_12 21 (by omega)]; exact f_21
    have hm_32 : M_7 22 = some (cReader ad ra rb rt rv) := by rw [hF_12 22 (by omega)]; exact f_22
    have hm_33 : M_7 23 = some (cMatcher ad qm pz) := by rw [hF_12 23 (by omega)]; exact f_23
    have hm_34 : M_7 24 = some (aJ G 2160 sx) := by rw [hF_12 24 (by omega)]; exact f_24
    have hm_35 : M_7 25 = some (aI G 6 (nF ft)) := by rw [hF_12 25 (by omega)]; exact f_25
    have hm_36 : M_7 26 = some (aJ G 240 rx) := by rw [hF_12 26 (by omega)]; exact f_26
    have hm_37 : M_7 27 = some (aJ G 3 dm) := by rw [hF_12 27 (by omega)]; exact f_27
    have hm_38 : M_7 28 = some (aI G 3 rc) := by rw [hF_12 28 (by omega)]; exact f_28
    have hm_39 : M_7 qa = some (cQuestion ad qa ao vr) := by rw [hF_12 qa (by omega)]; exact f_qa
    have hm_40 : M_7 (qa + 1) = some (aI G 6 (nF kn)) := by rw [hF_12 (qa + 1) (by omega)]; exact f_qa_1
    have hm_41 : M_7 (qa + 2) = some (aZ G 6 (bF nq)) := by rw [hF_12 (qa + 2) (by omega)]; exact f_qa_2
    have hm_42 : M_7 (qa + 3) = some (aI G 6 (nF pn)) := by rw [hF_12 (qa + 3) (by omega)]; exact f_qa_3
    have hm_43 : M_7 (qa + 4) = some (aI G 6 (nF av)) := by rw [hF_12 (qa + 4) (by omega)]; exact f_qa_4
    have hm_44 : M_7 (qa + 5) = some (aI G 24 (nF ro)) := by rw [hF_12 (qa + 5) (by omega)]; exact f_qa_5
    have hm_45 : M_7 (qa + 6) = some (aI G 24 (nF te)) := by rw [hF_12 (qa + 6) (by omega)]; exact f_qa_6
    have hm_46 : M_7 qs = some (cQuestion ad qs sq su) := by rw [hF_12 qs (by omega)]; exact f_qs
    have hm_47 : M_7 (qs + 1) = some (aI G 6 (nF kb)) := by rw [hF_12 (qs + 1) (by omega)]; exact f_qs_1
    have hm_48 : M_7 (qs + 2) = some (aZ G 6 (bF nb)) := by rw [hF_12 (qs + 2) (by omega)]; exact f_qs_2
    have hm_49 : M_7 (qs + 3) = some (aI G 6 (nF pb)) := by rw [hF_12 (qs + 3) (by omega)]; exact f_qs_3
    have hm_50 : M_7 (qs + 4) = some (aI G 6 (nF ab)) := by rw [hF_12 (qs + 4) (by omega)]; exact f_qs_4
    have hm_51 : M_7 (qs + 5) = some (aI G 24 (nF rbb)) := by rw [hF_12 (qs + 5) (by omega)]; exact f_qs_5
    have hm_52 : M_7 (qs + 6) = some (aI G 24 (nF tbb)) := by rw [hF_12 (qs + 6) (by omega)]; exact f_qs_6
    have hm_53 : M_7 61 = some (aI G 36 (nF le)) := by rw [hF_12 61 (by omega)]; exact f_61
    have hm_54 : M_7 62 = some (aI G 36 (nF mo)) := by rw [hF_12 62 (by omega)]; exact f_62
    have hm_55 : M_7 63 = some (aI G 36 (nF al)) := by rw [hF_12 63 (by omega)]; exact f_63
    have hm_56 : M_7 64 = some (aZ G 6 (bF ho)) := by rw [hF_12 64 (by omega)]; exact f_64
    have hm_57 : M_7 65 = some (aI G 120 (nF mk)) := by rw [hF_12 65 (by omega)]; exact f_65
    have hm_58 : M_7 66 = some (aI G 120 mf) := by rw [hF_12 66 (by omega)]; exact f_66
    have hm_59 : M_7 67 = some (aI G 120 mu) := by rw [hF_12 67 (by omega)]; exact f_67
    have hm_60 : M_7 68 = some (aI G 121 (nF mz)) := by rw [hF_12 68 (by omega)]; exact f_68
    have hm_61 : M_7 69 = some (aI G 726 (nF rr)) := by rw [hF_12 69 (by omega)]; exact f_69
    have hm_62 : M_7 70 = some (aI G 726 (nF ee)) := by rw [hF_12 70 (by omega)]; exact f_70
    have hm_63 : M_7 71 = some (aI G 40 (nF lst)) := by rw [hF_12 71 (by omega)]; exact f_71
    have hm_64 : M_7 72 = some (aI G 40 (nF oa)) := by rw [hF_12 72 (by omega)]; exact f_72
    have hm_65 : M_7 73 = some (aI G 40 (nF ob)) := by rw [hF_12 73 (by omega)]; exact f_73
    have hm_66 : M_7 74 = some (aI G 120 s74) := by rw [hF_12 74 (by omega)]; exact f_74
    have hm_67 : M_7 75 = some (aI G 12 ak) := by rw [hF_12 75 (by omega)]; exact f_75
    have hm_68 : M_7 76 = some (aZ G 12 (bF nm)) := by rw [hF_12 76 (by omega)]; exact f_76
    have hm_69 : M_7 77 = some (aI G 12 (nF ap)) := by rw [hF_12 77 (by omega)]; exact f_77
    have hm_70 : M_7 78 = some (aI G 48 pr) := by rw [hF_12 78 (by omega)]; exact f_78
    have hm_71 : M_7 79 = some (aI G 48 pf) := by rw [hF_12 79 (by omega)]; exact f_79
    have hm_72 : M_7 80 = some (aB G 400 tf) := by rw [hF_12 80 (by omega)]; exact f_80
    have hm_73 : M_7 81 = some (aI G 5 fv) := by rw [hF_12 81 (by omega)]; exact f_81
    have hm_74 : M_7 82 = some (aZ G 384000 (bF tr)) := by rw [hF_12 82 (by omega)]; exact f_82
    have hm_75 : M_7 83 = some (aI G 3 (oF gv)) := by rw [hF_12 83 (by omega)]; exact f_83
    have hm_76 : M_7 84 = some (aI G 3 fo) := by rw [hF_12 84 (by omega)]; exact f_84
    have hm_77 : M_7 85 = some (aZ G 40 (bF re)) := by rw [hF_12 85 (by omega)]; exact f_85
    have hm_78 : M_7 86 = some (aZ G 120 (bF us)) := by rw [hF_12 86 (by omega)]; exact f_86
    have hm_79 : M_7 87 = some (aZ G 120 (bF nx)) := by rw [hF_12 87 (by omega)]; exact f_87
    have hm_80 : M_7 99 = some (aJ G 1 of) := by rw [hF_12 99 (by omega)]; exact f_99
    have hm_81 : M_7 16 = some (cLines ad ) := by rw [hF_12 16 (by omega)]; exact h16
    have hL_82 : LSm G ad M_7 n kd fm to sz rl en := fL.keep (fun j hj => hF_12 j (by omega))
    have hF_83 : ∀ j : Nat, j ≠ 60 → M_7 j = M j := fun j q0 => (hF_12 j q0)
    rw [hr_10]
    refine lv_icmp_eq (tgt := 1333) hx hb dL_law_784 (by decide) (fun c_84 => ?_) (fun c_84 => ?_)
    · -- 784: nI 0 eq
      refine W.widen (k := cz + 10) (n := sy + 300) (by omega) (by omega) ?_
      exact kk ad M_7 H_8 locs_9 ls n kd fm to sz rl en qa qs fw len tb le mo al ho jn hg lst jd s0 r0 th ol e0 mm9 ff lq ra rb rt rv qm pz sx ft rx dm rc ao vr kn nq pn av ro te sq su kb nb pb ab rbb tbb 0 sn pt zs bg mk mf mu mz rr ee oa ob s74 ak nm ap pr pf tf fv tr gv fo re us nx of hL_82 w1 w2 w3 w4 w5 w6 w7 w8 w9 w10 w11 w12 w13 w14 w15 w16 w17 w18 w19 w20 w21 w22 w23 w24 w25 w26 w27 w28 w29 (fun h9 => by rw [hF_83 17 (by omega), hF_83 18 (by omega)]; exact w30 h9) (by rw [hF_83 29 (by omega)]; exact w31) (fun j9 h9 => by rw [hF_83 j9 (by omega)]; exact w32 j9 h9) hm_13 hm_14 hm_15 hm_16 hm_17 hm_18 hm_19 hm_20 (by rw [hj]; exact hm_21) hm_22 hm_23 hm_24 hm_25 hm_26 hm_27 hm_28 hm_29 hm_30 hm_31 hm_32 hm_33 hm_34 hm_35 hm_36 hm_37 hm_38 hm_39 hm_40 hm_41 hm_42 hm_43 hm_44 hm_45 hm_46 hm_47 hm_48 hm_49 hm_50 hm_51 hm_52 hm_11 hm_53 hm_54 hm_55 hm_56 hm_57 hm_58 hm_59 hm_60 hm_61 hm_62 hm_63 hm_64 hm_65 hm_66 hm_67 hm_68 hm_69 hm_70 hm_71 hm_72 hm_73 hm_74 hm_75 hm_76 hm_77 hm_78 hm_79 hm_80 hI (lv_sub hl [0, 1, 2, 3, 4] rfl)
    · -- 784: nI 0 ne
      exact absurd (by decide) c_84
  · skip
    refine lv_aload_n hx hb dL_law_776 rfl (lv_at hl 1 rfl) ?_
    have hj := hc_2
    refine k_Ni (va_runV (As := []) (rest := []) ⟨hx, hb, hml, hown, hts⟩ (c_X9_part l G z ad M (qa := qa) (qs := qs) (fw := fw) (jn := jn) (hg := hg) (lst := lst) (jd := jd) f_0 f_8 f_9 f_10 f_11 hj (Nat.lt_succ_of_le (ji_le w3)) (ji_jd w3) (ji_hg w3)) (cwV 0 hts (gV (lwg_of t_295 rfl) (lwg_of t_296 rfl) (lwg_of t_297 rfl) (lwg_of t_1 rfl) (lwg_of t_298 rfl)) rfl rfl rfl (by decide +kernel) ⟨Nat.le_of_ble_eq_true rfl, Nat.le_of_ble_eq_true rfl⟩) (hI.preV f_0 rfl) rfl rfl hl.1 rfl (lv_room (Nat.le_of_ble_eq_true rfl)) dL_law_777 ⟨(show _ ≤ (601024 : Nat) from by omega), (show _ ≤ (7293034 : Nat) from by omega)⟩) hI (fun r_85 M_87 H_88 locs_89 hp_86 hI => ?_)
    obtain ⟨l2_97, hr_90, hm_91, hm_92, hm_93, hm_94, hF_95, hP_96⟩ := hp_86
    have hm_98 : M_87 0 = some (cStore ad qa qs fw) := by rw [hF_95 0 (by omega) (by omega) (by omega) (by omega)]; exact f_0
    have hm_99 : M_87 1 = some (cTape ad len) := by rw [hF_95 1 (by omega) (by omega) (by omega) (by omega)]; exact f_1
    have hm_100 : M_87 2 = some (aI G 400 (nF tb)) := by rw [hF_95 2 (by omega) (by omega) (by omega) (by omega)]; exact f_2
    have hm_101 : M_87 3 = some (cLaws ad ) := by rw [hF_95 3 (by omega) (by omega) (by omega) (by omega)]; exact f_3
    have hm_102 : M_87 4 = some (aI G 36 (nF le)) := by rw [hF_95 4 (by omega) (by omega) (by omega) (by omega)]; exact f_4
    have hm_103 : M_87 5 = some (aI G 36 (nF mo)) := by rw [hF_95 5 (by omega) (by omega) (by omega) (by omega)]; exact f_5
    have hm_104 : M_87 6 = some (aI G 36 (nF al)) := by rw [hF_95 6 (by omega) (by omega) (by omega) (by omega)]; exact f_6
    have hm_105 : M_87 7 = some (aZ G 6 (bF ho)) := by rw [hF_95 7 (by omega) (by omega) (by omega) (by omega)]; exact f_7
    have hm_106 : M_87 12 = some (cEnds ad 12 s0) := by rw [hF_95 12 (by omega) (by omega) (by omega) (by omega)]; exact f_12
    have hm_107 : M_87 13 = some (aI G 6 (nF r0)) := by rw [hF_95 13 (by omega) (by omega) (by omega) (by omega)]; exact f_13
    have hm_108 : M_87 14 = some (aI G 6 (oF th)) := by rw [hF_95 14 (by omega) (by omega) (by omega) (by omega)]; exact f_14
    have hm_109 : M_87 15 = some (aI G 6 (oF ol)) := by rw [hF_95 15 (by omega) (by omega) (by omega) (by omega)]; exact f_15
    have hm_110 : M_87 19 = some (aZ G 120 (bF mm9)) := by rw [hF_95 19 (by omega) (by omega) (by omega) (by omega)]; exact f_19
    have hm_111 : M_87 20 = some (aI G 120 ff) := by rw [hF_95 20 (by omega) (by omega) (by omega) (by omega)]; exact f_20
    have hm_112 : M_87 21 = some (aI G 120 lq) := by rw [hF_95 21 (by omega) (by omega) (by omega) (by omega)]; exact f_21
    have hm_113 : M_87 22 = some (cReader ad ra rb rt rv) := by rw [hF_95 22 (by omega) (by omega) (by omega) (by omega)]; exact f_22
    have hm_114 : M_87 23 = some (cMatcher ad qm pz) := by rw [hF_95 23 (by omega) (by omega) (by omega) (by omega)]; exact f_23
    have hm_115 : M_87 24 = some (aJ G 2160 sx) := by rw [hF_95 24 (by omega) (by omega) (by omega) (by omega)]; exact f_24
    have hm_116 : M_87 25 = some (aI G 6 (nF ft)) := by rw [hF_95 25 (by omega) (by omega) (by omega) (by omega)]; exact f_25
    have hm_117 : M_87 26 = some (aJ G 240 rx) := by rw [hF_95 26 (by omega) (by omega) (by omega) (by omega)]; exact f_26
    have hm_118 : M_87 27 = some (aJ G 3 dm) := by rw [hF_95 27 (by omega) (by omega) (by omega) (by omega)]; exact f_27
    have hm_119 : M_87 28 = some (aI G 3 rc) := by rw [hF_95 28 (by omega) (by omega) (by omega) (by omega)]; exact f_28
    have hm_120 : M_87 qa = some (cQuestion ad qa ao vr) := by rw [hF_95 qa (by omega) (by omega) (by omega) (by omega)]; exact f_qa
    have hm_121 : M_87 (qa + 1) = some (aI G 6 (nF kn)) := by rw [hF_95 (qa + 1) (by omega) (by omega) (by omega) (by omega)]; exact f_qa_1
    have hm_122 : M_87 (qa + 2) = some (aZ G 6 (bF nq)) := by rw [hF_95 (qa + 2) (by omega) (by omega) (by omega) (by omega)]; exact f_qa_2
    have hm_123 : M_87 (qa + 3) = some (aI G 6 (nF pn)) := by rw [hF_95 (qa + 3) (by omega) (by omega) (by omega) (by omega)]; exact f_qa_3
    have hm_124 : M_87 (qa + 4) = some (aI G 6 (nF av)) := by rw [hF_95 (qa + 4) (by omega) (by omega) (by omega) (by omega)]; exact f_qa_4
    have hm_125 : M_87 (qa + 5) = some (aI G 24 (nF ro)) := by rw [hF_95 (qa + 5) (by omega) (by omega) (by omega) (by omega)]; exact f_qa_5
    have hm_126 : M_87 (qa + 6) = some (aI G 24 (nF te)) := by rw [hF_95 (qa + 6) (by omega) (by omega) (by omega) (by omega)]; exact f_qa_6
    have hm_127 : M_87 qs = some (cQuestion ad qs sq su) := by rw [hF_95 qs (by omega) (by omega) (by omega) (by omega)]; exact f_qs
    have hm_128 : M_87 (qs + 1) = some (aI G 6 (nF kb)) := by rw [hF_95 (qs + 1) (by omega) (by omega) (by omega) (by omega)]; exact f_qs_1
    have hm_129 : M_87 (qs + 2) = some (aZ G 6 (bF nb)) := by rw [hF_95 (qs + 2) (by omega) (by omega) (by omega) (by omega)]; exact f_qs_2
    have hm_130 : M_87 (qs + 3) = some (aI G 6 (nF pb)) := by rw [hF_95 (qs + 3) (by omega) (by omega) (by omega) (by omega)]; exact f_qs_3
    have hm_131 : M_87 (qs + 4) = some (aI G 6 (nF ab)) := by rw [hF_95 (qs + 4) (by omega) (by omega) (by omega) (by omega)]; exact f_qs_4
    have hm_132 : M_87 (qs + 5) = some (aI G 24 (nF rbb)) := by rw [hF_95 (qs + 5) (by omega) (by omega) (by omega) (by omega)]; exact f_qs_5
    have hm_133 : M_87 (qs + 6) = some (aI G 24 (nF tbb)) := by rw [hF_95 (qs + 6) (by omega) (by omega) (by omega) (by omega)]; exact f_qs_6
    have hm_134 : M_87 60 = some (cModel ad tw n jn ao vr sn len pt zs bg fw) := by rw [hF_95 60 (by omega) (by omega) (by omega) (by omega)]; exact f_60
    have hm_135 : M_87 61 = some (aI G 36 (nF le)) := by rw [hF_95 61 (by omega) (by omega) (by omega) (by omega)]; exact f_61
    have hm_136 : M_87 62 = some (aI G 36 (nF mo)) := by rw [hF_95 62 (by omega) (by omega) (by omega) (by omega)]; exact f_62
    have hm_137 : M_87 63 = some (aI G 36 (nF al)) := by rw [hF_95 63 (by omega) (by omega) (by omega) (by omega)]; exact f_63
    have hm_138 : M_87 64 = some (aZ G 6 (bF ho)) := by rw [hF_95 64 (by omega) (by omega) (by omega) (by omega)]; exact f_64
    have hm_139 : M_87 65 = some (aI G 120 (nF mk)) := by rw [hF_95 65 (by omega) (by omega) (by omega) (by omega)]; exact f_65
    have hm_140 : M_87 66 = some (aI G 120 mf) := by rw [hF_95 66 (by omega) (by omega) (by omega) (by omega)]; exact f_66
    have hm_141 : M_87 67 = some (aI G 120 mu) := by rw [hF_95 67 (by omega) (by omega) (by omega) (by omega)]; exact f_67
    have hm_142 : M_87 68 = some (aI G 121 (nF mz)) := by rw [hF_95 68 (by omega) (by omega) (by omega) (by omega)]; exact f_68
    have hm_143 : M_87 69 = some (aI G 726 (nF rr)) := by rw [hF_95 69 (by omega) (by omega) (by omega) (by omega)]; exact f_69
    have hm_144 : M_87 70 = some (aI G 726 (nF ee)) := by rw [hF_95 70 (by omega) (by omega) (by omega) (by omega)]; exact f_70
    have hm_145 : M_87 71 = some (aI G 40 (nF lst)) := by rw [hF_95 71 (by omega) (by omega) (by omega) (by omega)]; exact f_71
    have hm_146 : M_87 72 = some (aI G 40 (nF oa)) := by rw [hF_95 72 (by omega) (by omega) (by omega) (by omega)]; exact f_72
    have hm_147 : M_87 73 = some (aI G 40 (nF ob)) := by rw [hF_95 73 (by omega) (by omega) (by omega) (by omega)]; exact f_73
    have hm_148 : M_87 74 = some (aI G 120 s74) := by rw [hF_95 74 (by omega) (by omega) (by omega) (by omega)]; exact f_74
    have hm_149 : M_87 75 = some (aI G 12 ak) := by rw [hF_95 75 (by omega) (by omega) (by omega) (by omega)]; exact f_75
    have hm_150 : M_87 76 = some (aZ G 12 (bF nm)) := by rw [hF_95 76 (by omega) (by omega) (by omega) (by omega)]; exact f_76
    have hm_151 : M_87 77 = some (aI G 12 (nF ap)) := by rw [hF_95 77 (by omega) (by omega) (by omega) (by omega)]; exact f_77
    have hm_152 : M_87 78 = some (aI G 48 pr) := by rw [hF_95 78 (by omega) (by omega) (by omega) (by omega)]; exact f_78
    have hm_153 : M_87 79 = some (aI G 48 pf) := by rw [hF_95 79 (by omega) (by omega) (by omega) (by omega)]; exact f_79
    have hm_154 : M_87 80 = some (aB G 400 tf) := by rw [hF_95 80 (by omega) (by omega) (by omega) (by omega)]; exact f_80
    have hm_155 : M_87 81 = some (aI G 5 fv) := by rw [hF_95 81 (by omega) (by omega) (by omega) (by omega)]; exact f_81
    have hm_156 : M_87 82 = some (aZ G 384000 (bF tr)) := by rw [hF_95 82 (by omega) (by omega) (by omega) (by omega)]; exact f_82
    have hm_157 : M_87 83 = some (aI G 3 (oF gv)) := by rw [hF_95 83 (by omega) (by omega) (by omega) (by omega)]; exact f_83
    have hm_158 : M_87 84 = some (aI G 3 fo) := by rw [hF_95 84 (by omega) (by omega) (by omega) (by omega)]; exact f_84
    have hm_159 : M_87 85 = some (aZ G 40 (bF re)) := by rw [hF_95 85 (by omega) (by omega) (by omega) (by omega)]; exact f_85
    have hm_160 : M_87 86 = some (aZ G 120 (bF us)) := by rw [hF_95 86 (by omega) (by omega) (by omega) (by omega)]; exact f_86
    have hm_161 : M_87 87 = some (aZ G 120 (bF nx)) := by rw [hF_95 87 (by omega) (by omega) (by omega) (by omega)]; exact f_87
    have hm_162 : M_87 99 = some (aJ G 1 of) := by rw [hF_95 99 (by omega) (by omega) (by omega) (by omega)]; exact f_99
    have hm_163 : M_87 16 = some (cLines ad ) := by rw [hF_95 16 (by omega) (by omega) (by omega) (by omega)]; exact h16
    have hL_164 : LSm G ad M_87 n kd fm to sz rl en := fL.keep (fun j hj => hF_95 j (by omega) (by omega) (by omega) (by omega))
    have hF_165 : ∀ j : Nat, j ≠ 8 → j ≠ 9 → j ≠ 10 → j ≠ 11 → M_87 j = M j := fun j q0 q1 q2 q3 => (hF_95 j q0 q1 q2 q3)
    rw [hr_90]
    refine lv_aload_n hx hb dL_law_780 rfl (lv_at hl 2 rfl) ?_
    refine k_Ni (va_runV (As := []) (rest := [.int (nI 1)]) ⟨hx, hb, hml, hown, hts⟩ (c_X10_part l G z ad M_87 (th := tw) (ln := n) (on := jn) (ao := ao) (vr := vr) (sn := sn) (tp := len) (pt := pt) (zs := zs) (bg := bg) (fa := fw) (lst := lst) (oa := oa) (ob := ob) hm_134 hm_145 hm_146 hm_147 hj (ji_le w3) (ji_ab w3)) (cwV 0 hts (gV (lwg_of t_1205 rfl) (lwg_of t_1206 rfl) (lwg_of t_1207 rfl) (lwg_of t_13 rfl) (lwg_of t_1208 rfl)) rfl rfl rfl (by decide +kernel) ⟨Nat.le_of_ble_eq_true rfl, Nat.le_of_ble_eq_true rfl⟩) (hI.preV hm_134 rfl) rfl rfl hl.1 rfl (lv_room (Nat.le_of_ble_eq_true rfl)) dL_law_781 ⟨(show _ ≤ (601024 : Nat) from by omega), (show _ ≤ (7293034 : Nat) from by omega)⟩) hI (fun r_166 M_168 H_169 locs_170 hp_167 hI => ?_)
    obtain ⟨l2_176, hr_171, hm_172, hm_173, hF_174, hP_175⟩ := hp_167
    have hm_177 : M_168 0 = some (cStore ad qa qs fw) := by rw [hF_174 0 (by omega) (by omega)]; exact hm_98
    have hm_178 : M_168 1 = some (cTape ad len) := by rw [hF_174 1 (by omega) (by omega)]; exact hm_99
    have hm_179 : M_168 2 = some (aI G 400 (nF tb)) := by rw [hF_174 2 (by omega) (by omega)]; exact hm_100
    have hm_180 : M_168 3 = some (cLaws ad ) := by rw [hF_174 3 (by omega) (by omega)]; exact hm_101
    have hm_181 : M_168 4 = some (aI G 36 (nF le)) := by rw [hF_174 4 (by omega) (by omega)]; exact hm_102
    have hm_182 : M_168 5 = some (aI G 36 (nF mo)) := by rw [hF_174 5 (by omega) (by omega)]; exact hm_103
    have hm_183 : M_168 6 = some (aI G 36 (nF al)) := by rw [hF_174 6 (by omega) (by omega)]; exact hm_104
    have hm_184 : M_168 7 = some (aZ G 6 (bF ho)) := by rw [hF_174 7 (by omega) (by omega)]; exact hm_105
    have hm_185 : M_168 8 = some (cOnes ad (jn - 1)) := by rw [hF_174 8 (by omega) (by omega)]; exact hm_91
    have hm_186 : M_168 9 = some (aI G 40 (nF (va_up hg (jd (jn - 1)) (jd (jn - 1))))) := by rw [hF_174 9 (by omega) (by omega)]; exact hm_92
    have hm_187 : M_168 10 = some (aI G 40 (nF l2_97)) := by rw [hF_174 10 (by omega) (by omega)]; exact hm_93
    have hm_188 : M_168 11 = some (aI G 40 (nF jd)) := by rw [hF_174 11 (by omega) (by omega)]; exact hm_94
    have hm_189 : M_168 12 = some (cEnds ad 12 s0) := by rw [hF_174 12 (by omega) (by omega)]; exact hm_106
    have hm_190 : M_168 13 = some (aI G 6 (nF r0)) := by rw [hF_174 13 (by omega) (by omega)]; exact hm_107
    have hm_191 : M_168 14 = some (aI G 6 (oF th)) := by rw [hF_174 14 (by omega) (by omega)]; exact hm_108
    have hm_192 : M_168 15 = some (aI G 6 (oF ol)) := by rw [hF_174 15 (by omega) (by omega)]; exact hm_109
    have hm_193 : M_168 19 = some (aZ G 120 (bF mm9)) := by rw [hF_174 19 (by omega) (by omega)]; exact hm_110
    have hm_194 : M_168 20 = some (aI G 120 ff) := by rw [hF_174 20 (by omega) (by omega)]; exact hm_111
    have hm_195 : M_168 21 = some (aI G 120 lq) := by rw [hF_174 21 (by omega) (by omega)]; exact hm_112
    have hm_196 : M_168 22 = some (cReader ad ra rb rt rv) := by rw [hF_174 22 (by omega) (by omega)]; exact hm_113
    have hm_197 : M_168 23 = some (cMatcher ad qm pz) := by rw [hF_174 23 (by omega) (by omega)]; exact hm_114
    have hm_198 : M_168 24 = some (aJ G 2160 sx) := by rw [hF_174 24 (by omega) (by omega)]; exact hm_115
    have hm_199 : M_168 25 = some (aI G 6 (nF ft)) := by rw [hF_174 25 (by omega) (by omega)]; exact hm_116
    have hm_200 : M_168 26 = some (aJ G 240 rx) := by rw [hF_174 26 (by omega) (by omega)]; exact hm_117
    have hm_201 : M_168 27 = some (aJ G 3 dm) := by rw [hF_174 27 (by omega) (by omega)]; exact hm_118
    have hm_202 : M_168 28 = some (aI G 3 rc) := by rw [hF_174 28 (by omega) (by omega)]; exact hm_119
    have hm_203 : M_168 qa = some (cQuestion ad qa ao vr) := by rw [hF_174 qa (by omega) (by omega)]; exact hm_120
    have hm_204 : M_168 (qa + 1) = some (aI G 6 (nF kn)) := by rw [hF_174 (qa + 1) (by omega) (by omega)]; exact hm_121
    have hm_205 : M_168 (qa + 2) = some (aZ G 6 (bF nq)) := by rw [hF_174 (qa + 2) (by omega) (by omega)]; exact hm_122
    have hm_206 : M_168 (qa + 3) = some (aI G 6 (nF pn)) := by rw [hF_174 (qa + 3) (by omega) (by omega)]; exact hm_123
    have hm_207 : M_168 (qa + 4) = some (aI G 6 (nF av)) := by rw [hF_174 (qa + 4) (by omega) (by omega)]; exact hm_124
    have hm_208 : M_168 (qa + 5) = some (aI G 24 (nF ro)) := by rw [hF_174 (qa + 5) (by omega) (by omega)]; exact hm_125
    have hm_209 : M_168 (qa + 6) = some (aI G 24 (nF te)) := by rw [hF_174 (qa + 6) (by omega) (by omega)]; exact hm_126
    have hm_210 : M_168 qs = some (cQuestion ad qs sq su) := by rw [hF_174 qs (by omega) (by omega)]; exact hm_127
    have hm_211 : M_168 (qs + 1) = some (aI G 6 (nF kb)) := by rw [hF_174 (qs + 1) (by omega) (by omega)]; exact hm_128
    have hm_212 : M_168 (qs + 2) = some (aZ G 6 (bF nb)) := by rw [hF_174 (qs + 2) (by omega) (by omega)]; exact hm_129
    have hm_213 : M_168 (qs + 3) = some (aI G 6 (nF pb)) := by rw [hF_174 (qs + 3) (by omega) (by omega)]; exact hm_130
    have hm_214 : M_168 (qs + 4) = some (aI G 6 (nF ab)) := by rw [hF_174 (qs + 4) (by omega) (by omega)]; exact hm_131
    have hm_215 : M_168 (qs + 5) = some (aI G 24 (nF rbb)) := by rw [hF_174 (qs + 5) (by omega) (by omega)]; exact hm_132
    have hm_216 : M_168 (qs + 6) = some (aI G 24 (nF tbb)) := by rw [hF_174 (qs + 6) (by omega) (by omega)]; exact hm_133
    have hm_217 : M_168 61 = some (aI G 36 (nF le)) := by rw [hF_174 61 (by omega) (by omega)]; exact hm_135
    have hm_218 : M_168 62 = some (aI G 36 (nF mo)) := by rw [hF_174 62 (by omega) (by omega)]; exact hm_136
    have hm_219 : M_168 63 = some (aI G 36 (nF al)) := by rw [hF_174 63 (by omega) (by omega)]; exact hm_137
    have hm_220 : M_168 64 = some (aZ G 6 (bF ho)) := by rw [hF_174 64 (by omega) (by omega)]; exact hm_138
    have hm_221 : M_168 65 = some (aI G 120 (nF mk)) := by rw [hF_174 65 (by omega) (by omega)]; exact hm_139
    have hm_222 : M_168 66 = some (aI G 120 mf) := by rw [hF_174 66 (by omega) (by omega)]; exact hm_140
    have hm_223 : M_168 67 = some (aI G 120 mu) := by rw [hF_174 67 (by omega) (by omega)]; exact hm_141
    have hm_224 : M_168 68 = some (aI G 121 (nF mz)) := by rw [hF_174 68 (by omega) (by omega)]; exact hm_142
    have hm_225 : M_168 69 = some (aI G 726 (nF rr)) := by rw [hF_174 69 (by omega) (by omega)]; exact hm_143
    have hm_226 : M_168 70 = some (aI G 726 (nF ee)) := by rw [hF_174 70 (by omega) (by omega)]; exact hm_144
    have hm_227 : M_168 72 = some (aI G 40 (nF oa)) := by rw [hF_174 72 (by omega) (by omega)]; exact hm_146
    have hm_228 : M_168 73 = some (aI G 40 (nF ob)) := by rw [hF_174 73 (by omega) (by omega)]; exact hm_147
    have hm_229 : M_168 74 = some (aI G 120 s74) := by rw [hF_174 74 (by omega) (by omega)]; exact hm_148
    have hm_230 : M_168 75 = some (aI G 12 ak) := by rw [hF_174 75 (by omega) (by omega)]; exact hm_149
    have hm_231 : M_168 76 = some (aZ G 12 (bF nm)) := by rw [hF_174 76 (by omega) (by omega)]; exact hm_150
    have hm_232 : M_168 77 = some (aI G 12 (nF ap)) := by rw [hF_174 77 (by omega) (by omega)]; exact hm_151
    have hm_233 : M_168 78 = some (aI G 48 pr) := by rw [hF_174 78 (by omega) (by omega)]; exact hm_152
    have hm_234 : M_168 79 = some (aI G 48 pf) := by rw [hF_174 79 (by omega) (by omega)]; exact hm_153
    have hm_235 : M_168 80 = some (aB G 400 tf) := by rw [hF_174 80 (by omega) (by omega)]; exact hm_154
    have hm_236 : M_168 81 = some (aI G 5 fv) := by rw [hF_174 81 (by omega) (by omega)]; exact hm_155
    have hm_237 : M_168 82 = some (aZ G 384000 (bF tr)) := by rw [hF_174 82 (by omega) (by omega)]; exact hm_156
    have hm_238 : M_168 83 = some (aI G 3 (oF gv)) := by rw [hF_174 83 (by omega) (by omega)]; exact hm_157
    have hm_239 : M_168 84 = some (aI G 3 fo) := by rw [hF_174 84 (by omega) (by omega)]; exact hm_158
    have hm_240 : M_168 85 = some (aZ G 40 (bF re)) := by rw [hF_174 85 (by omega) (by omega)]; exact hm_159
    have hm_241 : M_168 86 = some (aZ G 120 (bF us)) := by rw [hF_174 86 (by omega) (by omega)]; exact hm_160
    have hm_242 : M_168 87 = some (aZ G 120 (bF nx)) := by rw [hF_174 87 (by omega) (by omega)]; exact hm_161
    have hm_243 : M_168 99 = some (aJ G 1 of) := by rw [hF_174 99 (by omega) (by omega)]; exact hm_162
    have hm_244 : M_168 16 = some (cLines ad ) := by rw [hF_174 16 (by omega) (by omega)]; exact hm_163
    have hL_245 : LSm G ad M_168 n kd fm to sz rl en := hL_164.keep (fun j hj => hF_174 j (by omega) (by omega))
    have hF_246 : ∀ j : Nat, j ≠ 8 → j ≠ 9 → j ≠ 10 → j ≠ 11 → j ≠ 60 → j ≠ 71 → M_168 j = M j := fun j q0 q1 q2 q3 q4 q5 => (hF_174 j q4 q5).trans (hF_165 j q0 q1 q2 q3)
    rw [hr_171]
    refine lv_icmp_eq (tgt := 1333) hx hb dL_law_784 (by decide) (fun c_247 => ?_) (fun c_247 => ?_)
    · -- 784: nI 1 eq
      have hJ := ji_part w3 hj hP_96 hP_175
      have h32w : ∀ j9, 100 + 5 * n ≤ j9 → M_168 j9 = none := (fun j9 h9 => by rw [hF_246 j9 (by omega) (by omega) (by omega) (by omega) (by omega) (by omega)]; exact w32 j9 h9)
      refine W.widen (k := cz + 10) (n := sy + 300) (by omega) (by omega) ?_
      exact kk ad (va_up M_168 71 (some (aI G 40 (nF l2_97)))) H_169 locs_170 ls n kd fm to sz rl en qa qs fw len tb le mo al ho (jn - 1) (va_up hg (jd (jn - 1)) (jd (jn - 1))) l2_97 jd s0 r0 th ol e0 mm9 ff lq ra rb rt rv qm pz sx ft rx dm rc ao vr kn nq pn av ro te sq su kb nb pb ab rbb tbb 0 sn pt zs bg mk mf mu mz rr ee oa ob s74 ak nm ap pr pf tf fv tr gv fo re us nx of (LSm.cg hL_245 (by omega)) w1 w2 hJ.1 w4 w5 w6 w7 w8 w9 w10 w11 w12 w13 w14 w15 w16 w17 w18 w19 w20 w21 w22 w23 w24 w25 w26 w27 w28 w29 (fun h9 => by rw [(va_up_ne _ _ (by decide)), (va_up_ne _ _ (by decide))]; exact (fun h9 => by rw [hF_246 17 (by omega) (by omega) (by omega) (by omega) (by omega) (by omega), hF_246 18 (by omega) (by omega) (by omega) (by omega) (by omega) (by omega)]; exact w30 h9) h9) ((va_up_ne _ _ (by decide)).trans (by rw [hF_246 29 (by omega) (by omega) (by omega) (by omega) (by omega) (by omega)]; exact w31)) (fun j9 h9 => (va_up_ne _ _ (by omega)).trans (h32w j9 h9)) ((va_up_ne _ _ (by decide)).trans hm_177) ((va_up_ne _ _ (by decide)).trans hm_178) ((va_up_ne _ _ (by decide)).trans hm_179) ((va_up_ne _ _ (by decide)).trans hm_180) ((va_up_ne _ _ (by decide)).trans hm_181) ((va_up_ne _ _ (by decide)).trans hm_182) ((va_up_ne _ _ (by decide)).trans hm_183) ((va_up_ne _ _ (by decide)).trans hm_184) ((va_up_ne _ _ (by decide)).trans hm_185) ((va_up_ne _ _ (by decide)).trans hm_186) ((va_up_ne _ _ (by decide)).trans hm_187) ((va_up_ne _ _ (by decide)).trans hm_188) ((va_up_ne _ _ (by decide)).trans hm_189) ((va_up_ne _ _ (by decide)).trans hm_190) ((va_up_ne _ _ (by decide)).trans hm_191) ((va_up_ne _ _ (by decide)).trans hm_192) ((va_up_ne _ _ (by decide)).trans hm_193) ((va_up_ne _ _ (by decide)).trans hm_194) ((va_up_ne _ _ (by decide)).trans hm_195) ((va_up_ne _ _ (by decide)).trans hm_196) ((va_up_ne _ _ (by decide)).trans hm_197) ((va_up_ne _ _ (by decide)).trans hm_198) ((va_up_ne _ _ (by decide)).trans hm_199) ((va_up_ne _ _ (by decide)).trans hm_200) ((va_up_ne _ _ (by decide)).trans hm_201) ((va_up_ne _ _ (by decide)).trans hm_202) ((va_up_ne _ _ (by omega)).trans hm_203) ((va_up_ne _ _ (by omega)).trans hm_204) ((va_up_ne _ _ (by omega)).trans hm_205) ((va_up_ne _ _ (by omega)).trans hm_206) ((va_up_ne _ _ (by omega)).trans hm_207) ((va_up_ne _ _ (by omega)).trans hm_208) ((va_up_ne _ _ (by omega)).trans hm_209) ((va_up_ne _ _ (by omega)).trans hm_210) ((va_up_ne _ _ (by omega)).trans hm_211) ((va_up_ne _ _ (by omega)).trans hm_212) ((va_up_ne _ _ (by omega)).trans hm_213) ((va_up_ne _ _ (by omega)).trans hm_214) ((va_up_ne _ _ (by omega)).trans hm_215) ((va_up_ne _ _ (by omega)).trans hm_216) ((va_up_ne _ _ (by decide)).trans hm_172) ((va_up_ne _ _ (by decide)).trans hm_217) ((va_up_ne _ _ (by decide)).trans hm_218) ((va_up_ne _ _ (by decide)).trans hm_219) ((va_up_ne _ _ (by decide)).trans hm_220) ((va_up_ne _ _ (by decide)).trans hm_221) ((va_up_ne _ _ (by decide)).trans hm_222) ((va_up_ne _ _ (by decide)).trans hm_223) ((va_up_ne _ _ (by decide)).trans hm_224) ((va_up_ne _ _ (by decide)).trans hm_225) ((va_up_ne _ _ (by decide)).trans hm_226) (va_up_self _ _ _) ((va_up_ne _ _ (by decide)).trans hm_227) ((va_up_ne _ _ (by decide)).trans hm_228) ((va_up_ne _ _ (by decide)).trans hm_229) ((va_up_ne _ _ (by decide)).trans hm_230) ((va_up_ne _ _ (by decide)).trans hm_231) ((va_up_ne _ _ (by decide)).trans hm_232) ((va_up_ne _ _ (by decide)).trans hm_233) ((va_up_ne _ _ (by decide)).trans hm_234) ((va_up_ne _ _ (by decide)).trans hm_235) ((va_up_ne _ _ (by decide)).trans hm_236) ((va_up_ne _ _ (by decide)).trans hm_237) ((va_up_ne _ _ (by decide)).trans hm_238) ((va_up_ne _ _ (by decide)).trans hm_239) ((va_up_ne _ _ (by decide)).trans hm_240) ((va_up_ne _ _ (by decide)).trans hm_241) ((va_up_ne _ _ (by decide)).trans hm_242) ((va_up_ne _ _ (by decide)).trans hm_243) (iv_cg hI hm_173 (fun j9 h9 => congrArg nI (hJ.2 j9 h9))) (lv_sub hl [0, 1, 2, 3, 4] rfl)
    · -- 784: nI 1 ne
      exact absurd (by decide) c_247
