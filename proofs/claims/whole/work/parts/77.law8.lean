theorem why_or {A B C : Prop} : (∃ w : Nat, w = 1 ∧ ¬ A ∨ w = 2 ∧ A ∧ ¬ B ∨ w = 3 ∧ A ∧ B ∧ C) ∨ (A ∧ B ∧ ¬ C) := by
  by_cases a : A
  · by_cases b : B
    · by_cases c : C
      · exact Or.inl ⟨3, Or.inr (Or.inr ⟨rfl, a, b, c⟩)⟩
      · exact Or.inr ⟨a, b, c⟩
    · exact Or.inl ⟨2, Or.inr (Or.inl ⟨rfl, a, b⟩)⟩
  · exact Or.inl ⟨1, Or.inl ⟨rfl, a⟩⟩
theorem rngD (x y : Int32) : (x < 0 ∨ y < x ∨ nI 1000 < y) ∨ ∃ a b : Nat, (a ≤ b ∧ b ≤ 1000) ∧ x = nI a ∧ y = nI b := by
  by_cases h1 : x < 0
  · exact Or.inl (Or.inl h1)
  · by_cases h2 : y < x
    · exact Or.inl (Or.inr (Or.inl h2))
    · by_cases h3 : nI 1000 < y
      · exact Or.inl (Or.inr (Or.inr h3))
      · obtain ⟨a, ha, rfl⟩ := nI_of h1
        have h4 : ¬ y < 0 := fun h => by
          simp only [Int32.lt_iff_toInt_lt, z0I] at *
          omega
        obtain ⟨b, hb, rfl⟩ := nI_of h4
        have e1 := mt (nI_ltI hb ha).mpr h2
        have e2 := mt (nI_ltI (by decide) hb).mpr h3
        exact Or.inr ⟨a, b, ⟨by omega, by omega⟩, rfl, rfl⟩
section PW
variable {n : Nat} {kd : Nat → Nat} {fm to : Nat → Int32} {sz : Nat → Nat} {rl en : Nat → Nat → Nat} {mk : Nat → Nat} {mf mu : Nat → Int32} {mz rr ee : Nat → Nat} {s0 y : Nat} {r0 e0 r2 e2 : Nat → Nat} {f g : Int32}
theorem lsw_new (hw : LSw n kd sz rl en) (hn : n < 120) (hy : y < 6) (hs : s0 ≤ 6) (hr : ∀ j, j < s0 → r0 j < 6) (he : ∀ j, j < s0 → e0 j < 40 + n) : LSw (n + 1) (va_up kd n y) (va_up sz n s0) (va_up rl n (frs s0 r0)) (va_up en n (frsE s0 e0)) := by
  refine ⟨by omega, fun i hi => ?_⟩
  by_cases e : i = n
  · rw [e]
    simp only [va_up_self]
    exact ⟨hy, hs, fun j hj => by rw [frs_is hj, frsE_is hj]; exact ⟨hr j hj, he j hj⟩⟩
  · simp only [va_up_ne _ _ e]
    exact hw.2 i (by omega)
theorem mrel_z (h : MRel n kd fm to sz rl en mk mf mu mz rr ee) (hw : LSw n kd sz rl en) : MRel n kd fm to sz rl en mk mf mu (va_up mz 120 0) rr ee := fun i hi => by
  have hn := hw.1
  obtain ⟨h1, h2, h3, h4, h5⟩ := h i hi
  exact ⟨h1, h2, h3, by rw [va_up_ne _ _ (by omega)]; exact h4, h5⟩
theorem mrel_new (h : MRel n kd fm to sz rl en mk mf mu mz rr ee) (hw : LSw n kd sz rl en) (hn : n < 120) (hs : s0 ≤ 6) (hd : ∀ j, j < s0 → rr (720 + j) = r0 j ∧ ee (720 + j) = e0 j) (h2 : (∀ j, r2 j = cpF rr n s0 j) ∧ ∀ j, e2 j = cpF ee n s0 j) : MRel (n + 1) (va_up kd n y) (va_up fm n f) (va_up to n g) (va_up sz n s0) (va_up rl n (frs s0 r0)) (va_up en n (frsE s0 e0)) (va_up mk n y) (upd mf n f) (upd mu n g) (va_up (va_up mz 120 0) n s0) r2 e2 := fun i hi => by
  by_cases e : i = n
  · rw [e]
    simp only [va_up_self, up_self]
    refine ⟨trivial, trivial, trivial, trivial, fun j hj => ?_⟩
    rw [frs_is hj, frsE_is hj, h2.1, h2.2, cpF, cpF, if_pos (by omega), if_pos (by omega), show 6 * n + j - 6 * n = j by omega]
    exact hd j hj
  · obtain ⟨a1, a2, a3, a4, a5⟩ := h i (by omega)
    have h6 := (hw.2 i (by omega)).2.1
    simp only [va_up_ne _ _ e, up_ne _ _ e]
    refine ⟨a1, a2, a3, by rw [va_up_ne _ _ (by omega)]; exact a4, fun j hj => ?_⟩
    rw [h2.1, h2.2, cpF, cpF, if_neg (by omega), if_neg (by omega)]
    exact a5 j hj
theorem pos_new {a : Nat} (h : ∀ i, i < n → (0 : Int32) ≤ fm i) (ha : a ≤ 1000) : ∀ i, i < n + 1 → (0 : Int32) ≤ va_up fm n (nI a) i := fun i hi => by
  by_cases e : i = n
  · rw [e, va_up_self, Int32.le_iff_toInt_le, nI_toInt (by omega), z0I]; omega
  · rw [va_up_ne _ _ e]; exact h i (by omega)
theorem ord_new (h : ∀ i, i < n → ∀ k, hgs sz en i k = true → fm k ≤ fm i) (hw : LSw n kd sz rl en) (he : ∀ j, j < s0 → e0 j < 40 + n) (hb : brs fm to e0 f g s0) : ∀ i, i < n + 1 → ∀ k, hgs (va_up sz n s0) (va_up en n (frsE s0 e0)) i k = true → va_up fm n f k ≤ va_up fm n f i := fun i hi k hk => by
  have hn := hw.1
  unfold hgs at hk
  rw [hasL_iff] at hk
  obtain ⟨j, hj, e1⟩ := hk
  by_cases e : i = n
  · rw [e] at hj e1 ⊢
    rw [va_up_self] at hj e1 ⊢
    have h1 := he j hj
    unfold olE at e1
    rw [frsE_is hj] at e1
    by_cases h2 : e0 j < 40
    · rw [if_pos h2] at e1; cases e1
    · rw [if_neg h2, if_pos (by omega)] at e1
      have e3 : e0 j - 40 = k := Option.some.inj e1
      rw [va_up_ne _ _ (by omega), ← e3]
      exact (hb j hj (by omega)).1
  · rw [va_up_ne _ _ e] at hj e1 ⊢
    have h1 := ((hw.2 i (by omega)).2.2 j hj).2
    have e4 := e1
    unfold olE at e4
    by_cases h2 : en i j < 40
    · rw [if_pos h2] at e4; cases e4
    · rw [if_neg h2, if_pos (by omega)] at e4
      have e3 : en i j - 40 = k := Option.some.inj e4
      rw [va_up_ne _ _ (by omega)]
      exact h i (by omega) k (hasL_iff.mpr ⟨j, hj, e1⟩)
end PW

set_option maxHeartbeats 8000000 in
set_option maxRecDepth 100000 in
theorem law_6 {p : Program} {l : Launch} {e : Env} {s : State} {m : MethodId} {below : List Frame} {meth : Method} {c : Code} {b L : Nat} {xs : Nat → Int32} {Q : State → Prop} {G : GG} {z : Nat} {ad : Nat → Nat} {M : Mem} {H : Heap} {locs : List Loc} {ls : Array Slot} {i cz sy : Nat} (hst : l.stackTraces = false) (hx : p.tables.exec = Jvm.exec) (hb : c.code = code) (hml : c.maxLocals = 7) (hown : s.vm.findClass RL = some m.cls) {cx : Cond} (hts : ∀ w ∈ cx :: lwg, w.before #[Value.ref b] s = true) (hX : va_X b L xs s s.heap) (hbl : b < s.heap.size) (hbz : ¬ z ≤ b) (hI : Iv G z ad M s H locs) (hl : lv_has ls 7 [(0, .ref b), (1, .ref (ad 0)), (2, .ref (ad 60)), (3, .ref (ad 99)), (4, .int (nI i))]) (hiL : i + 6 ≤ L) (hL : L ≤ 3072) (hcz : cz + 10 ≤ 601024) (hsy : sy + 300 ≤ 7293034) {n : Nat} {kd : Nat → Nat} {fm : Nat → Int32} {to : Nat → Int32} {sz : Nat → Nat} {rl : Nat → Nat → Nat} {en : Nat → Nat → Nat} {qa : Nat} {qs : Nat} {fw : Int32} {len : Nat} {tb : Nat → Nat} {le : Nat → Nat} {mo : Nat → Nat} {al : Nat → Nat} {ho : Nat → Bool} {jn : Nat} {hg : Nat → Nat} {lst : Nat → Nat} {jd : Nat → Nat} {s0 : Nat} {r0 : Nat → Nat} {th : Nat → Option Nat} {ol : Nat → Option Nat} {e0 : Nat → Nat} {mm9 : Nat → Bool} {ff : Nat → Int32} {lq : Nat → Int32} {ra : Nat} {rb : Nat} {rt : Int32} {rv : Int32} {qm : Nat} {pz : Nat} {sx : Nat → Int64} {ft : Nat → Nat} {rx : Nat → Int64} {dm : Nat → Int64} {rc : Nat → Int32} {ao : Nat} {vr : Nat} {kn : Nat → Nat} {nq : Nat → Bool} {pn : Nat → Nat} {av : Nat → Nat} {ro : Nat → Nat} {te : Nat → Nat} {sq : Nat} {su : Nat} {kb : Nat → Nat} {nb : Nat → Bool} {pb : Nat → Nat} {ab : Nat → Nat} {rbb : Nat → Nat} {tbb : Nat → Nat} {tw : Nat} {sn : Nat} {pt : Nat} {zs : Nat} {bg : Nat} {mk : Nat → Nat} {mf : Nat → Int32} {mu : Nat → Int32} {mz : Nat → Nat} {rr : Nat → Nat} {ee : Nat → Nat} {oa : Nat → Nat} {ob : Nat → Nat} {s74 : Nat → Int32} {ak : Nat → Int32} {nm : Nat → Bool} {ap : Nat → Nat} {pr : Nat → Int32} {pf : Nat → Int32} {tf : Nat → Int32} {fv : Nat → Int32} {tr : Nat → Bool} {gv : Nat → Option Nat} {fo : Nat → Int32} {re : Nat → Bool} {us : Nat → Bool} {nx : Nat → Bool} {of : Nat → Int64} (fL : LSm G ad M n kd fm to sz rl en) (w1 : LSw n kd sz rl en) (w2 : MRel n kd fm to sz rl en mk mf mu mz rr ee) (w3 : JI jn hg lst jd oa ob) (w4 : len ≤ 400) (w5 : ∀ j, j < len → tb j < 256) (w6 : ∀ j, j < len → tf j = sB (tb j)) (w7 : s0 ≤ 6) (w8 : mz 120 = s0) (w9 : ∀ j, j < s0 → rr (720 + j) = r0 j ∧ ee (720 + j) = e0 j) (w10 : ∀ j, j < s0 → r0 j < 6) (w11 : ∀ j, j < s0 → e0 j < 40 + n) (w12 : ∀ j, j < s0 → th j = thE e0 j) (w13 : ∀ j, j < s0 → ol j = olE e0 j) (w14 : ∀ j, j < 36 → le j < 100) (w15 : ∀ j, j < 36 → mo j < 100) (w16 : ∀ j, j < 36 → al j ≤ 100) (w17 : ∀ i, i < n → (0 : Int32) ≤ fm i) (w18 : ∀ i, i < n → ∀ k, hgs sz en i k = true → fm k ≤ fm i) (w19 : ao ≤ 6) (w20 : vr < 8) (w21 : ∀ i, i < ao → ap i ≤ 4 ∧ (ak i = nI (kn i) ∧ kn i < 6) ∧ ∀ p8, p8 < ap i → (pr (4 * i + p8) = nI (ro (i * 4 + p8)) ∧ ro (i * 4 + p8) < 6) ∧ te (i * 4 + p8) < 43 ∧ pf (4 * i + p8) = tmI (te (i * 4 + p8))) (w22 : ∀ i, i < ao → nm i = nq i ∧ ap i = pn i) (w23 : ∀ i, i < ao → av i < 8) (w24 : ∀ i, i < ao → (av i).testBit 0 = false → ∀ p9, p9 < pn i → te (i * 4 + p9) ≠ 40) (w25 : ∀ v, v < 3 → vr.testBit v = true → ∃ i, i < ao ∧ nq i = false ∧ ∃ k, k < pn i ∧ te (i * 4 + k) = 40 + v) (w26 : 29 < qa ∧ qa < 38) (w27 : 29 < qs ∧ qs < 38) (w28 : qa + 7 ≤ qs ∨ qs + 7 ≤ qa) (w29 : 29 < qm ∧ qm < 51) (w30 : n = 0 → (∃ mcn : Int32, M 17 = some (cList ad mcn G.2.2.2.2 0)) ∧ M 18 = none) (w31 : M 29 = none) (w32 : ∀ j, 100 + 5 * n ≤ j → M j = none) (f_0 : M 0 = some (cStore ad qa qs fw)) (f_1 : M 1 = some (cTape ad len)) (f_2 : M 2 = some (aI G 400 (nF tb))) (f_3 : M 3 = some (cLaws ad )) (f_4 : M 4 = some (aI G 36 (nF le))) (f_5 : M 5 = some (aI G 36 (nF mo))) (f_6 : M 6 = some (aI G 36 (nF al))) (f_7 : M 7 = some (aZ G 6 (bF ho))) (f_8 : M 8 = some (cOnes ad jn)) (f_9 : M 9 = some (aI G 40 (nF hg))) (f_10 : M 10 = some (aI G 40 (nF lst))) (f_11 : M 11 = some (aI G 40 (nF jd))) (f_12 : M 12 = some (cEnds ad 12 s0)) (f_13 : M 13 = some (aI G 6 (nF r0))) (f_14 : M 14 = some (aI G 6 (oF th))) (f_15 : M 15 = some (aI G 6 (oF ol))) (f_19 : M 19 = some (aZ G 120 (bF mm9))) (f_20 : M 20 = some (aI G 120 ff)) (f_21 : M 21 = some (aI G 120 lq)) (f_22 : M 22 = some (cReader ad ra rb rt rv)) (f_23 : M 23 = some (cMatcher ad qm pz)) (f_24 : M 24 = some (aJ G 2160 sx)) (f_25 : M 25 = some (aI G 6 (nF ft))) (f_26 : M 26 = some (aJ G 240 rx)) (f_27 : M 27 = some (aJ G 3 dm)) (f_28 : M 28 = some (aI G 3 rc)) (f_qa : M qa = some (cQuestion ad qa ao vr)) (f_qa_1 : M (qa + 1) = some (aI G 6 (nF kn))) (f_qa_2 : M (qa + 2) = some (aZ G 6 (bF nq))) (f_qa_3 : M (qa + 3) = some (aI G 6 (nF pn))) (f_qa_4 : M (qa + 4) = some (aI G 6 (nF av))) (f_qa_5 : M (qa + 5) = some (aI G 24 (nF ro))) (f_qa_6 : M (qa + 6) = some (aI G 24 (nF te))) (f_qs : M qs = some (cQuestion ad qs sq su)) (f_qs_1 : M (qs + 1) = some (aI G 6 (nF kb))) (f_qs_2 : M (qs + 2) = some (aZ G 6 (bF nb))) (f_qs_3 : M (qs + 3) = some (aI G 6 (nF pb))) (f_qs_4 : M (qs + 4) = some (aI G 6 (nF ab))) (f_qs_5 : M (qs + 5) = some (aI G 24 (nF rbb))) (f_qs_6 : M (qs + 6) = some (aI G 24 (nF tbb))) (f_60 : M 60 = some (cModel ad tw n jn ao vr sn len pt zs bg fw)) (f_61 : M 61 = some (aI G 36 (nF le))) (f_62 : M 62 = some (aI G 36 (nF mo))) (f_63 : M 63 = some (aI G 36 (nF al))) (f_64 : M 64 = some (aZ G 6 (bF ho))) (f_65 : M 65 = some (aI G 120 (nF mk))) (f_66 : M 66 = some (aI G 120 mf)) (f_67 : M 67 = some (aI G 120 mu)) (f_68 : M 68 = some (aI G 121 (nF mz))) (f_69 : M 69 = some (aI G 726 (nF rr))) (f_70 : M 70 = some (aI G 726 (nF ee))) (f_71 : M 71 = some (aI G 40 (nF lst))) (f_72 : M 72 = some (aI G 40 (nF oa))) (f_73 : M 73 = some (aI G 40 (nF ob))) (f_74 : M 74 = some (aI G 120 s74)) (f_75 : M 75 = some (aI G 12 ak)) (f_76 : M 76 = some (aZ G 12 (bF nm))) (f_77 : M 77 = some (aI G 12 (nF ap))) (f_78 : M 78 = some (aI G 48 pr)) (f_79 : M 79 = some (aI G 48 pf)) (f_80 : M 80 = some (aB G 400 tf)) (f_81 : M 81 = some (aI G 5 fv)) (f_82 : M 82 = some (aZ G 384000 (bF tr))) (f_83 : M 83 = some (aI G 3 (oF gv))) (f_84 : M 84 = some (aI G 3 fo)) (f_85 : M 85 = some (aZ G 40 (bF re))) (f_86 : M 86 = some (aZ G 120 (bF us))) (f_87 : M 87 = some (aZ G 120 (bF nx))) (f_99 : M 99 = some (aJ G 1 of)) (kk : ∀ (ad1 : Nat → Nat) (M1 : Mem) (H1 : Heap) (locs1 : List Loc) (ls1 : Array Slot) (n : Nat) (kd : Nat → Nat) (fm : Nat → Int32) (to : Nat → Int32) (sz : Nat → Nat) (rl : Nat → Nat → Nat) (en : Nat → Nat → Nat) (qa : Nat) (qs : Nat) (fw : Int32) (len : Nat) (tb : Nat → Nat) (le : Nat → Nat) (mo : Nat → Nat) (al : Nat → Nat) (ho : Nat → Bool) (jn : Nat) (hg : Nat → Nat) (lst : Nat → Nat) (jd : Nat → Nat) (s0 : Nat) (r0 : Nat → Nat) (th : Nat → Option Nat) (ol : Nat → Option Nat) (e0 : Nat → Nat) (mm9 : Nat → Bool) (ff : Nat → Int32) (lq : Nat → Int32) (ra : Nat) (rb : Nat) (rt : Int32) (rv : Int32) (qm : Nat) (pz : Nat) (sx : Nat → Int64) (ft : Nat → Nat) (rx : Nat → Int64) (dm : Nat → Int64) (rc : Nat → Int32) (ao : Nat) (vr : Nat) (kn : Nat → Nat) (nq : Nat → Bool) (pn : Nat → Nat) (av : Nat → Nat) (ro : Nat → Nat) (te : Nat → Nat) (sq : Nat) (su : Nat) (kb : Nat → Nat) (nb : Nat → Bool) (pb : Nat → Nat) (ab : Nat → Nat) (rbb : Nat → Nat) (tbb : Nat → Nat) (tw : Nat) (sn : Nat) (pt : Nat) (zs : Nat) (bg : Nat) (mk : Nat → Nat) (mf : Nat → Int32) (mu : Nat → Int32) (mz : Nat → Nat) (rr : Nat → Nat) (ee : Nat → Nat) (oa : Nat → Nat) (ob : Nat → Nat) (s74 : Nat → Int32) (ak : Nat → Int32) (nm : Nat → Bool) (ap : Nat → Nat) (pr : Nat → Int32) (pf : Nat → Int32) (tf : Nat → Int32) (fv : Nat → Int32) (tr : Nat → Bool) (gv : Nat → Option Nat) (fo : Nat → Int32) (re : Nat → Bool) (us : Nat → Bool) (nx : Nat → Bool) (of : Nat → Int64), (LSm G ad1 M1 n kd fm to sz rl en) → (LSw n kd sz rl en) → (MRel n kd fm to sz rl en mk mf mu mz rr ee) → (JI jn hg lst jd oa ob) → (len ≤ 400) → (∀ j, j < len → tb j < 256) → (∀ j, j < len → tf j = sB (tb j)) → (s0 ≤ 6) → (mz 120 = s0) → (∀ j, j < s0 → rr (720 + j) = r0 j ∧ ee (720 + j) = e0 j) → (∀ j, j < s0 → r0 j < 6) → (∀ j, j < s0 → e0 j < 40 + n) → (∀ j, j < s0 → th j = thE e0 j) → (∀ j, j < s0 → ol j = olE e0 j) → (∀ j, j < 36 → le j < 100) → (∀ j, j < 36 → mo j < 100) → (∀ j, j < 36 → al j ≤ 100) → (∀ i, i < n → (0 : Int32) ≤ fm i) → (∀ i, i < n → ∀ k, hgs sz en i k = true → fm k ≤ fm i) → (ao ≤ 6) → (vr < 8) → (∀ i, i < ao → ap i ≤ 4 ∧ (ak i = nI (kn i) ∧ kn i < 6) ∧ ∀ p8, p8 < ap i → (pr (4 * i + p8) = nI (ro (i * 4 + p8)) ∧ ro (i * 4 + p8) < 6) ∧ te (i * 4 + p8) < 43 ∧ pf (4 * i + p8) = tmI (te (i * 4 + p8))) → (∀ i, i < ao → nm i = nq i ∧ ap i = pn i) → (∀ i, i < ao → av i < 8) → (∀ i, i < ao → (av i).testBit 0 = false → ∀ p9, p9 < pn i → te (i * 4 + p9) ≠ 40) → (∀ v, v < 3 → vr.testBit v = true → ∃ i, i < ao ∧ nq i = false ∧ ∃ k, k < pn i ∧ te (i * 4 + k) = 40 + v) → (29 < qa ∧ qa < 38) → (29 < qs ∧ qs < 38) → (qa + 7 ≤ qs ∨ qs + 7 ≤ qa) → (29 < qm ∧ qm < 51) → (n = 0 → (∃ mcn : Int32, M1 17 = some (cList ad1 mcn G.2.2.2.2 0)) ∧ M1 18 = none) → (M1 29 = none) → (∀ j, 100 + 5 * n ≤ j → M1 j = none) → (M1 0 = some (cStore ad1 qa qs fw)) → (M1 1 = some (cTape ad1 len)) → (M1 2 = some (aI G 400 (nF tb))) → (M1 3 = some (cLaws ad1 )) → (M1 4 = some (aI G 36 (nF le))) → (M1 5 = some (aI G 36 (nF mo))) → (M1 6 = some (aI G 36 (nF al))) → (M1 7 = some (aZ G 6 (bF ho))) → (M1 8 = some (cOnes ad1 jn)) → (M1 9 = some (aI G 40 (nF hg))) → (M1 10 = some (aI G 40 (nF lst))) → (M1 11 = some (aI G 40 (nF jd))) → (M1 12 = some (cEnds ad1 12 s0)) → (M1 13 = some (aI G 6 (nF r0))) → (M1 14 = some (aI G 6 (oF th))) → (M1 15 = some (aI G 6 (oF ol))) → (M1 19 = some (aZ G 120 (bF mm9))) → (M1 20 = some (aI G 120 ff)) → (M1 21 = some (aI G 120 lq)) → (M1 22 = some (cReader ad1 ra rb rt rv)) → (M1 23 = some (cMatcher ad1 qm pz)) → (M1 24 = some (aJ G 2160 sx)) → (M1 25 = some (aI G 6 (nF ft))) → (M1 26 = some (aJ G 240 rx)) → (M1 27 = some (aJ G 3 dm)) → (M1 28 = some (aI G 3 rc)) → (M1 qa = some (cQuestion ad1 qa ao vr)) → (M1 (qa + 1) = some (aI G 6 (nF kn))) → (M1 (qa + 2) = some (aZ G 6 (bF nq))) → (M1 (qa + 3) = some (aI G 6 (nF pn))) → (M1 (qa + 4) = some (aI G 6 (nF av))) → (M1 (qa + 5) = some (aI G 24 (nF ro))) → (M1 (qa + 6) = some (aI G 24 (nF te))) → (M1 qs = some (cQuestion ad1 qs sq su)) → (M1 (qs + 1) = some (aI G 6 (nF kb))) → (M1 (qs + 2) = some (aZ G 6 (bF nb))) → (M1 (qs + 3) = some (aI G 6 (nF pb))) → (M1 (qs + 4) = some (aI G 6 (nF ab))) → (M1 (qs + 5) = some (aI G 24 (nF rbb))) → (M1 (qs + 6) = some (aI G 24 (nF tbb))) → (M1 60 = some (cModel ad1 tw n jn ao vr sn len pt zs bg fw)) → (M1 61 = some (aI G 36 (nF le))) → (M1 62 = some (aI G 36 (nF mo))) → (M1 63 = some (aI G 36 (nF al))) → (M1 64 = some (aZ G 6 (bF ho))) → (M1 65 = some (aI G 120 (nF mk))) → (M1 66 = some (aI G 120 mf)) → (M1 67 = some (aI G 120 mu)) → (M1 68 = some (aI G 121 (nF mz))) → (M1 69 = some (aI G 726 (nF rr))) → (M1 70 = some (aI G 726 (nF ee))) → (M1 71 = some (aI G 40 (nF lst))) → (M1 72 = some (aI G 40 (nF oa))) → (M1 73 = some (aI G 40 (nF ob))) → (M1 74 = some (aI G 120 s74)) → (M1 75 = some (aI G 12 ak)) → (M1 76 = some (aZ G 12 (bF nm))) → (M1 77 = some (aI G 12 (nF ap))) → (M1 78 = some (aI G 48 pr)) → (M1 79 = some (aI G 48 pf)) → (M1 80 = some (aB G 400 tf)) → (M1 81 = some (aI G 5 fv)) → (M1 82 = some (aZ G 384000 (bF tr))) → (M1 83 = some (aI G 3 (oF gv))) → (M1 84 = some (aI G 3 fo)) → (M1 85 = some (aZ G 40 (bF re))) → (M1 86 = some (aZ G 120 (bF us))) → (M1 87 = some (aZ G 120 (bF nx))) → (M1 99 = some (aJ G 1 of)) → Iv G z ad1 M1 s H1 locs1 → lv_has ls1 7 [(0, .ref b), (1, .ref (ad1 0)), (2, .ref (ad1 60)), (3, .ref (ad1 99)), (4, .int (nI i))] → W p l e room_1 s m #[Value.ref b] below meth c H1 locs1 (cz + 10) (sy + 300) Q (F0 m 1333 ls1 [])) : W p l e room_1 s m #[Value.ref b] below meth c H locs cz sy Q (F0 m 553 ls []) := by
  have h16 := fL.1
  have hw1 := w1.1
  have hlst := ji_lst w3
  rcases (in_or 6 (xs (i + 1)) (by omega) : (xs (i + 1) < 0 ∨ ¬ xs (i + 1) < nI 6) ∨ (∃ t : Nat, t < 6 ∧ xs (i + 1) = nI t)) with hc_1 | hc_2
  · skip
    refine lv_aload_n hx hb dL_law_553 rfl (lv_at hl 1 rfl) ?_
    refine lv_aload_n hx hb dL_law_554 rfl (lv_at hl 0 rfl) ?_
    refine lv_iload hx hb dL_law_555 (lv_at hl 4 rfl) ?_
    refine lv_iconst (v := nI 1) hx hb dL_law_557 (by decide) ?_
    refine lv_iadd hx hb dL_law_558 ?_
    refine n_eq (nI_add i 1) ?_
    refine va_sld (A := fr z) hx hb hX hbl hbz hI.S (vp_in_nI (n := i + 1) (by omega) (by omega)) dL_law_559 ?_
    rw [nI_clamp (by omega)]
    refine lv_aload_n hx hb dL_law_560 rfl (lv_at hl 0 rfl) ?_
    refine lv_iload hx hb dL_law_561 (lv_at hl 4 rfl) ?_
    refine lv_iconst (v := nI 2) hx hb dL_law_563 (by decide) ?_
    refine lv_iadd hx hb dL_law_564 ?_
    refine n_eq (nI_add i 2) ?_
    refine va_sld (A := fr z) hx hb hX hbl hbz hI.S (vp_in_nI (n := i + 2) (by omega) (by omega)) dL_law_565 ?_
    rw [nI_clamp (by omega)]
    refine lv_aload_n hx hb dL_law_566 rfl (lv_at hl 0 rfl) ?_
    refine lv_iload hx hb dL_law_567 (lv_at hl 4 rfl) ?_
    refine lv_iconst (v := nI 3) hx hb dL_law_569 (by decide) ?_
    refine lv_iadd hx hb dL_law_570 ?_
    refine n_eq (nI_add i 3) ?_
    refine va_sld (A := fr z) hx hb hX hbl hbz hI.S (vp_in_nI (n := i + 3) (by omega) (by omega)) dL_law_571 ?_
    rw [nI_clamp (by omega)]
    refine lv_aload_n hx hb dL_law_572 rfl (lv_at hl 3 rfl) ?_
    refine k_Ni (vx_runSW (As := [.ref (ad 0), .int (xs (i + 1)), .int (xs (i + 2)), .int (xs (i + 3)), .ref (ad 99)]) (rest := []) ⟨hx, hb, hml, hown, hts⟩ (c_L_put_a l hst G z ad M (qa := qa) (qs := qs) (fw := fw) (x0 := xs (i + 1)) (x1 := xs (i + 2)) (x2 := xs (i + 3)) f_0 hc_1) (vx_cwSW 5 hts (gSW (lwg_of t_616 rfl) (lwg_of t_617 rfl) (lwg_of t_0 rfl) (lwg_of t_618 rfl)) rfl rfl rfl (by decide +kernel) ⟨Nat.le_of_ble_eq_true rfl, Nat.le_of_ble_eq_true rfl⟩) hI.preS rfl rfl hl.1 rfl (lv_room (Nat.le_of_ble_eq_true rfl)) dL_law_573 ⟨(show _ ≤ (601024 : Nat) from by omega), (show _ ≤ (7293034 : Nat) from by omega)⟩) hI (fun r_3 M_5 H_6 locs_7 hp_4 hI => ?_)
    obtain ⟨hr_8, hF_9⟩ := hp_4
    have hm_10 : M_5 0 = some (cStore ad qa qs fw) := by rw [hF_9 0 ]; exact f_0
    have hm_11 : M_5 1 = some (cTape ad len) := by rw [hF_9 1 ]; exact f_1
    have hm_12 : M_5 2 = some (aI G 400 (nF tb)) := by rw [hF_9 2 ]; exact f_2
    have hm_13 : M_5 3 = some (cLaws ad ) := by rw [hF_9 3 ]; exact f_3
    have hm_14 : M_5 4 = some (aI G 36 (nF le)) := by rw [hF_9 4 ]; exact f_4
    have hm_15 : M_5 5 = some (aI G 36 (nF mo)) := by rw [hF_9 5 ]; exact f_5
    have hm_16 : M_5 6 = some (aI G 36 (nF al)) := by rw [hF_9 6 ]; exact f_6
    have hm_17 : M_5 7 = some (aZ G 6 (bF ho)) := by rw [hF_9 7 ]; exact f_7
    have hm_18 : M_5 8 = some (cOnes ad jn) := by rw [hF_9 8 ]; exact f_8
    have hm_19 : M_5 9 = some (aI G 40 (nF hg)) := by rw [hF_9 9 ]; exact f_9
    have hm_20 : M_5 10 = some (aI G 40 (nF lst)) := by rw [hF_9 10 ]; exact f_10
    have hm_21 : M_5 11 = some (aI G 40 (nF jd)) := by rw [hF_9 11 ]; exact f_11
    have hm_22 : M_5 12 = some (cEnds ad 12 s0) := by rw [hF_9 12 ]; exact f_12
    have hm_23 : M_5 13 = some (aI G 6 (nF r0)) := by rw [hF_9 13 ]; exact f_13
    have hm_24 : M_5 14 = some (aI G 6 (oF th)) := by rw [hF_9 14 ]; exact f_14
    have hm_25 : M_5 15 = some (aI G 6 (oF ol)) := by rw [hF_9 15 ]; exact f_15
    have hm_26 : M_5 19 = some (aZ G 120 (bF mm9)) := by rw [hF_9 19 ]; exact f_19
    have hm_27 : M_5 20 = some (aI G 120 ff) := by rw [hF_9 20 ]; exact f_20
    have hm_28 : M_5 21 = some (aI G 120 lq) := by rw [hF_9 21 ]; exact f_21
    have hm_29 : M_5 22 = some (cReader ad ra rb rt rv) := by rw [hF_9 22 ]; exact f_22
    have hm_30 : M_5 23 = some (cMatcher ad qm pz) := by rw [hF_9 23 ]; exact f_23
    have hm_31 : M_5 24 = some (aJ G 2160 sx) := by rw [hF_9 24 ]; exact f_24
    have hm_32 : M_5 25 = some (aI G 6 (nF ft)) := by rw [hF_9 25 ]; exact f_25
    have hm_33 : M_5 26 = some (aJ G 240 rx) := by rw [hF_9 26 ]; exact f_26
    have hm_34 : M_5 27 = some (aJ G 3 dm) := by rw [hF_9 27 ]; exact f_27
    have hm_35 : M_5 28 = some (aI G 3 rc) := by rw [hF_9 28 ]; exact f_28
    have hm_36 : M_5 qa = some (cQuestion ad qa ao vr) := by rw [hF_9 qa ]; exact f_qa
    have hm_37 : M_5 (qa + 1) = some (aI G 6 (nF kn)) := by rw [hF_9 (qa + 1) ]; exact f_qa_1
    have hm_38 : M_5 (qa + 2) = some (aZ G 6 (bF nq)) := by rw [hF_9 (qa + 2) ]; exact f_qa_2
    have hm_39 : M_5 (qa + 3) = some (aI G 6 (nF pn)) := by rw [hF_9 (qa + 3) ]; exact f_qa_3
    have hm_40 : M_5 (qa + 4) = some (aI G 6 (nF av)) := by rw [hF_9 (qa + 4) ]; exact f_qa_4
    have hm_41 : M_5 (qa + 5) = some (aI G 24 (nF ro)) := by rw [hF_9 (qa + 5) ]; exact f_qa_5
    have hm_42 : M_5 (qa + 6) = some (aI G 24 (nF te)) := by rw [hF_9 (qa + 6) ]; exact f_qa_6
    have hm_43 : M_5 qs = some (cQuestion ad qs sq su) := by rw [hF_9 qs ]; exact f_qs
    have hm_44 : M_5 (qs + 1) = some (aI G 6 (nF kb)) := by rw [hF_9 (qs + 1) ]; exact f_qs_1
    have hm_45 : M_5 (qs + 2) = some (aZ G 6 (bF nb)) := by rw [hF_9 (qs + 2) ]; exact f_qs_2
    have hm_46 : M_5 (qs + 3) = some (aI G 6 (nF pb)) := by rw [hF_9 (qs + 3) ]; exact f_qs_3
    have hm_47 : M_5 (qs + 4) = some (aI G 6 (nF ab)) := by rw [hF_9 (qs + 4) ]; exact f_qs_4
    have hm_48 : M_5 (qs + 5) = some (aI G 24 (nF rbb)) := by rw [hF_9 (qs + 5) ]; exact f_qs_5
    have hm_49 : M_5 (qs + 6) = some (aI G 24 (nF tbb)) := by rw [hF_9 (qs + 6) ]; exact f_qs_6
    have hm_50 : M_5 60 = some (cModel ad tw n jn ao vr sn len pt zs bg fw) := by rw [hF_9 60 ]; exact f_60
    have hm_51 : M_5 61 = some (aI G 36 (nF le)) := by rw [hF_9 61 ]; exact f_61
    have hm_52 : M_5 62 = some (aI G 36 (nF mo)) := by rw [hF_9 62 ]; exact f_62
    have hm_53 : M_5 63 = some (aI G 36 (nF al)) := by rw [hF_9 63 ]; exact f_63
    have hm_54 : M_5 64 = some (aZ G 6 (bF ho)) := by rw [hF_9 64 ]; exact f_64
    have hm_55 : M_5 65 = some (aI G 120 (nF mk)) := by rw [hF_9 65 ]; exact f_65
    have hm_56 : M_5 66 = some (aI G 120 mf) := by rw [hF_9 66 ]; exact f_66
    have hm_57 : M_5 67 = some (aI G 120 mu) := by rw [hF_9 67 ]; exact f_67
    have hm_58 : M_5 68 = some (aI G 121 (nF mz)) := by rw [hF_9 68 ]; exact f_68
    have hm_59 : M_5 69 = some (aI G 726 (nF rr)) := by rw [hF_9 69 ]; exact f_69
    have hm_60 : M_5 70 = some (aI G 726 (nF ee)) := by rw [hF_9 70 ]; exact f_70
    have hm_61 : M_5 71 = some (aI G 40 (nF lst)) := by rw [hF_9 71 ]; exact f_71
    have hm_62 : M_5 72 = some (aI G 40 (nF oa)) := by rw [hF_9 72 ]; exact f_72
    have hm_63 : M_5 73 = some (aI G 40 (nF ob)) := by rw [hF_9 73 ]; exact f_73
    have hm_64 : M_5 74 = some (aI G 120 s74) := by rw [hF_9 74 ]; exact f_74
    have hm_65 : M_5 75 = some (aI G 12 ak) := by rw [hF_9 75 ]; exact f_75
    have hm_66 : M_5 76 = some (aZ G 12 (bF nm)) := by rw [hF_9 76 ]; exact f_76
    have hm_67 : M_5 77 = some (aI G 12 (nF ap)) := by rw [hF_9 77 ]; exact f_77
    have hm_68 : M_5 78 = some (aI G 48 pr) := by rw [hF_9 78 ]; exact f_78
    have hm_69 : M_5 79 = some (aI G 48 pf) := by rw [hF_9 79 ]; exact f_79
    have hm_70 : M_5 80 = some (aB G 400 tf) := by rw [hF_9 80 ]; exact f_80
    have hm_71 : M_5 81 = some (aI G 5 fv) := by rw [hF_9 81 ]; exact f_81
    have hm_72 : M_5 82 = some (aZ G 384000 (bF tr)) := by rw [hF_9 82 ]; exact f_82
    have hm_73 : M_5 83 = some (aI G 3 (oF gv)) := by rw [hF_9 83 ]; exact f_83
    have hm_74 : M_5 84 = some (aI G 3 fo) := by rw [hF_9 84 ]; exact f_84
    have hm_75 : M_5 85 = some (aZ G 40 (bF re)) := by rw [hF_9 85 ]; exact f_85
    have hm_76 : M_5 86 = some (aZ G 120 (bF us)) := by rw [hF_9 86 ]; exact f_86
    have hm_77 : M_5 87 = some (aZ G 120 (bF nx)) := by rw [hF_9 87 ]; exact f_87
    have hm_78 : M_5 99 = some (aJ G 1 of) := by rw [hF_9 99 ]; exact f_99
    have hm_79 : M_5 16 = some (cLines ad ) := by rw [hF_9 16 ]; exact h16
    have hL_80 : LSm G ad M_5 n kd fm to sz rl en := fL.keep (fun j hj => hF_9 j )
    rw [hr_8]
    clear f_0 f_1 f_2 f_3 f_4 f_5 f_6 f_7 f_8 f_9 f_10 f_11 f_12 f_13 f_14 f_15 f_19 f_20 f_21 f_22 f_23 f_24 f_25 f_26 f_27 f_28 f_qa f_qa_1 f_qa_2 f_qa_3 f_qa_4 f_qa_5 f_qa_6 f_qs f_qs_1 f_qs_2 f_qs_3 f_qs_4 f_qs_5 f_qs_6 f_60 f_61 f_62 f_63 f_64 f_65 f_66 f_67 f_68 f_69 f_70 f_71 f_72 f_73 f_74 f_75 f_76 f_77 f_78 f_79 f_80 f_81 f_82 f_83 f_84 f_85 f_86 f_87 f_99 h16
    refine lv_istore (lv' := [(5, .int (nI 1)), (0, .ref b), (1, .ref (ad 0)), (2, .ref (ad 60)), (3, .ref (ad 99)), (4, .int (nI i))]) hx hb dL_law_576 hl (by decide) rfl (fun ls hl => ?_)
    refine lv_aload_n hx hb dL_law_578 rfl (lv_at hl 3 rfl) ?_
    refine lv_aload_n hx hb dL_law_579 rfl (lv_at hl 1 rfl) ?_
    refine lv_iload hx hb dL_law_580 (lv_at hl 5 rfl) ?_
    refine lv_iconst (v := nI 1) hx hb dL_law_582 (by decide) ?_
    refine lv_iadd hx hb dL_law_583 ?_
    refine n_eq (nI_add i 1) ?_
    refine va_sld (A := fr z) hx hb hX hbl hbz hI.S (vp_in_nI (n := i + 1) (by omega) (by omega)) dL_law_584 ?_
    rw [nI_clamp (by omega)]
    refine lv_aload_n hx hb dL_law_585 rfl (lv_at hl 1 rfl) ?_
    refine lv_iload hx hb dL_law_586 (lv_at hl 5 rfl) ?_
    refine lv_iconst (v := nI 2) hx hb dL_law_588 (by decide) ?_
    refine lv_iadd hx hb dL_law_589 ?_
    refine n_eq (nI_add i 2) ?_
    refine va_sld (A := fr z) hx hb hX hbl hbz hI.S (vp_in_nI (n := i + 2) (by omega) (by omega)) dL_law_590 ?_
    rw [nI_clamp (by omega)]
    refine lv_aload_n hx hb dL_law_591 rfl (lv_at hl 1 rfl) ?_
    refine lv_iload hx hb dL_law_592 (lv_at hl 5 rfl) ?_
    refine lv_iconst (v := nI 3) hx hb dL_law_594 (by decide) ?_
    refine lv_iadd hx hb dL_law_595 ?_
    refine n_eq (nI_add i 3) ?_
    refine va_sld (A := fr z) hx hb hX hbl hbz hI.S (vp_in_nI (n := i + 3) (by omega) (by omega)) dL_law_596 ?_
    rw [nI_clamp (by omega)]
    refine k_Ni (va_runV (As := [.int (xs (i + 1)), .int (xs (i + 2)), .int (xs (i + 3))]) (rest := []) ⟨hx, hb, hml, hown, hts⟩ (c_X10_put_a l G z ad M_5 (th := tw) (ln := n) (on := jn) (ao := ao) (vr := vr) (sn := sn) (tp := len) (pt := pt) (zs := zs) (bg := bg) (fa := fw) (x0 := xs (i + 1)) (x1 := xs (i + 2)) (x2 := xs (i + 3)) hm_50 hc_1) (cwV 3 hts (gV (lwg_of t_1164 rfl) (lwg_of t_1165 rfl) (lwg_of t_1166 rfl) (lwg_of t_13 rfl) (lwg_of t_1167 rfl)) rfl rfl rfl (by decide +kernel) ⟨Nat.le_of_ble_eq_true rfl, Nat.le_of_ble_eq_true rfl⟩) (hI.preV hm_50 rfl) rfl rfl hl.1 rfl (lv_room (Nat.le_of_ble_eq_true rfl)) dL_law_597 ⟨(show _ ≤ (601024 : Nat) from by omega), (show _ ≤ (7293034 : Nat) from by omega)⟩) hI (fun r_81 M_83 H_84 locs_85 hp_82 hI => ?_)
    obtain ⟨hr_86, hm_87, hF_88⟩ := hp_82
    have hm_89 : M_83 0 = some (cStore ad qa qs fw) := by rw [hF_88 0 (by decide)]; exact hm_10
    have hm_90 : M_83 1 = some (cTape ad len) := by rw [hF_88 1 (by decide)]; exact hm_11
    have hm_91 : M_83 2 = some (aI G 400 (nF tb)) := by rw [hF_88 2 (by decide)]; exact hm_12
    have hm_92 : M_83 3 = some (cLaws ad ) := by rw [hF_88 3 (by decide)]; exact hm_13
    have hm_93 : M_83 4 = some (aI G 36 (nF le)) := by rw [hF_88 4 (by decide)]; exact hm_14
    have hm_94 : M_83 5 = some (aI G 36 (nF mo)) := by rw [hF_88 5 (by decide)]; exact hm_15
    have hm_95 : M_83 6 = some (aI G 36 (nF al)) := by rw [hF_88 6 (by decide)]; exact hm_16
    have hm_96 : M_83 7 = some (aZ G 6 (bF ho)) := by rw [hF_88 7 (by decide)]; exact hm_17
    have hm_97 : M_83 8 = some (cOnes ad jn) := by rw [hF_88 8 (by decide)]; exact hm_18
    have hm_98 : M_83 9 = some (aI G 40 (nF hg)) := by rw [hF_88 9 (by decide)]; exact hm_19
    have hm_99 : M_83 10 = some (aI G 40 (nF lst)) := by rw [hF_88 10 (by decide)]; exact hm_20
    have hm_100 : M_83 11 = some (aI G 40 (nF jd)) := by rw [hF_88 11 (by decide)]; exact hm_21
    have hm_101 : M_83 12 = some (cEnds ad 12 s0) := by rw [hF_88 12 (by decide)]; exact hm_22
    have hm_102 : M_83 13 = some (aI G 6 (nF r0)) := by rw [hF_88 13 (by decide)]; exact hm_23
    have hm_103 : M_83 14 = some (aI G 6 (oF th)) := by rw [hF_88 14 (by decide)]; exact hm_24
    have hm_104 : M_83 15 = some (aI G 6 (oF ol)) := by rw [hF_88 15 (by decide)]; exact hm_25
    have hm_105 : M_83 19 = some (aZ G 120 (bF mm9)) := by rw [hF_88 19 (by decide)]; exact hm_26
    have hm_106 : M_83 20 = some (aI G 120 ff) := by rw [hF_88 20 (by decide)]; exact hm_27
    have hm_107 : M_83 21 = some (aI G 120 lq) := by rw [hF_88 21 (by decide)]; exact hm_28
    have hm_108 : M_83 22 = some (cReader ad ra rb rt rv) := by rw [hF_88 22 (by decide)]; exact hm_29
    have hm_109 : M_83 23 = some (cMatcher ad qm pz) := by rw [hF_88 23 (by decide)]; exact hm_30
    have hm_110 : M_83 24 = some (aJ G 2160 sx) := by rw [hF_88 24 (by decide)]; exact hm_31
    have hm_111 : M_83 25 = some (aI G 6 (nF ft)) := by rw [hF_88 25 (by decide)]; exact hm_32
    have hm_112 : M_83 26 = some (aJ G 240 rx) := by rw [hF_88 26 (by decide)]; exact hm_33
    have hm_113 : M_83 27 = some (aJ G 3 dm) := by rw [hF_88 27 (by decide)]; exact hm_34
    have hm_114 : M_83 28 = some (aI G 3 rc) := by rw [hF_88 28 (by decide)]; exact hm_35
    have hm_115 : M_83 qa = some (cQuestion ad qa ao vr) := by rw [hF_88 qa (by omega)]; exact hm_36
    have hm_116 : M_83 (qa + 1) = some (aI G 6 (nF kn)) := by rw [hF_88 (qa + 1) (by omega)]; exact hm_37
    have hm_117 : M_83 (qa + 2) = some (aZ G 6 (bF nq)) := by rw [hF_88 (qa + 2) (by omega)]; exact hm_38
    have hm_118 : M_83 (qa + 3) = some (aI G 6 (nF pn)) := by rw [hF_88 (qa + 3) (by omega)]; exact hm_39
    have hm_119 : M_83 (qa + 4) = some (aI G 6 (nF av)) := by rw [hF_88 (qa + 4) (by omega)]; exact hm_40
    have hm_120 : M_83 (qa + 5) = some (aI G 24 (nF ro)) := by rw [hF_88 (qa + 5) (by omega)]; exact hm_41
    have hm_121 : M_83 (qa + 6) = some (aI G 24 (nF te)) := by rw [hF_88 (qa + 6) (by omega)]; exact hm_42
    have hm_122 : M_83 qs = some (cQuestion ad qs sq su) := by rw [hF_88 qs (by omega)]; exact hm_43
    have hm_123 : M_83 (qs + 1) = some (aI G 6 (nF kb)) := by rw [hF_88 (qs + 1) (by omega)]; exact hm_44
    have hm_124 : M_83 (qs + 2) = some (aZ G 6 (bF nb)) := by rw [hF_88 (qs + 2) (by omega)]; exact hm_45
    have hm_125 : M_83 (qs + 3) = some (aI G 6 (nF pb)) := by rw [hF_88 (qs + 3) (by omega)]; exact hm_46
    have hm_126 : M_83 (qs + 4) = some (aI G 6 (nF ab)) := by rw [hF_88 (qs + 4) (by omega)]; exact hm_47
    have hm_127 : M_83 (qs + 5) = some (aI G 24 (nF rbb)) := by rw [hF_88 (qs + 5) (by omega)]; exact hm_48
    have hm_128 : M_83 (qs + 6) = some (aI G 24 (nF tbb)) := by rw [hF_88 (qs + 6) (by omega)]; exact hm_49
    have hm_129 : M_83 61 = some (aI G 36 (nF le)) := by rw [hF_88 61 (by decide)]; exact hm_51
    have hm_130 : M_83 62 = some (aI G 36 (nF mo)) := by rw [hF_88 62 (by decide)]; exact hm_52
    have hm_131 : M_83 63 = some (aI G 36 (nF al)) := by rw [hF_88 63 (by decide)]; exact hm_53
    have hm_132 : M_83 64 = some (aZ G 6 (bF ho)) := by rw [hF_88 64 (by decide)]; exact hm_54
    have hm_133 : M_83 65 = some (aI G 120 (nF mk)) := by rw [hF_88 65 (by decide)]; exact hm_55
    have hm_134 : M_83 66 = some (aI G 120 mf) := by rw [hF_88 66 (by decide)]; exact hm_56
    have hm_135 : M_83 67 = some (aI G 120 mu) := by rw [hF_88 67 (by decide)]; exact hm_57
    have hm_136 : M_83 68 = some (aI G 121 (nF mz)) := by rw [hF_88 68 (by decide)]; exact hm_58
    have hm_137 : M_83 69 = some (aI G 726 (nF rr)) := by rw [hF_88 69 (by decide)]; exact hm_59
    have hm_138 : M_83 70 = some (aI G 726 (nF ee)) := by rw [hF_88 70 (by decide)]; exact hm_60
    have hm_139 : M_83 71 = some (aI G 40 (nF lst)) := by rw [hF_88 71 (by decide)]; exact hm_61
    have hm_140 : M_83 72 = some (aI G 40 (nF oa)) := by rw [hF_88 72 (by decide)]; exact hm_62
    have hm_141 : M_83 73 = some (aI G 40 (nF ob)) := by rw [hF_88 73 (by decide)]; exact hm_63
    have hm_142 : M_83 74 = some (aI G 120 s74) := by rw [hF_88 74 (by decide)]; exact hm_64
    have hm_143 : M_83 75 = some (aI G 12 ak) := by rw [hF_88 75 (by decide)]; exact hm_65
    have hm_144 : M_83 76 = some (aZ G 12 (bF nm)) := by rw [hF_88 76 (by decide)]; exact hm_66
    have hm_145 : M_83 77 = some (aI G 12 (nF ap)) := by rw [hF_88 77 (by decide)]; exact hm_67
    have hm_146 : M_83 78 = some (aI G 48 pr) := by rw [hF_88 78 (by decide)]; exact hm_68
    have hm_147 : M_83 79 = some (aI G 48 pf) := by rw [hF_88 79 (by decide)]; exact hm_69
    have hm_148 : M_83 80 = some (aB G 400 tf) := by rw [hF_88 80 (by decide)]; exact hm_70
    have hm_149 : M_83 81 = some (aI G 5 fv) := by rw [hF_88 81 (by decide)]; exact hm_71
    have hm_150 : M_83 82 = some (aZ G 384000 (bF tr)) := by rw [hF_88 82 (by decide)]; exact hm_72
    have hm_151 : M_83 83 = some (aI G 3 (oF gv)) := by rw [hF_88 83 (by decide)]; exact hm_73
    have hm_152 : M_83 84 = some (aI G 3 fo) := by rw [hF_88 84 (by decide)]; exact hm_74
    have hm_153 : M_83 85 = some (aZ G 40 (bF re)) := by rw [hF_88 85 (by decide)]; exact hm_75
    have hm_154 : M_83 86 = some (aZ G 120 (bF us)) := by rw [hF_88 86 (by decide)]; exact hm_76
    have hm_155 : M_83 87 = some (aZ G 120 (bF nx)) := by rw [hF_88 87 (by decide)]; exact hm_77
    have hm_156 : M_83 99 = some (aJ G 1 of) := by rw [hF_88 99 (by decide)]; exact hm_78
    have hm_157 : M_83 16 = some (cLines ad ) := by rw [hF_88 16 (by decide)]; exact hm_79
    have hL_158 : LSm G ad M_83 n kd fm to sz rl en := hL_80.keep (fun j hj => hF_88 j (by omega))
    have hF_159 : ∀ j : Nat, j ≠ 60 → M_83 j = M j := fun j q0 => (hF_88 j q0).trans (hF_9 j )
    rw [hr_86]
    clear hm_10 hm_11 hm_12 hm_13 hm_14 hm_15 hm_16 hm_17 hm_18 hm_19 hm_20 hm_21 hm_22 hm_23 hm_24 hm_25 hm_26 hm_27 hm_28 hm_29 hm_30 hm_31 hm_32 hm_33 hm_34 hm_35 hm_36 hm_37 hm_38 hm_39 hm_40 hm_41 hm_42 hm_43 hm_44 hm_45 hm_46 hm_47 hm_48 hm_49 hm_50 hm_51 hm_52 hm_53 hm_54 hm_55 hm_56 hm_57 hm_58 hm_59 hm_60 hm_61 hm_62 hm_63 hm_64 hm_65 hm_66 hm_67 hm_68 hm_69 hm_70 hm_71 hm_72 hm_73 hm_74 hm_75 hm_76 hm_77 hm_78 hm_79
    refine lv_istore (lv' := [(6, .int (nI 0)), (5, .int (nI 1)), (0, .ref b), (1, .ref (ad 0)), (2, .ref (ad 60)), (3, .ref (ad 99)), (4, .int (nI i))]) hx hb dL_law_600 hl (by decide) rfl (fun ls hl => ?_)
    refine lv_aload_n hx hb dL_law_602 rfl (lv_at hl 4 rfl) ?_
    refine k_Ri (va_runV (As := []) (rest := []) ⟨hx, hb, hml, hown, hts⟩ (c_X10_thrown l G z ad M_83 (th := 1) (ln := n) (on := jn) (ao := ao) (vr := vr) (sn := sn) (tp := len) (pt := pt) (zs := zs) (bg := bg) (fa := fw) hm_87) (cwV 0 hts (gV (lwg_of t_997 rfl) (lwg_of t_998 rfl) (lwg_of t_999 rfl) (lwg_of t_13 rfl) (lwg_of t_1000 rfl)) rfl rfl rfl (by decide +kernel) ⟨Nat.le_of_ble_eq_true rfl, Nat.le_of_ble_eq_true rfl⟩) (hI.preV hm_87 rfl) rfl rfl hl.1 rfl (lv_room (Nat.le_of_ble_eq_true rfl)) dL_law_603 ⟨(show _ ≤ (601024 : Nat) from by omega), (show _ ≤ (7293034 : Nat) from by omega)⟩) (fun _ h => h) (fun r_160 hp_161 => ?_)
    rw [hp_161]
    refine lv_iload hx hb dL_law_606 (lv_at hl 1 rfl) ?_
    refine lv_icmp_eq (tgt := 613) hx hb dL_law_608 (by decide) (fun c_162 => ?_) (fun c_162 => ?_)
    · -- 608: nI 1 eq
      refine lv_iload hx hb dL_law_613 (lv_at hl 1 rfl) ?_
      refine lv_if_ne (tgt := 630) hx hb dL_law_615 (by decide) (fun c_163 => ?_) (fun c_163 => ?_)
      · -- 615: nI 1 ne
        refine lv_goto (tgt := 1333) hx hb dL_law_630 (by decide) ?_
        refine W.widen (k := cz + 10) (n := sy + 300) (by omega) (by omega) ?_
        exact kk ad M_83 H_84 locs_85 ls n kd fm to sz rl en qa qs fw len tb le mo al ho jn hg lst jd s0 r0 th ol e0 mm9 ff lq ra rb rt rv qm pz sx ft rx dm rc ao vr kn nq pn av ro te sq su kb nb pb ab rbb tbb 1 sn pt zs bg mk mf mu mz rr ee oa ob s74 ak nm ap pr pf tf fv tr gv fo re us nx of hL_158 w1 w2 w3 w4 w5 w6 w7 w8 w9 w10 w11 w12 w13 w14 w15 w16 w17 w18 w19 w20 w21 w22 w23 w24 w25 w26 w27 w28 w29 (fun h9 => by rw [hF_159 17 (by omega), hF_159 18 (by omega)]; exact w30 h9) (by rw [hF_159 29 (by omega)]; exact w31) (fun j9 h9 => by rw [hF_159 j9 (by omega)]; exact w32 j9 h9) hm_89 hm_90 hm_91 hm_92 hm_93 hm_94 hm_95 hm_96 hm_97 hm_98 hm_99 hm_100 hm_101 hm_102 hm_103 hm_104 hm_105 hm_106 hm_107 hm_108 hm_109 hm_110 hm_111 hm_112 hm_113 hm_114 hm_115 hm_116 hm_117 hm_118 hm_119 hm_120 hm_121 hm_122 hm_123 hm_124 hm_125 hm_126 hm_127 hm_128 hm_87 hm_129 hm_130 hm_131 hm_132 hm_133 hm_134 hm_135 hm_136 hm_137 hm_138 hm_139 hm_140 hm_141 hm_142 hm_143 hm_144 hm_145 hm_146 hm_147 hm_148 hm_149 hm_150 hm_151 hm_152 hm_153 hm_154 hm_155 hm_156 hI (lv_sub hl [2, 3, 4, 5, 6] rfl)
      · -- 615: nI 1 eq
        exact absurd c_163 (by decide)
    · -- 608: nI 1 ne
      exact absurd (by decide) c_162
  · skip
    refine lv_aload_n hx hb dL_law_553 rfl (lv_at hl 1 rfl) ?_
    obtain ⟨t1, ht1, et1⟩ := hc_2
    rcases (rngD (xs (i + 2)) (xs (i + 3)) : (xs (i + 2) < 0 ∨ xs (i + 3) < xs (i + 2) ∨ nI 1000 < xs (i + 3)) ∨ (∃ a b : Nat, (a ≤ b ∧ b ≤ 1000) ∧ xs (i + 2) = nI a ∧ xs (i + 3) = nI b)) with hc_164 | hc_165
    · skip
      refine lv_aload_n hx hb dL_law_554 rfl (lv_at hl 0 rfl) ?_
      refine lv_iload hx hb dL_law_555 (lv_at hl 4 rfl) ?_
      refine lv_iconst (v := nI 1) hx hb dL_law_557 (by decide) ?_
      refine lv_iadd hx hb dL_law_558 ?_
      refine n_eq (nI_add i 1) ?_
      refine va_sld (A := fr z) hx hb hX hbl hbz hI.S (vp_in_nI (n := i + 1) (by omega) (by omega)) dL_law_559 ?_
      rw [nI_clamp (by omega)]
      refine n_eq (show _ = nI t1 from et1) ?_
      refine lv_aload_n hx hb dL_law_560 rfl (lv_at hl 0 rfl) ?_
      refine lv_iload hx hb dL_law_561 (lv_at hl 4 rfl) ?_
      refine lv_iconst (v := nI 2) hx hb dL_law_563 (by decide) ?_
      refine lv_iadd hx hb dL_law_564 ?_
      refine n_eq (nI_add i 2) ?_
      refine va_sld (A := fr z) hx hb hX hbl hbz hI.S (vp_in_nI (n := i + 2) (by omega) (by omega)) dL_law_565 ?_
      rw [nI_clamp (by omega)]
      refine lv_aload_n hx hb dL_law_566 rfl (lv_at hl 0 rfl) ?_
      refine lv_iload hx hb dL_law_567 (lv_at hl 4 rfl) ?_
      refine lv_iconst (v := nI 3) hx hb dL_law_569 (by decide) ?_
      refine lv_iadd hx hb dL_law_570 ?_
      refine n_eq (nI_add i 3) ?_
      refine va_sld (A := fr z) hx hb hX hbl hbz hI.S (vp_in_nI (n := i + 3) (by omega) (by omega)) dL_law_571 ?_
      rw [nI_clamp (by omega)]
      refine lv_aload_n hx hb dL_law_572 rfl (lv_at hl 3 rfl) ?_
      refine k_Ni (vx_runSW (As := [.ref (ad 0), .int (nI t1), .int (xs (i + 2)), .int (xs (i + 3)), .ref (ad 99)]) (rest := []) ⟨hx, hb, hml, hown, hts⟩ (c_L_put_b l hst G z ad M (qa := qa) (qs := qs) (fw := fw) (kd := t1) (x1 := xs (i + 2)) (x2 := xs (i + 3)) f_0 ht1 hc_164) (vx_cwSW 5 hts (gSW (lwg_of t_616 rfl) (lwg_of t_617 rfl) (lwg_of t_0 rfl) (lwg_of t_618 rfl)) rfl rfl rfl (by decide +kernel) ⟨Nat.le_of_ble_eq_true rfl, Nat.le_of_ble_eq_true rfl⟩) hI.preS rfl rfl hl.1 rfl (lv_room (Nat.le_of_ble_eq_true rfl)) dL_law_573 ⟨(show _ ≤ (601024 : Nat) from by omega), (show _ ≤ (7293034 : Nat) from by omega)⟩) hI (fun r_166 M_168 H_169 locs_170 hp_167 hI => ?_)
      obtain ⟨hr_171, hF_172⟩ := hp_167
      have hm_173 : M_168 0 = some (cStore ad qa qs fw) := by rw [hF_172 0 ]; exact f_0
      have hm_174 : M_168 1 = some (cTape ad len) := by rw [hF_172 1 ]; exact f_1
      have hm_175 : M_168 2 = some (aI G 400 (nF tb)) := by rw [hF_172 2 ]; exact f_2
      have hm_176 : M_168 3 = some (cLaws ad ) := by rw [hF_172 3 ]; exact f_3
      have hm_177 : M_168 4 = some (aI G 36 (nF le)) := by rw [hF_172 4 ]; exact f_4
      have hm_178 : M_168 5 = some (aI G 36 (nF mo)) := by rw [hF_172 5 ]; exact f_5
      have hm_179 : M_168 6 = some (aI G 36 (nF al)) := by rw [hF_172 6 ]; exact f_6
      have hm_180 : M_168 7 = some (aZ G 6 (bF ho)) := by rw [hF_172 7 ]; exact f_7
      have hm_181 : M_168 8 = some (cOnes ad jn) := by rw [hF_172 8 ]; exact f_8
      have hm_182 : M_168 9 = some (aI G 40 (nF hg)) := by rw [hF_172 9 ]; exact f_9
      have hm_183 : M_168 10 = some (aI G 40 (nF lst)) := by rw [hF_172 10 ]; exact f_10
      have hm_184 : M_168 11 = some (aI G 40 (nF jd)) := by rw [hF_172 11 ]; exact f_11
      have hm_185 : M_168 12 = some (cEnds ad 12 s0) := by rw [hF_172 12 ]; exact f_12
      have hm_186 : M_168 13 = some (aI G 6 (nF r0)) := by rw [hF_172 13 ]; exact f_13
      have hm_187 : M_168 14 = some (aI G 6 (oF th)) := by rw [hF_172 14 ]; exact f_14
      have hm_188 : M_168 15 = some (aI G 6 (oF ol)) := by rw [hF_172 15 ]; exact f_15
      have hm_189 : M_168 19 = some (aZ G 120 (bF mm9)) := by rw [hF_172 19 ]; exact f_19
      have hm_190 : M_168 20 = some (aI G 120 ff) := by rw [hF_172 20 ]; exact f_20
      have hm_191 : M_168 21 = some (aI G 120 lq) := by rw [hF_172 21 ]; exact f_21
      have hm_192 : M_168 22 = some (cReader ad ra rb rt rv) := by rw [hF_172 22 ]; exact f_22
      have hm_193 : M_168 23 = some (cMatcher ad qm pz) := by rw [hF_172 23 ]; exact f_23
      have hm_194 : M_168 24 = some (aJ G 2160 sx) := by rw [hF_172 24 ]; exact f_24
      have hm_195 : M_168 25 = some (aI G 6 (nF ft)) := by rw [hF_172 25 ]; exact f_25
      have hm_196 : M_168 26 = some (aJ G 240 rx) := by rw [hF_172 26 ]; exact f_26
      have hm_197 : M_168 27 = some (aJ G 3 dm) := by rw [hF_172 27 ]; exact f_27
      have hm_198 : M_168 28 = some (aI G 3 rc) := by rw [hF_172 28 ]; exact f_28
      have hm_199 : M_168 qa = some (cQuestion ad qa ao vr) := by rw [hF_172 qa ]; exact f_qa
      have hm_200 : M_168 (qa + 1) = some (aI G 6 (nF kn)) := by rw [hF_172 (qa + 1) ]; exact f_qa_1
      have hm_201 : M_168 (qa + 2) = some (aZ G 6 (bF nq)) := by rw [hF_172 (qa + 2) ]; exact f_qa_2
      have hm_202 : M_168 (qa + 3) = some (aI G 6 (nF pn)) := by rw [hF_172 (qa + 3) ]; exact f_qa_3
      have hm_203 : M_168 (qa + 4) = some (aI G 6 (nF av)) := by rw [hF_172 (qa + 4) ]; exact f_qa_4
      have hm_204 : M_168 (qa + 5) = some (aI G 24 (nF ro)) := by rw [hF_172 (qa + 5) ]; exact f_qa_5
      have hm_205 : M_168 (qa + 6) = some (aI G 24 (nF te)) := by rw [hF_172 (qa + 6) ]; exact f_qa_6
      have hm_206 : M_168 qs = some (cQuestion ad qs sq su) := by rw [hF_172 qs ]; exact f_qs
      have hm_207 : M_168 (qs + 1) = some (aI G 6 (nF kb)) := by rw [hF_172 (qs + 1) ]; exact f_qs_1
      have hm_208 : M_168 (qs + 2) = some (aZ G 6 (bF nb)) := by rw [hF_172 (qs + 2) ]; exact f_qs_2
      have hm_209 : M_168 (qs + 3) = some (aI G 6 (nF pb)) := by rw [hF_172 (qs + 3) ]; exact f_qs_3
      have hm_210 : M_168 (qs + 4) = some (aI G 6 (nF ab)) := by rw [hF_172 (qs + 4) ]; exact f_qs_4
      have hm_211 : M_168 (qs + 5) = some (aI G 24 (nF rbb)) := by rw [hF_172 (qs + 5) ]; exact f_qs_5
      have hm_212 : M_168 (qs + 6) = some (aI G 24 (nF tbb)) := by rw [hF_172 (qs + 6) ]; exact f_qs_6
      have hm_213 : M_168 60 = some (cModel ad tw n jn ao vr sn len pt zs bg fw) := by rw [hF_172 60 ]; exact f_60
      have hm_214 : M_168 61 = some (aI G 36 (nF le)) := by rw [hF_172 61 ]; exact f_61
      have hm_215 : M_168 62 = some (aI G 36 (nF mo)) := by rw [hF_172 62 ]; exact f_62
      have hm_216 : M_168 63 = some (aI G 36 (nF al)) := by rw [hF_172 63 ]; exact f_63
      have hm_217 : M_168 64 = some (aZ G 6 (bF ho)) := by rw [hF_172 64 ]; exact f_64
      have hm_218 : M_168 65 = some (aI G 120 (nF mk)) := by rw [hF_172 65 ]; exact f_65
      have hm_219 : M_168 66 = some (aI G 120 mf) := by rw [hF_172 66 ]; exact f_66
      have hm_220 : M_168 67 = some (aI G 120 mu) := by rw [hF_172 67 ]; exact f_67
      have hm_221 : M_168 68 = some (aI G 121 (nF mz)) := by rw [hF_172 68 ]; exact f_68
      have hm_222 : M_168 69 = some (aI G 726 (nF rr)) := by rw [hF_172 69 ]; exact f_69
      have hm_223 : M_168 70 = some (aI G 726 (nF ee)) := by rw [hF_172 70 ]; exact f_70
      have hm_224 : M_168 71 = some (aI G 40 (nF lst)) := by rw [hF_172 71 ]; exact f_71
      have hm_225 : M_168 72 = some (aI G 40 (nF oa)) := by rw [hF_172 72 ]; exact f_72
      have hm_226 : M_168 73 = some (aI G 40 (nF ob)) := by rw [hF_172 73 ]; exact f_73
      have hm_227 : M_168 74 = some (aI G 120 s74) := by rw [hF_172 74 ]; exact f_74
      have hm_228 : M_168 75 = some (aI G 12 ak) := by rw [hF_172 75 ]; exact f_75
      have hm_229 : M_168 76 = some (aZ G 12 (bF nm)) := by rw [hF_172 76 ]; exact f_76
      have hm_230 : M_168 77 = some (aI G 12 (nF ap)) := by rw [hF_172 77 ]; exact f_77
      have hm_231 : M_168 78 = some (aI G 48 pr) := by rw [hF_172 78 ]; exact f_78
      have hm_232 : M_168 79 = some (aI G 48 pf) := by rw [hF_172 79 ]; exact f_79
      have hm_233 : M_168 80 = some (aB G 400 tf) := by rw [hF_172 80 ]; exact f_80
      have hm_234 : M_168 81 = some (aI G 5 fv) := by rw [hF_172 81 ]; exact f_81
      have hm_235 : M_168 82 = some (aZ G 384000 (bF tr)) := by rw [hF_172 82 ]; exact f_82
      have hm_236 : M_168 83 = some (aI G 3 (oF gv)) := by rw [hF_172 83 ]; exact f_83
      have hm_237 : M_168 84 = some (aI G 3 fo) := by rw [hF_172 84 ]; exact f_84
      have hm_238 : M_168 85 = some (aZ G 40 (bF re)) := by rw [hF_172 85 ]; exact f_85
      have hm_239 : M_168 86 = some (aZ G 120 (bF us)) := by rw [hF_172 86 ]; exact f_86
      have hm_240 : M_168 87 = some (aZ G 120 (bF nx)) := by rw [hF_172 87 ]; exact f_87
      have hm_241 : M_168 99 = some (aJ G 1 of) := by rw [hF_172 99 ]; exact f_99
      have hm_242 : M_168 16 = some (cLines ad ) := by rw [hF_172 16 ]; exact h16
      have hL_243 : LSm G ad M_168 n kd fm to sz rl en := fL.keep (fun j hj => hF_172 j )
      rw [hr_171]
      clear f_0 f_1 f_2 f_3 f_4 f_5 f_6 f_7 f_8 f_9 f_10 f_11 f_12 f_13 f_14 f_15 f_19 f_20 f_21 f_22 f_23 f_24 f_25 f_26 f_27 f_28 f_qa f_qa_1 f_qa_2 f_qa_3 f_qa_4 f_qa_5 f_qa_6 f_qs f_qs_1 f_qs_2 f_qs_3 f_qs_4 f_qs_5 f_qs_6 f_60 f_61 f_62 f_63 f_64 f_65 f_66 f_67 f_68 f_69 f_70 f_71 f_72 f_73 f_74 f_75 f_76 f_77 f_78 f_79 f_80 f_81 f_82 f_83 f_84 f_85 f_86 f_87 f_99 h16
      refine lv_istore (lv' := [(5, .int (nI 2)), (0, .ref b), (1, .ref (ad 0)), (2, .ref (ad 60)), (3, .ref (ad 99)), (4, .int (nI i))]) hx hb dL_law_576 hl (by decide) rfl (fun ls hl => ?_)
      refine lv_aload_n hx hb dL_law_578 rfl (lv_at hl 3 rfl) ?_
      refine lv_aload_n hx hb dL_law_579 rfl (lv_at hl 1 rfl) ?_
      refine lv_iload hx hb dL_law_580 (lv_at hl 5 rfl) ?_
      refine lv_iconst (v := nI 1) hx hb dL_law_582 (by decide) ?_
      refine lv_iadd hx hb dL_law_583 ?_
      refine n_eq (nI_add i 1) ?_
      refine va_sld (A := fr z) hx hb hX hbl hbz hI.S (vp_in_nI (n := i + 1) (by omega) (by omega)) dL_law_584 ?_
      rw [nI_clamp (by omega)]
      refine n_eq (show _ = nI t1 from et1) ?_
      refine lv_aload_n hx hb dL_law_585 rfl (lv_at hl 1 rfl) ?_
      refine lv_iload hx hb dL_law_586 (lv_at hl 5 rfl) ?_
      refine lv_iconst (v := nI 2) hx hb dL_law_588 (by decide) ?_
      refine lv_iadd hx hb dL_law_589 ?_
      refine n_eq (nI_add i 2) ?_
      refine va_sld (A := fr z) hx hb hX hbl hbz hI.S (vp_in_nI (n := i + 2) (by omega) (by omega)) dL_law_590 ?_
      rw [nI_clamp (by omega)]
      refine lv_aload_n hx hb dL_law_591 rfl (lv_at hl 1 rfl) ?_
      refine lv_iload hx hb dL_law_592 (lv_at hl 5 rfl) ?_
      refine lv_iconst (v := nI 3) hx hb dL_law_594 (by decide) ?_
      refine lv_iadd hx hb dL_law_595 ?_
      refine n_eq (nI_add i 3) ?_
      refine va_sld (A := fr z) hx hb hX hbl hbz hI.S (vp_in_nI (n := i + 3) (by omega) (by omega)) dL_law_596 ?_
      rw [nI_clamp (by omega)]
      refine k_Ni (va_runV (As := [.int (nI t1), .int (xs (i + 2)), .int (xs (i + 3))]) (rest := []) ⟨hx, hb, hml, hown, hts⟩ (c_X10_put_b l G z ad M_168 (th := tw) (ln := n) (on := jn) (ao := ao) (vr := vr) (sn := sn) (tp := len) (pt := pt) (zs := zs) (bg := bg) (fa := fw) (kd := t1) (x1 := xs (i + 2)) (x2 := xs (i + 3)) hm_213 ht1 hc_164) (cwV 3 hts (gV (lwg_of t_1164 rfl) (lwg_of t_1165 rfl) (lwg_of t_1166 rfl) (lwg_of t_13 rfl) (lwg_of t_1167 rfl)) rfl rfl rfl (by decide +kernel) ⟨Nat.le_of_ble_eq_true rfl, Nat.le_of_ble_eq_true rfl⟩) (hI.preV hm_213 rfl) rfl rfl hl.1 rfl (lv_room (Nat.le_of_ble_eq_true rfl)) dL_law_597 ⟨(show _ ≤ (601024 : Nat) from by omega), (show _ ≤ (7293034 : Nat) from by omega)⟩) hI (fun r_244 M_246 H_247 locs_248 hp_245 hI => ?_)
      obtain ⟨hr_249, hm_250, hF_251⟩ := hp_245
      have hm_252 : M_246 0 = some (cStore ad qa qs fw) := by rw [hF_251 0 (by decide)]; exact hm_173
      have hm_253 : M_246 1 = some (cTape ad len) := by rw [hF_251 1 (by decide)]; exact hm_174
      have hm_254 : M_246 2 = some (aI G 400 (nF tb)) := by rw [hF_251 2 (by decide)]; exact hm_175
      have hm_255 : M_246 3 = some (cLaws ad ) := by rw [hF_251 3 (by decide)]; exact hm_176
      have hm_256 : M_246 4 = some (aI G 36 (nF le)) := by rw [hF_251 4 (by decide)]; exact hm_177
      have hm_257 : M_246 5 = some (aI G 36 (nF mo)) := by rw [hF_251 5 (by decide)]; exact hm_178
      have hm_258 : M_246 6 = some (aI G 36 (nF al)) := by rw [hF_251 6 (by decide)]; exact hm_179
      have hm_259 : M_246 7 = some (aZ G 6 (bF ho)) := by rw [hF_251 7 (by decide)]; exact hm_180
      have hm_260 : M_246 8 = some (cOnes ad jn) := by rw [hF_251 8 (by decide)]; exact hm_181
      have hm_261 : M_246 9 = some (aI G 40 (nF hg)) := by rw [hF_251 9 (by decide)]; exact hm_182
      have hm_262 : M_246 10 = some (aI G 40 (nF lst)) := by rw [hF_251 10 (by decide)]; exact hm_183
      have hm_263 : M_246 11 = some (aI G 40 (nF jd)) := by rw [hF_251 11 (by decide)]; exact hm_184
      have hm_264 : M_246 12 = some (cEnds ad 12 s0) := by rw [hF_251 12 (by decide)]; exact hm_185
      have hm_265 : M_246 13 = some (aI G 6 (nF r0)) := by rw [hF_251 13 (by decide)]; exact hm_186
      have hm_266 : M_246 14 = some (aI G 6 (oF th)) := by rw [hF_251 14 (by decide)]; exact hm_187
      have hm_267 : M_246 15 = some (aI G 6 (oF ol)) := by rw [hF_251 15 (by decide)]; exact hm_188
      have hm_268 : M_246 19 = some (aZ G 120 (bF mm9)) := by rw [hF_251 19 (by decide)]; exact hm_189
      have hm_269 : M_246 20 = some (aI G 120 ff) := by rw [hF_251 20 (by decide)]; exact hm_190
      have hm_270 : M_246 21 = some (aI G 120 lq) := by rw [hF_251 21 (by decide)]; exact hm_191
      have hm_271 : M_246 22 = some (cReader ad ra rb rt rv) := by rw [hF_251 22 (by decide)]; exact hm_192
      have hm_272 : M_246 23 = some (cMatcher ad qm pz) := by rw [hF_251 23 (by decide)]; exact hm_193
      have hm_273 : M_246 24 = some (aJ G 2160 sx) := by rw [hF_251 24 (by decide)]; exact hm_194
      have hm_274 : M_246 25 = some (aI G 6 (nF ft)) := by rw [hF_251 25 (by decide)]; exact hm_195
      have hm_275 : M_246 26 = some (aJ G 240 rx) := by rw [hF_251 26 (by decide)]; exact hm_196
      have hm_276 : M_246 27 = some (aJ G 3 dm) := by rw [hF_251 27 (by decide)]; exact hm_197
      have hm_277 : M_246 28 = some (aI G 3 rc) := by rw [hF_251 28 (by decide)]; exact hm_198
      have hm_278 : M_246 qa = some (cQuestion ad qa ao vr) := by rw [hF_251 qa (by omega)]; exact hm_199
      have hm_279 : M_246 (qa + 1) = some (aI G 6 (nF kn)) := by rw [hF_251 (qa + 1) (by omega)]; exact hm_200
      have hm_280 : M_246 (qa + 2) = some (aZ G 6 (bF nq)) := by rw [hF_251 (qa + 2) (by omega)]; exact hm_201
      have hm_281 : M_246 (qa + 3) = some (aI G 6 (nF pn)) := by rw [hF_251 (qa + 3) (by omega)]; exact hm_202
      have hm_282 : M_246 (qa + 4) = some (aI G 6 (nF av)) := by rw [hF_251 (qa + 4) (by omega)]; exact hm_203
      have hm_283 : M_246 (qa + 5) = some (aI G 24 (nF ro)) := by rw [hF_251 (qa + 5) (by omega)]; exact hm_204
      have hm_284 : M_246 (qa + 6) = some (aI G 24 (nF te)) := by rw [hF_251 (qa + 6) (by omega)]; exact hm_205
      have hm_285 : M_246 qs = some (cQuestion ad qs sq su) := by rw [hF_251 qs (by omega)]; exact hm_206
      have hm_286 : M_246 (qs + 1) = some (aI G 6 (nF kb)) := by rw [hF_251 (qs + 1) (by omega)]; exact hm_207
      have hm_287 : M_246 (qs + 2) = some (aZ G 6 (bF nb)) := by rw [hF_251 (qs + 2) (by omega)]; exact hm_208
      have hm_288 : M_246 (qs + 3) = some (aI G 6 (nF pb)) := by rw [hF_251 (qs + 3) (by omega)]; exact hm_209
      have hm_289 : M_246 (qs + 4) = some (aI G 6 (nF ab)) := by rw [hF_251 (qs + 4) (by omega)]; exact hm_210
      have hm_290 : M_246 (qs + 5) = some (aI G 24 (nF rbb)) := by rw [hF_251 (qs + 5) (by omega)]; exact hm_211
      have hm_291 : M_246 (qs + 6) = some (aI G 24 (nF tbb)) := by rw [hF_251 (qs + 6) (by omega)]; exact hm_212
      have hm_292 : M_246 61 = some (aI G 36 (nF le)) := by rw [hF_251 61 (by decide)]; exact hm_214
      have hm_293 : M_246 62 = some (aI G 36 (nF mo)) := by rw [hF_251 62 (by decide)]; exact hm_215
      have hm_294 : M_246 63 = some (aI G 36 (nF al)) := by rw [hF_251 63 (by decide)]; exact hm_216
      have hm_295 : M_246 64 = some (aZ G 6 (bF ho)) := by rw [hF_251 64 (by decide)]; exact hm_217
      have hm_296 : M_246 65 = some (aI G 120 (nF mk)) := by rw [hF_251 65 (by decide)]; exact hm_218
      have hm_297 : M_246 66 = some (aI G 120 mf) := by rw [hF_251 66 (by decide)]; exact hm_219
      have hm_298 : M_246 67 = some (aI G 120 mu) := by rw [hF_251 67 (by decide)]; exact hm_220
      have hm_299 : M_246 68 = some (aI G 121 (nF mz)) := by rw [hF_251 68 (by decide)]; exact hm_221
      have hm_300 : M_246 69 = some (aI G 726 (nF rr)) := by rw [hF_251 69 (by decide)]; exact hm_222
      have hm_301 : M_246 70 = some (aI G 726 (nF ee)) := by rw [hF_251 70 (by decide)]; exact hm_223
      have hm_302 : M_246 71 = some (aI G 40 (nF lst)) := by rw [hF_251 71 (by decide)]; exact hm_224
      have hm_303 : M_246 72 = some (aI G 40 (nF oa)) := by rw [hF_251 72 (by decide)]; exact hm_225
      have hm_304 : M_246 73 = some (aI G 40 (nF ob)) := by rw [hF_251 73 (by decide)]; exact hm_226
      have hm_305 : M_246 74 = some (aI G 120 s74) := by rw [hF_251 74 (by decide)]; exact hm_227
      have hm_306 : M_246 75 = some (aI G 12 ak) := by rw [hF_251 75 (by decide)]; exact hm_228
      have hm_307 : M_246 76 = some (aZ G 12 (bF nm)) := by rw [hF_251 76 (by decide)]; exact hm_229
      have hm_308 : M_246 77 = some (aI G 12 (nF ap)) := by rw [hF_251 77 (by decide)]; exact hm_230
      have hm_309 : M_246 78 = some (aI G 48 pr) := by rw [hF_251 78 (by decide)]; exact hm_231
      have hm_310 : M_246 79 = some (aI G 48 pf) := by rw [hF_251 79 (by decide)]; exact hm_232
      have hm_311 : M_246 80 = some (aB G 400 tf) := by rw [hF_251 80 (by decide)]; exact hm_233
      have hm_312 : M_246 81 = some (aI G 5 fv) := by rw [hF_251 81 (by decide)]; exact hm_234
      have hm_313 : M_246 82 = some (aZ G 384000 (bF tr)) := by rw [hF_251 82 (by decide)]; exact hm_235
      have hm_314 : M_246 83 = some (aI G 3 (oF gv)) := by rw [hF_251 83 (by decide)]; exact hm_236
      have hm_315 : M_246 84 = some (aI G 3 fo) := by rw [hF_251 84 (by decide)]; exact hm_237
      have hm_316 : M_246 85 = some (aZ G 40 (bF re)) := by rw [hF_251 85 (by decide)]; exact hm_238
      have hm_317 : M_246 86 = some (aZ G 120 (bF us)) := by rw [hF_251 86 (by decide)]; exact hm_239
      have hm_318 : M_246 87 = some (aZ G 120 (bF nx)) := by rw [hF_251 87 (by decide)]; exact hm_240
      have hm_319 : M_246 99 = some (aJ G 1 of) := by rw [hF_251 99 (by decide)]; exact hm_241
      have hm_320 : M_246 16 = some (cLines ad ) := by rw [hF_251 16 (by decide)]; exact hm_242
      have hL_321 : LSm G ad M_246 n kd fm to sz rl en := hL_243.keep (fun j hj => hF_251 j (by omega))
      have hF_322 : ∀ j : Nat, j ≠ 60 → M_246 j = M j := fun j q0 => (hF_251 j q0).trans (hF_172 j )
      rw [hr_249]
      clear hm_173 hm_174 hm_175 hm_176 hm_177 hm_178 hm_179 hm_180 hm_181 hm_182 hm_183 hm_184 hm_185 hm_186 hm_187 hm_188 hm_189 hm_190 hm_191 hm_192 hm_193 hm_194 hm_195 hm_196 hm_197 hm_198 hm_199 hm_200 hm_201 hm_202 hm_203 hm_204 hm_205 hm_206 hm_207 hm_208 hm_209 hm_210 hm_211 hm_212 hm_213 hm_214 hm_215 hm_216 hm_217 hm_218 hm_219 hm_220 hm_221 hm_222 hm_223 hm_224 hm_225 hm_226 hm_227 hm_228 hm_229 hm_230 hm_231 hm_232 hm_233 hm_234 hm_235 hm_236 hm_237 hm_238 hm_239 hm_240 hm_241 hm_242
      refine lv_istore (lv' := [(6, .int (nI 0)), (5, .int (nI 2)), (0, .ref b), (1, .ref (ad 0)), (2, .ref (ad 60)), (3, .ref (ad 99)), (4, .int (nI i))]) hx hb dL_law_600 hl (by decide) rfl (fun ls hl => ?_)
      refine lv_aload_n hx hb dL_law_602 rfl (lv_at hl 4 rfl) ?_
      refine k_Ri (va_runV (As := []) (rest := []) ⟨hx, hb, hml, hown, hts⟩ (c_X10_thrown l G z ad M_246 (th := 2) (ln := n) (on := jn) (ao := ao) (vr := vr) (sn := sn) (tp := len) (pt := pt) (zs := zs) (bg := bg) (fa := fw) hm_250) (cwV 0 hts (gV (lwg_of t_997 rfl) (lwg_of t_998 rfl) (lwg_of t_999 rfl) (lwg_of t_13 rfl) (lwg_of t_1000 rfl)) rfl rfl rfl (by decide +kernel) ⟨Nat.le_of_ble_eq_true rfl, Nat.le_of_ble_eq_true rfl⟩) (hI.preV hm_250 rfl) rfl rfl hl.1 rfl (lv_room (Nat.le_of_ble_eq_true rfl)) dL_law_603 ⟨(show _ ≤ (601024 : Nat) from by omega), (show _ ≤ (7293034 : Nat) from by omega)⟩) (fun _ h => h) (fun r_323 hp_324 => ?_)
      rw [hp_324]
      refine lv_iload hx hb dL_law_606 (lv_at hl 1 rfl) ?_
      refine lv_icmp_eq (tgt := 613) hx hb dL_law_608 (by decide) (fun c_325 => ?_) (fun c_325 => ?_)
      · -- 608: nI 2 eq
        refine lv_iload hx hb dL_law_613 (lv_at hl 1 rfl) ?_
        refine lv_if_ne (tgt := 630) hx hb dL_law_615 (by decide) (fun c_326 => ?_) (fun c_326 => ?_)
        · -- 615: nI 2 ne
          refine lv_goto (tgt := 1333) hx hb dL_law_630 (by decide) ?_
          refine W.widen (k := cz + 10) (n := sy + 300) (by omega) (by omega) ?_
          exact kk ad M_246 H_247 locs_248 ls n kd fm to sz rl en qa qs fw len tb le mo al ho jn hg lst jd s0 r0 th ol e0 mm9 ff lq ra rb rt rv qm pz sx ft rx dm rc ao vr kn nq pn av ro te sq su kb nb pb ab rbb tbb 2 sn pt zs bg mk mf mu mz rr ee oa ob s74 ak nm ap pr pf tf fv tr gv fo re us nx of hL_321 w1 w2 w3 w4 w5 w6 w7 w8 w9 w10 w11 w12 w13 w14 w15 w16 w17 w18 w19 w20 w21 w22 w23 w24 w25 w26 w27 w28 w29 (fun h9 => by rw [hF_322 17 (by omega), hF_322 18 (by omega)]; exact w30 h9) (by rw [hF_322 29 (by omega)]; exact w31) (fun j9 h9 => by rw [hF_322 j9 (by omega)]; exact w32 j9 h9) hm_252 hm_253 hm_254 hm_255 hm_256 hm_257 hm_258 hm_259 hm_260 hm_261 hm_262 hm_263 hm_264 hm_265 hm_266 hm_267 hm_268 hm_269 hm_270 hm_271 hm_272 hm_273 hm_274 hm_275 hm_276 hm_277 hm_278 hm_279 hm_280 hm_281 hm_282 hm_283 hm_284 hm_285 hm_286 hm_287 hm_288 hm_289 hm_290 hm_291 hm_250 hm_292 hm_293 hm_294 hm_295 hm_296 hm_297 hm_298 hm_299 hm_300 hm_301 hm_302 hm_303 hm_304 hm_305 hm_306 hm_307 hm_308 hm_309 hm_310 hm_311 hm_312 hm_313 hm_314 hm_315 hm_316 hm_317 hm_318 hm_319 hI (lv_sub hl [2, 3, 4, 5, 6] rfl)
        · -- 615: nI 2 eq
          exact absurd c_326 (by decide)
      · -- 608: nI 2 ne
        exact absurd (by decide) c_325
    · skip
      refine lv_aload_n hx hb dL_law_554 rfl (lv_at hl 0 rfl) ?_
      obtain ⟨a2, a3, h23, e2, e3⟩ := hc_165
      rcases (by omega : s0 = 0 ∨ 0 < s0) with hc_327 | hc_328
      · skip
        refine lv_iload hx hb dL_law_555 (lv_at hl 4 rfl) ?_
        refine lv_iconst (v := nI 1) hx hb dL_law_557 (by decide) ?_
        refine lv_iadd hx hb dL_law_558 ?_
        refine n_eq (nI_add i 1) ?_
        refine va_sld (A := fr z) hx hb hX hbl hbz hI.S (vp_in_nI (n := i + 1) (by omega) (by omega)) dL_law_559 ?_
        rw [nI_clamp (by omega)]
        refine n_eq (show _ = nI t1 from et1) ?_
        refine lv_aload_n hx hb dL_law_560 rfl (lv_at hl 0 rfl) ?_
        refine lv_iload hx hb dL_law_561 (lv_at hl 4 rfl) ?_
        refine lv_iconst (v := nI 2) hx hb dL_law_563 (by decide) ?_
        refine lv_iadd hx hb dL_law_564 ?_
        refine n_eq (nI_add i 2) ?_
        refine va_sld (A := fr z) hx hb hX hbl hbz hI.S (vp_in_nI (n := i + 2) (by omega) (by omega)) dL_law_565 ?_
        rw [nI_clamp (by omega)]
        refine n_eq (show _ = nI a2 from e2) ?_
        refine lv_aload_n hx hb dL_law_566 rfl (lv_at hl 0 rfl) ?_
        refine lv_iload hx hb dL_law_567 (lv_at hl 4 rfl) ?_
        refine lv_iconst (v := nI 3) hx hb dL_law_569 (by decide) ?_
        refine lv_iadd hx hb dL_law_570 ?_
        refine n_eq (nI_add i 3) ?_
        refine va_sld (A := fr z) hx hb hX hbl hbz hI.S (vp_in_nI (n := i + 3) (by omega) (by omega)) dL_law_571 ?_
        rw [nI_clamp (by omega)]
        refine n_eq (show _ = nI a3 from e3) ?_
        refine lv_aload_n hx hb dL_law_572 rfl (lv_at hl 3 rfl) ?_
        refine k_Ni (vx_runSW (As := [.ref (ad 0), .int (nI t1), .int (nI a2), .int (nI a3), .ref (ad 99)]) (rest := []) ⟨hx, hb, hml, hown, hts⟩ (c_L_put_c l hst G z ad M (qa := qa) (qs := qs) (fw := fw) (s0 := s0) (kd := t1) (f := a2) (t := a3) f_0 f_12 ht1 h23 hc_327) (vx_cwSW 5 hts (gSW (lwg_of t_616 rfl) (lwg_of t_617 rfl) (lwg_of t_0 rfl) (lwg_of t_618 rfl)) rfl rfl rfl (by decide +kernel) ⟨Nat.le_of_ble_eq_true rfl, Nat.le_of_ble_eq_true rfl⟩) hI.preS rfl rfl hl.1 rfl (lv_room (Nat.le_of_ble_eq_true rfl)) dL_law_573 ⟨(show _ ≤ (601024 : Nat) from by omega), (show _ ≤ (7293034 : Nat) from by omega)⟩) hI (fun r_329 M_331 H_332 locs_333 hp_330 hI => ?_)
        obtain ⟨hr_334, hF_335⟩ := hp_330
        have hm_336 : M_331 0 = some (cStore ad qa qs fw) := by rw [hF_335 0 ]; exact f_0
        have hm_337 : M_331 1 = some (cTape ad len) := by rw [hF_335 1 ]; exact f_1
        have hm_338 : M_331 2 = some (aI G 400 (nF tb)) := by rw [hF_335 2 ]; exact f_2
        have hm_339 : M_331 3 = some (cLaws ad ) := by rw [hF_335 3 ]; exact f_3
        have hm_340 : M_331 4 = some (aI G 36 (nF le)) := by rw [hF_335 4 ]; exact f_4
        have hm_341 : M_331 5 = some (aI G 36 (nF mo)) := by rw [hF_335 5 ]; exact f_5
        have hm_342 : M_331 6 = some (aI G 36 (nF al)) := by rw [hF_335 6 ]; exact f_6
        have hm_343 : M_331 7 = some (aZ G 6 (bF ho)) := by rw [hF_335 7 ]; exact f_7
        have hm_344 : M_331 8 = some (cOnes ad jn) := by rw [hF_335 8 ]; exact f_8
        have hm_345 : M_331 9 = some (aI G 40 (nF hg)) := by rw [hF_335 9 ]; exact f_9
        have hm_346 : M_331 10 = some (aI G 40 (nF lst)) := by rw [hF_335 10 ]; exact f_10
        have hm_347 : M_331 11 = some (aI G 40 (nF jd)) := by rw [hF_335 11 ]; exact f_11
        have hm_348 : M_331 12 = some (cEnds ad 12 s0) := by rw [hF_335 12 ]; exact f_12
        have hm_349 : M_331 13 = some (aI G 6 (nF r0)) := by rw [hF_335 13 ]; exact f_13
        have hm_350 : M_331 14 = some (aI G 6 (oF th)) := by rw [hF_335 14 ]; exact f_14
        have hm_351 : M_331 15 = some (aI G 6 (oF ol)) := by rw [hF_335 15 ]; exact f_15
        have hm_352 : M_331 19 = some (aZ G 120 (bF mm9)) := by rw [hF_335 19 ]; exact f_19
        have hm_353 : M_331 20 = some (aI G 120 ff) := by rw [hF_335 20 ]; exact f_20
        have hm_354 : M_331 21 = some (aI G 120 lq) := by rw [hF_335 21 ]; exact f_21
        have hm_355 : M_331 22 = some (cReader ad ra rb rt rv) := by rw [hF_335 22 ]; exact f_22
        have hm_356 : M_331 23 = some (cMatcher ad qm pz) := by rw [hF_335 23 ]; exact f_23
        have hm_357 : M_331 24 = some (aJ G 2160 sx) := by rw [hF_335 24 ]; exact f_24
        have hm_358 : M_331 25 = some (aI G 6 (nF ft)) := by rw [hF_335 25 ]; exact f_25
        have hm_359 : M_331 26 = some (aJ G 240 rx) := by rw [hF_335 26 ]; exact f_26
        have hm_360 : M_331 27 = some (aJ G 3 dm) := by rw [hF_335 27 ]; exact f_27
        have hm_361 : M_331 28 = some (aI G 3 rc) := by rw [hF_335 28 ]; exact f_28
        have hm_362 : M_331 qa = some (cQuestion ad qa ao vr) := by rw [hF_335 qa ]; exact f_qa
        have hm_363 : M_331 (qa + 1) = some (aI G 6 (nF kn)) := by rw [hF_335 (qa + 1) ]; exact f_qa_1
        have hm_364 : M_331 (qa + 2) = some (aZ G 6 (bF nq)) := by rw [hF_335 (qa + 2) ]; exact f_qa_2
        have hm_365 : M_331 (qa + 3) = some (aI G 6 (nF pn)) := by rw [hF_335 (qa + 3) ]; exact f_qa_3
        have hm_366 : M_331 (qa + 4) = some (aI G 6 (nF av)) := by rw [hF_335 (qa + 4) ]; exact f_qa_4
        have hm_367 : M_331 (qa + 5) = some (aI G 24 (nF ro)) := by rw [hF_335 (qa + 5) ]; exact f_qa_5
        have hm_368 : M_331 (qa + 6) = some (aI G 24 (nF te)) := by rw [hF_335 (qa + 6) ]; exact f_qa_6
        have hm_369 : M_331 qs = some (cQuestion ad qs sq su) := by rw [hF_335 qs ]; exact f_qs
        have hm_370 : M_331 (qs + 1) = some (aI G 6 (nF kb)) := by rw [hF_335 (qs + 1) ]; exact f_qs_1
        have hm_371 : M_331 (qs + 2) = some (aZ G 6 (bF nb)) := by rw [hF_335 (qs + 2) ]; exact f_qs_2
        have hm_372 : M_331 (qs + 3) = some (aI G 6 (nF pb)) := by rw [hF_335 (qs + 3) ]; exact f_qs_3
        have hm_373 : M_331 (qs + 4) = some (aI G 6 (nF ab)) := by rw [hF_335 (qs + 4) ]; exact f_qs_4
        have hm_374 : M_331 (qs + 5) = some (aI G 24 (nF rbb)) := by rw [hF_335 (qs + 5) ]; exact f_qs_5
        have hm_375 : M_331 (qs + 6) = some (aI G 24 (nF tbb)) := by rw [hF_335 (qs + 6) ]; exact f_qs_6
        have hm_376 : M_331 60 = some (cModel ad tw n jn ao vr sn len pt zs bg fw) := by rw [hF_335 60 ]; exact f_60
        have hm_377 : M_331 61 = some (aI G 36 (nF le)) := by rw [hF_335 61 ]; exact f_61
        have hm_378 : M_331 62 = some (aI G 36 (nF mo)) := by rw [hF_335 62 ]; exact f_62
        have hm_379 : M_331 63 = some (aI G 36 (nF al)) := by rw [hF_335 63 ]; exact f_63
        have hm_380 : M_331 64 = some (aZ G 6 (bF ho)) := by rw [hF_335 64 ]; exact f_64
        have hm_381 : M_331 65 = some (aI G 120 (nF mk)) := by rw [hF_335 65 ]; exact f_65
        have hm_382 : M_331 66 = some (aI G 120 mf) := by rw [hF_335 66 ]; exact f_66
        have hm_383 : M_331 67 = some (aI G 120 mu) := by rw [hF_335 67 ]; exact f_67
        have hm_384 : M_331 68 = some (aI G 121 (nF mz)) := by rw [hF_335 68 ]; exact f_68
        have hm_385 : M_331 69 = some (aI G 726 (nF rr)) := by rw [hF_335 69 ]; exact f_69
        have hm_386 : M_331 70 = some (aI G 726 (nF ee)) := by rw [hF_335 70 ]; exact f_70
        have hm_387 : M_331 71 = some (aI G 40 (nF lst)) := by rw [hF_335 71 ]; exact f_71
        have hm_388 : M_331 72 = some (aI G 40 (nF oa)) := by rw [hF_335 72 ]; exact f_72
        have hm_389 : M_331 73 = some (aI G 40 (nF ob)) := by rw [hF_335 73 ]; exact f_73
        have hm_390 : M_331 74 = some (aI G 120 s74) := by rw [hF_335 74 ]; exact f_74
        have hm_391 : M_331 75 = some (aI G 12 ak) := by rw [hF_335 75 ]; exact f_75
        have hm_392 : M_331 76 = some (aZ G 12 (bF nm)) := by rw [hF_335 76 ]; exact f_76
        have hm_393 : M_331 77 = some (aI G 12 (nF ap)) := by rw [hF_335 77 ]; exact f_77
        have hm_394 : M_331 78 = some (aI G 48 pr) := by rw [hF_335 78 ]; exact f_78
        have hm_395 : M_331 79 = some (aI G 48 pf) := by rw [hF_335 79 ]; exact f_79
        have hm_396 : M_331 80 = some (aB G 400 tf) := by rw [hF_335 80 ]; exact f_80
        have hm_397 : M_331 81 = some (aI G 5 fv) := by rw [hF_335 81 ]; exact f_81
        have hm_398 : M_331 82 = some (aZ G 384000 (bF tr)) := by rw [hF_335 82 ]; exact f_82
        have hm_399 : M_331 83 = some (aI G 3 (oF gv)) := by rw [hF_335 83 ]; exact f_83
        have hm_400 : M_331 84 = some (aI G 3 fo) := by rw [hF_335 84 ]; exact f_84
        have hm_401 : M_331 85 = some (aZ G 40 (bF re)) := by rw [hF_335 85 ]; exact f_85
        have hm_402 : M_331 86 = some (aZ G 120 (bF us)) := by rw [hF_335 86 ]; exact f_86
        have hm_403 : M_331 87 = some (aZ G 120 (bF nx)) := by rw [hF_335 87 ]; exact f_87
        have hm_404 : M_331 99 = some (aJ G 1 of) := by rw [hF_335 99 ]; exact f_99
        have hm_405 : M_331 16 = some (cLines ad ) := by rw [hF_335 16 ]; exact h16
        have hL_406 : LSm G ad M_331 n kd fm to sz rl en := fL.keep (fun j hj => hF_335 j )
        rw [hr_334]
        clear f_0 f_1 f_2 f_3 f_4 f_5 f_6 f_7 f_8 f_9 f_10 f_11 f_12 f_13 f_14 f_15 f_19 f_20 f_21 f_22 f_23 f_24 f_25 f_26 f_27 f_28 f_qa f_qa_1 f_qa_2 f_qa_3 f_qa_4 f_qa_5 f_qa_6 f_qs f_qs_1 f_qs_2 f_qs_3 f_qs_4 f_qs_5 f_qs_6 f_60 f_61 f_62 f_63 f_64 f_65 f_66 f_67 f_68 f_69 f_70 f_71 f_72 f_73 f_74 f_75 f_76 f_77 f_78 f_79 f_80 f_81 f_82 f_83 f_84 f_85 f_86 f_87 f_99 h16
        refine lv_istore (lv' := [(5, .int (nI 2)), (0, .ref b), (1, .ref (ad 0)), (2, .ref (ad 60)), (3, .ref (ad 99)), (4, .int (nI i))]) hx hb dL_law_576 hl (by decide) rfl (fun ls hl => ?_)
        refine lv_aload_n hx hb dL_law_578 rfl (lv_at hl 3 rfl) ?_
        refine lv_aload_n hx hb dL_law_579 rfl (lv_at hl 1 rfl) ?_
        refine lv_iload hx hb dL_law_580 (lv_at hl 5 rfl) ?_
        refine lv_iconst (v := nI 1) hx hb dL_law_582 (by decide) ?_
        refine lv_iadd hx hb dL_law_583 ?_
        refine n_eq (nI_add i 1) ?_
        refine va_sld (A := fr z) hx hb hX hbl hbz hI.S (vp_in_nI (n := i + 1) (by omega) (by omega)) dL_law_584 ?_
        rw [nI_clamp (by omega)]
        refine n_eq (show _ = nI t1 from et1) ?_
        refine lv_aload_n hx hb dL_law_585 rfl (lv_at hl 1 rfl) ?_
        refine lv_iload hx hb dL_law_586 (lv_at hl 5 rfl) ?_
        refine lv_iconst (v := nI 2) hx hb dL_law_588 (by decide) ?_
        refine lv_iadd hx hb dL_law_589 ?_
        refine n_eq (nI_add i 2) ?_
        refine va_sld (A := fr z) hx hb hX hbl hbz hI.S (vp_in_nI (n := i + 2) (by omega) (by omega)) dL_law_590 ?_
        rw [nI_clamp (by omega)]
        refine n_eq (show _ = nI a2 from e2) ?_
        refine lv_aload_n hx hb dL_law_591 rfl (lv_at hl 1 rfl) ?_
        refine lv_iload hx hb dL_law_592 (lv_at hl 5 rfl) ?_
        refine lv_iconst (v := nI 3) hx hb dL_law_594 (by decide) ?_
        refine lv_iadd hx hb dL_law_595 ?_
        refine n_eq (nI_add i 3) ?_
        refine va_sld (A := fr z) hx hb hX hbl hbz hI.S (vp_in_nI (n := i + 3) (by omega) (by omega)) dL_law_596 ?_
        rw [nI_clamp (by omega)]
        refine n_eq (show _ = nI a3 from e3) ?_
        refine k_Ni (va_runV (As := [.int (nI t1), .int (nI a2), .int (nI a3)]) (rest := []) ⟨hx, hb, hml, hown, hts⟩ (c_X10_put_c l G z ad M_331 (th := tw) (ln := n) (on := jn) (ao := ao) (vr := vr) (sn := sn) (tp := len) (pt := pt) (zs := zs) (bg := bg) (fa := fw) (mz := mz) (kd := t1) (f := a2) (g := a3) hm_376 hm_384 ht1 h23 (by omega)) (cwV 3 hts (gV (lwg_of t_1164 rfl) (lwg_of t_1165 rfl) (lwg_of t_1166 rfl) (lwg_of t_13 rfl) (lwg_of t_1167 rfl)) rfl rfl rfl (by decide +kernel) ⟨Nat.le_of_ble_eq_true rfl, Nat.le_of_ble_eq_true rfl⟩) (hI.preV hm_376 rfl) rfl rfl hl.1 rfl (lv_room (Nat.le_of_ble_eq_true rfl)) dL_law_597 ⟨(show _ ≤ (601024 : Nat) from by omega), (show _ ≤ (7293034 : Nat) from by omega)⟩) hI (fun r_407 M_409 H_410 locs_411 hp_408 hI => ?_)
        obtain ⟨hr_412, hm_413, hF_414⟩ := hp_408
        have hm_415 : M_409 0 = some (cStore ad qa qs fw) := by rw [hF_414 0 (by decide)]; exact hm_336
        have hm_416 : M_409 1 = some (cTape ad len) := by rw [hF_414 1 (by decide)]; exact hm_337
        have hm_417 : M_409 2 = some (aI G 400 (nF tb)) := by rw [hF_414 2 (by decide)]; exact hm_338
        have hm_418 : M_409 3 = some (cLaws ad ) := by rw [hF_414 3 (by decide)]; exact hm_339
        have hm_419 : M_409 4 = some (aI G 36 (nF le)) := by rw [hF_414 4 (by decide)]; exact hm_340
        have hm_420 : M_409 5 = some (aI G 36 (nF mo)) := by rw [hF_414 5 (by decide)]; exact hm_341
        have hm_421 : M_409 6 = some (aI G 36 (nF al)) := by rw [hF_414 6 (by decide)]; exact hm_342
        have hm_422 : M_409 7 = some (aZ G 6 (bF ho)) := by rw [hF_414 7 (by decide)]; exact hm_343
        have hm_423 : M_409 8 = some (cOnes ad jn) := by rw [hF_414 8 (by decide)]; exact hm_344
        have hm_424 : M_409 9 = some (aI G 40 (nF hg)) := by rw [hF_414 9 (by decide)]; exact hm_345
        have hm_425 : M_409 10 = some (aI G 40 (nF lst)) := by rw [hF_414 10 (by decide)]; exact hm_346
        have hm_426 : M_409 11 = some (aI G 40 (nF jd)) := by rw [hF_414 11 (by decide)]; exact hm_347
        have hm_427 : M_409 12 = some (cEnds ad 12 s0) := by rw [hF_414 12 (by decide)]; exact hm_348
        have hm_428 : M_409 13 = some (aI G 6 (nF r0)) := by rw [hF_414 13 (by decide)]; exact hm_349
        have hm_429 : M_409 14 = some (aI G 6 (oF th)) := by rw [hF_414 14 (by decide)]; exact hm_350
        have hm_430 : M_409 15 = some (aI G 6 (oF ol)) := by rw [hF_414 15 (by decide)]; exact hm_351
        have hm_431 : M_409 19 = some (aZ G 120 (bF mm9)) := by rw [hF_414 19 (by decide)]; exact hm_352
        have hm_432 : M_409 20 = some (aI G 120 ff) := by rw [hF_414 20 (by decide)]; exact hm_353
        have hm_433 : M_409 21 = some (aI G 120 lq) := by rw [hF_414 21 (by decide)]; exact hm_354
        have hm_434 : M_409 22 = some (cReader ad ra rb rt rv) := by rw [hF_414 22 (by decide)]; exact hm_355
        have hm_435 : M_409 23 = some (cMatcher ad qm pz) := by rw [hF_414 23 (by decide)]; exact hm_356
        have hm_436 : M_409 24 = some (aJ G 2160 sx) := by rw [hF_414 24 (by decide)]; exact hm_357
        have hm_437 : M_409 25 = some (aI G 6 (nF ft)) := by rw [hF_414 25 (by decide)]; exact hm_358
        have hm_438 : M_409 26 = some (aJ G 240 rx) := by rw [hF_414 26 (by decide)]; exact hm_359
        have hm_439 : M_409 27 = some (aJ G 3 dm) := by rw [hF_414 27 (by decide)]; exact hm_360
        have hm_440 : M_409 28 = some (aI G 3 rc) := by rw [hF_414 28 (by decide)]; exact hm_361
        have hm_441 : M_409 qa = some (cQuestion ad qa ao vr) := by rw [hF_414 qa (by omega)]; exact hm_362
        have hm_442 : M_409 (qa + 1) = some (aI G 6 (nF kn)) := by rw [hF_414 (qa + 1) (by omega)]; exact hm_363
        have hm_443 : M_409 (qa + 2) = some (aZ G 6 (bF nq)) := by rw [hF_414 (qa + 2) (by omega)]; exact hm_364
        have hm_444 : M_409 (qa + 3) = some (aI G 6 (nF pn)) := by rw [hF_414 (qa + 3) (by omega)]; exact hm_365
        have hm_445 : M_409 (qa + 4) = some (aI G 6 (nF av)) := by rw [hF_414 (qa + 4) (by omega)]; exact hm_366
        have hm_446 : M_409 (qa + 5) = some (aI G 24 (nF ro)) := by rw [hF_414 (qa + 5) (by omega)]; exact hm_367
        have hm_447 : M_409 (qa + 6) = some (aI G 24 (nF te)) := by rw [hF_414 (qa + 6) (by omega)]; exact hm_368
        have hm_448 : M_409 qs = some (cQuestion ad qs sq su) := by rw [hF_414 qs (by omega)]; exact hm_369
        have hm_449 : M_409 (qs + 1) = some (aI G 6 (nF kb)) := by rw [hF_414 (qs + 1) (by omega)]; exact hm_370
        have hm_450 : M_409 (qs + 2) = some (aZ G 6 (bF nb)) := by rw [hF_414 (qs + 2) (by omega)]; exact hm_371
        have hm_451 : M_409 (qs + 3) = some (aI G 6 (nF pb)) := by rw [hF_414 (qs + 3) (by omega)]; exact hm_372
        have hm_452 : M_409 (qs + 4) = some (aI G 6 (nF ab)) := by rw [hF_414 (qs + 4) (by omega)]; exact hm_373
        have hm_453 : M_409 (qs + 5) = some (aI G 24 (nF rbb)) := by rw [hF_414 (qs + 5) (by omega)]; exact hm_374
        have hm_454 : M_409 (qs + 6) = some (aI G 24 (nF tbb)) := by rw [hF_414 (qs + 6) (by omega)]; exact hm_375
        have hm_455 : M_409 61 = some (aI G 36 (nF le)) := by rw [hF_414 61 (by decide)]; exact hm_377
        have hm_456 : M_409 62 = some (aI G 36 (nF mo)) := by rw [hF_414 62 (by decide)]; exact hm_378
        have hm_457 : M_409 63 = some (aI G 36 (nF al)) := by rw [hF_414 63 (by decide)]; exact hm_379
        have hm_458 : M_409 64 = some (aZ G 6 (bF ho)) := by rw [hF_414 64 (by decide)]; exact hm_380
        have hm_459 : M_409 65 = some (aI G 120 (nF mk)) := by rw [hF_414 65 (by decide)]; exact hm_381
        have hm_460 : M_409 66 = some (aI G 120 mf) := by rw [hF_414 66 (by decide)]; exact hm_382
        have hm_461 : M_409 67 = some (aI G 120 mu) := by rw [hF_414 67 (by decide)]; exact hm_383
        have hm_462 : M_409 68 = some (aI G 121 (nF mz)) := by rw [hF_414 68 (by decide)]; exact hm_384
        have hm_463 : M_409 69 = some (aI G 726 (nF rr)) := by rw [hF_414 69 (by decide)]; exact hm_385
        have hm_464 : M_409 70 = some (aI G 726 (nF ee)) := by rw [hF_414 70 (by decide)]; exact hm_386
        have hm_465 : M_409 71 = some (aI G 40 (nF lst)) := by rw [hF_414 71 (by decide)]; exact hm_387
        have hm_466 : M_409 72 = some (aI G 40 (nF oa)) := by rw [hF_414 72 (by decide)]; exact hm_388
        have hm_467 : M_409 73 = some (aI G 40 (nF ob)) := by rw [hF_414 73 (by decide)]; exact hm_389
        have hm_468 : M_409 74 = some (aI G 120 s74) := by rw [hF_414 74 (by decide)]; exact hm_390
        have hm_469 : M_409 75 = some (aI G 12 ak) := by rw [hF_414 75 (by decide)]; exact hm_391
        have hm_470 : M_409 76 = some (aZ G 12 (bF nm)) := by rw [hF_414 76 (by decide)]; exact hm_392
        have hm_471 : M_409 77 = some (aI G 12 (nF ap)) := by rw [hF_414 77 (by decide)]; exact hm_393
        have hm_472 : M_409 78 = some (aI G 48 pr) := by rw [hF_414 78 (by decide)]; exact hm_394
        have hm_473 : M_409 79 = some (aI G 48 pf) := by rw [hF_414 79 (by decide)]; exact hm_395
        have hm_474 : M_409 80 = some (aB G 400 tf) := by rw [hF_414 80 (by decide)]; exact hm_396
        have hm_475 : M_409 81 = some (aI G 5 fv) := by rw [hF_414 81 (by decide)]; exact hm_397
        have hm_476 : M_409 82 = some (aZ G 384000 (bF tr)) := by rw [hF_414 82 (by decide)]; exact hm_398
        have hm_477 : M_409 83 = some (aI G 3 (oF gv)) := by rw [hF_414 83 (by decide)]; exact hm_399
        have hm_478 : M_409 84 = some (aI G 3 fo) := by rw [hF_414 84 (by decide)]; exact hm_400
        have hm_479 : M_409 85 = some (aZ G 40 (bF re)) := by rw [hF_414 85 (by decide)]; exact hm_401
        have hm_480 : M_409 86 = some (aZ G 120 (bF us)) := by rw [hF_414 86 (by decide)]; exact hm_402
        have hm_481 : M_409 87 = some (aZ G 120 (bF nx)) := by rw [hF_414 87 (by decide)]; exact hm_403
        have hm_482 : M_409 99 = some (aJ G 1 of) := by rw [hF_414 99 (by decide)]; exact hm_404
        have hm_483 : M_409 16 = some (cLines ad ) := by rw [hF_414 16 (by decide)]; exact hm_405
        have hL_484 : LSm G ad M_409 n kd fm to sz rl en := hL_406.keep (fun j hj => hF_414 j (by omega))
        have hF_485 : ∀ j : Nat, j ≠ 60 → M_409 j = M j := fun j q0 => (hF_414 j q0).trans (hF_335 j )
        rw [hr_412]
        clear hm_336 hm_337 hm_338 hm_339 hm_340 hm_341 hm_342 hm_343 hm_344 hm_345 hm_346 hm_347 hm_348 hm_349 hm_350 hm_351 hm_352 hm_353 hm_354 hm_355 hm_356 hm_357 hm_358 hm_359 hm_360 hm_361 hm_362 hm_363 hm_364 hm_365 hm_366 hm_367 hm_368 hm_369 hm_370 hm_371 hm_372 hm_373 hm_374 hm_375 hm_376 hm_377 hm_378 hm_379 hm_380 hm_381 hm_382 hm_383 hm_384 hm_385 hm_386 hm_387 hm_388 hm_389 hm_390 hm_391 hm_392 hm_393 hm_394 hm_395 hm_396 hm_397 hm_398 hm_399 hm_400 hm_401 hm_402 hm_403 hm_404 hm_405
        refine lv_istore (lv' := [(6, .int (nI 0)), (5, .int (nI 2)), (0, .ref b), (1, .ref (ad 0)), (2, .ref (ad 60)), (3, .ref (ad 99)), (4, .int (nI i))]) hx hb dL_law_600 hl (by decide) rfl (fun ls hl => ?_)
        refine lv_aload_n hx hb dL_law_602 rfl (lv_at hl 4 rfl) ?_
        refine k_Ri (va_runV (As := []) (rest := []) ⟨hx, hb, hml, hown, hts⟩ (c_X10_thrown l G z ad M_409 (th := 2) (ln := n) (on := jn) (ao := ao) (vr := vr) (sn := sn) (tp := len) (pt := pt) (zs := zs) (bg := bg) (fa := fw) hm_413) (cwV 0 hts (gV (lwg_of t_997 rfl) (lwg_of t_998 rfl) (lwg_of t_999 rfl) (lwg_of t_13 rfl) (lwg_of t_1000 rfl)) rfl rfl rfl (by decide +kernel) ⟨Nat.le_of_ble_eq_true rfl, Nat.le_of_ble_eq_true rfl⟩) (hI.preV hm_413 rfl) rfl rfl hl.1 rfl (lv_room (Nat.le_of_ble_eq_true rfl)) dL_law_603 ⟨(show _ ≤ (601024 : Nat) from by omega), (show _ ≤ (7293034 : Nat) from by omega)⟩) (fun _ h => h) (fun r_486 hp_487 => ?_)
        rw [hp_487]
        refine lv_iload hx hb dL_law_606 (lv_at hl 1 rfl) ?_
        refine lv_icmp_eq (tgt := 613) hx hb dL_law_608 (by decide) (fun c_488 => ?_) (fun c_488 => ?_)
        · -- 608: nI 2 eq
          refine lv_iload hx hb dL_law_613 (lv_at hl 1 rfl) ?_
          refine lv_if_ne (tgt := 630) hx hb dL_law_615 (by decide) (fun c_489 => ?_) (fun c_489 => ?_)
          · -- 615: nI 2 ne
            refine lv_goto (tgt := 1333) hx hb dL_law_630 (by decide) ?_
            refine W.widen (k := cz + 10) (n := sy + 300) (by omega) (by omega) ?_
            exact kk ad M_409 H_410 locs_411 ls n kd fm to sz rl en qa qs fw len tb le mo al ho jn hg lst jd s0 r0 th ol e0 mm9 ff lq ra rb rt rv qm pz sx ft rx dm rc ao vr kn nq pn av ro te sq su kb nb pb ab rbb tbb 2 sn pt zs bg mk mf mu mz rr ee oa ob s74 ak nm ap pr pf tf fv tr gv fo re us nx of hL_484 w1 w2 w3 w4 w5 w6 w7 w8 w9 w10 w11 w12 w13 w14 w15 w16 w17 w18 w19 w20 w21 w22 w23 w24 w25 w26 w27 w28 w29 (fun h9 => by rw [hF_485 17 (by omega), hF_485 18 (by omega)]; exact w30 h9) (by rw [hF_485 29 (by omega)]; exact w31) (fun j9 h9 => by rw [hF_485 j9 (by omega)]; exact w32 j9 h9) hm_415 hm_416 hm_417 hm_418 hm_419 hm_420 hm_421 hm_422 hm_423 hm_424 hm_425 hm_426 hm_427 hm_428 hm_429 hm_430 hm_431 hm_432 hm_433 hm_434 hm_435 hm_436 hm_437 hm_438 hm_439 hm_440 hm_441 hm_442 hm_443 hm_444 hm_445 hm_446 hm_447 hm_448 hm_449 hm_450 hm_451 hm_452 hm_453 hm_454 hm_413 hm_455 hm_456 hm_457 hm_458 hm_459 hm_460 hm_461 hm_462 hm_463 hm_464 hm_465 hm_466 hm_467 hm_468 hm_469 hm_470 hm_471 hm_472 hm_473 hm_474 hm_475 hm_476 hm_477 hm_478 hm_479 hm_480 hm_481 hm_482 hI (lv_sub hl [2, 3, 4, 5, 6] rfl)
          · -- 615: nI 2 eq
            exact absurd c_489 (by decide)
        · -- 608: nI 2 ne
          exact absurd (by decide) c_488
      · skip
        refine lv_iload hx hb dL_law_555 (lv_at hl 4 rfl) ?_
        rcases (by omega : n = 120 ∨ n < 120) with hc_490 | hc_491
        · skip
          refine lv_iconst (v := nI 1) hx hb dL_law_557 (by decide) ?_
          refine lv_iadd hx hb dL_law_558 ?_
          refine n_eq (nI_add i 1) ?_
          refine va_sld (A := fr z) hx hb hX hbl hbz hI.S (vp_in_nI (n := i + 1) (by omega) (by omega)) dL_law_559 ?_
          rw [nI_clamp (by omega)]
          refine n_eq (show _ = nI t1 from et1) ?_
          refine lv_aload_n hx hb dL_law_560 rfl (lv_at hl 0 rfl) ?_
          refine lv_iload hx hb dL_law_561 (lv_at hl 4 rfl) ?_
          refine lv_iconst (v := nI 2) hx hb dL_law_563 (by decide) ?_
          refine lv_iadd hx hb dL_law_564 ?_
          refine n_eq (nI_add i 2) ?_
          refine va_sld (A := fr z) hx hb hX hbl hbz hI.S (vp_in_nI (n := i + 2) (by omega) (by omega)) dL_law_565 ?_
          rw [nI_clamp (by omega)]
          refine n_eq (show _ = nI a2 from e2) ?_
          refine lv_aload_n hx hb dL_law_566 rfl (lv_at hl 0 rfl) ?_
          refine lv_iload hx hb dL_law_567 (lv_at hl 4 rfl) ?_
          refine lv_iconst (v := nI 3) hx hb dL_law_569 (by decide) ?_
          refine lv_iadd hx hb dL_law_570 ?_
          refine n_eq (nI_add i 3) ?_
          refine va_sld (A := fr z) hx hb hX hbl hbz hI.S (vp_in_nI (n := i + 3) (by omega) (by omega)) dL_law_571 ?_
          rw [nI_clamp (by omega)]
          refine n_eq (show _ = nI a3 from e3) ?_
          refine lv_aload_n hx hb dL_law_572 rfl (lv_at hl 3 rfl) ?_
          refine k_Ni (vx_runSW (As := [.ref (ad 0), .int (nI t1), .int (nI a2), .int (nI a3), .ref (ad 99)]) (rest := []) ⟨hx, hb, hml, hown, hts⟩ (c_L_put_d l hst G z ad M (n := n) (kd := kd) (fm := fm) (to := to) (sz := sz) (rl := rl) (en := en) (qa := qa) (qs := qs) (fw := fw) (s0 := s0) (f := a2) (t := a3) (q := t1) fL f_0 f_12 ht1 h23 ⟨hc_328, w7⟩ hc_490) (vx_cwSW 5 hts (gSW (lwg_of t_616 rfl) (lwg_of t_617 rfl) (lwg_of t_0 rfl) (lwg_of t_618 rfl)) rfl rfl rfl (by decide +kernel) ⟨Nat.le_of_ble_eq_true rfl, Nat.le_of_ble_eq_true rfl⟩) hI.preS rfl rfl hl.1 rfl (lv_room (Nat.le_of_ble_eq_true rfl)) dL_law_573 ⟨(show _ ≤ (601024 : Nat) from by omega), (show _ ≤ (7293034 : Nat) from by omega)⟩) hI (fun r_492 M_494 H_495 locs_496 hp_493 hI => ?_)
          obtain ⟨hr_497, hF_498⟩ := hp_493
          have hm_499 : M_494 0 = some (cStore ad qa qs fw) := by rw [hF_498 0 ]; exact f_0
          have hm_500 : M_494 1 = some (cTape ad len) := by rw [hF_498 1 ]; exact f_1
          have hm_501 : M_494 2 = some (aI G 400 (nF tb)) := by rw [hF_498 2 ]; exact f_2
          have hm_502 : M_494 3 = some (cLaws ad ) := by rw [hF_498 3 ]; exact f_3
          have hm_503 : M_494 4 = some (aI G 36 (nF le)) := by rw [hF_498 4 ]; exact f_4
          have hm_504 : M_494 5 = some (aI G 36 (nF mo)) := by rw [hF_498 5 ]; exact f_5
          have hm_505 : M_494 6 = some (aI G 36 (nF al)) := by rw [hF_498 6 ]; exact f_6
          have hm_506 : M_494 7 = some (aZ G 6 (bF ho)) := by rw [hF_498 7 ]; exact f_7
          have hm_507 : M_494 8 = some (cOnes ad jn) := by rw [hF_498 8 ]; exact f_8
          have hm_508 : M_494 9 = some (aI G 40 (nF hg)) := by rw [hF_498 9 ]; exact f_9
          have hm_509 : M_494 10 = some (aI G 40 (nF lst)) := by rw [hF_498 10 ]; exact f_10
          have hm_510 : M_494 11 = some (aI G 40 (nF jd)) := by rw [hF_498 11 ]; exact f_11
          have hm_511 : M_494 12 = some (cEnds ad 12 s0) := by rw [hF_498 12 ]; exact f_12
          have hm_512 : M_494 13 = some (aI G 6 (nF r0)) := by rw [hF_498 13 ]; exact f_13
          have hm_513 : M_494 14 = some (aI G 6 (oF th)) := by rw [hF_498 14 ]; exact f_14
          have hm_514 : M_494 15 = some (aI G 6 (oF ol)) := by rw [hF_498 15 ]; exact f_15
          have hm_515 : M_494 19 = some (aZ G 120 (bF mm9)) := by rw [hF_498 19 ]; exact f_19
          have hm_516 : M_494 20 = some (aI G 120 ff) := by rw [hF_498 20 ]; exact f_20
          have hm_517 : M_494 21 = some (aI G 120 lq) := by rw [hF_498 21 ]; exact f_21
          have hm_518 : M_494 22 = some (cReader ad ra rb rt rv) := by rw [hF_498 22 ]; exact f_22
          have hm_519 : M_494 23 = some (cMatcher ad qm pz) := by rw [hF_498 23 ]; exact f_23
          have hm_520 : M_494 24 = some (aJ G 2160 sx) := by rw [hF_498 24 ]; exact f_24
          have hm_521 : M_494 25 = some (aI G 6 (nF ft)) := by rw [hF_498 25 ]; exact f_25
          have hm_522 : M_494 26 = some (aJ G 240 rx) := by rw [hF_498 26 ]; exact f_26
          have hm_523 : M_494 27 = some (aJ G 3 dm) := by rw [hF_498 27 ]; exact f_27
          have hm_524 : M_494 28 = some (aI G 3 rc) := by rw [hF_498 28 ]; exact f_28
          have hm_525 : M_494 qa = some (cQuestion ad qa ao vr) := by rw [hF_498 qa ]; exact f_qa
          have hm_526 : M_494 (qa + 1) = some (aI G 6 (nF kn)) := by rw [hF_498 (qa + 1) ]; exact f_qa_1
          have hm_527 : M_494 (qa + 2) = some (aZ G 6 (bF nq)) := by rw [hF_498 (qa + 2) ]; exact f_qa_2
          have hm_528 : M_494 (qa + 3) = some (aI G 6 (nF pn)) := by rw [hF_498 (qa + 3) ]; exact f_qa_3
          have hm_529 : M_494 (qa + 4) = some (aI G 6 (nF av)) := by rw [hF_498 (qa + 4) ]; exact f_qa_4
          have hm_530 : M_494 (qa + 5) = some (aI G 24 (nF ro)) := by rw [hF_498 (qa + 5) ]; exact f_qa_5
          have hm_531 : M_494 (qa + 6) = some (aI G 24 (nF te)) := by rw [hF_498 (qa + 6) ]; exact f_qa_6
          have hm_532 : M_494 qs = some (cQuestion ad qs sq su) := by rw [hF_498 qs ]; exact f_qs
          have hm_533 : M_494 (qs + 1) = some (aI G 6 (nF kb)) := by rw [hF_498 (qs + 1) ]; exact f_qs_1
          have hm_534 : M_494 (qs + 2) = some (aZ G 6 (bF nb)) := by rw [hF_498 (qs + 2) ]; exact f_qs_2
          have hm_535 : M_494 (qs + 3) = some (aI G 6 (nF pb)) := by rw [hF_498 (qs + 3) ]; exact f_qs_3
          have hm_536 : M_494 (qs + 4) = some (aI G 6 (nF ab)) := by rw [hF_498 (qs + 4) ]; exact f_qs_4
          have hm_537 : M_494 (qs + 5) = some (aI G 24 (nF rbb)) := by rw [hF_498 (qs + 5) ]; exact f_qs_5
          have hm_538 : M_494 (qs + 6) = some (aI G 24 (nF tbb)) := by rw [hF_498 (qs + 6) ]; exact f_qs_6
          have hm_539 : M_494 60 = some (cModel ad tw n jn ao vr sn len pt zs bg fw) := by rw [hF_498 60 ]; exact f_60
          have hm_540 : M_494 61 = some (aI G 36 (nF le)) := by rw [hF_498 61 ]; exact f_61
          have hm_541 : M_494 62 = some (aI G 36 (nF mo)) := by rw [hF_498 62 ]; exact f_62
          have hm_542 : M_494 63 = some (aI G 36 (nF al)) := by rw [hF_498 63 ]; exact f_63
          have hm_543 : M_494 64 = some (aZ G 6 (bF ho)) := by rw [hF_498 64 ]; exact f_64
          have hm_544 : M_494 65 = some (aI G 120 (nF mk)) := by rw [hF_498 65 ]; exact f_65
          have hm_545 : M_494 66 = some (aI G 120 mf) := by rw [hF_498 66 ]; exact f_66
          have hm_546 : M_494 67 = some (aI G 120 mu) := by rw [hF_498 67 ]; exact f_67
          have hm_547 : M_494 68 = some (aI G 121 (nF mz)) := by rw [hF_498 68 ]; exact f_68
          have hm_548 : M_494 69 = some (aI G 726 (nF rr)) := by rw [hF_498 69 ]; exact f_69
          have hm_549 : M_494 70 = some (aI G 726 (nF ee)) := by rw [hF_498 70 ]; exact f_70
          have hm_550 : M_494 71 = some (aI G 40 (nF lst)) := by rw [hF_498 71 ]; exact f_71
          have hm_551 : M_494 72 = some (aI G 40 (nF oa)) := by rw [hF_498 72 ]; exact f_72
          have hm_552 : M_494 73 = some (aI G 40 (nF ob)) := by rw [hF_498 73 ]; exact f_73
          have hm_553 : M_494 74 = some (aI G 120 s74) := by rw [hF_498 74 ]; exact f_74
          have hm_554 : M_494 75 = some (aI G 12 ak) := by rw [hF_498 75 ]; exact f_75
          have hm_555 : M_494 76 = some (aZ G 12 (bF nm)) := by rw [hF_498 76 ]; exact f_76
          have hm_556 : M_494 77 = some (aI G 12 (nF ap)) := by rw [hF_498 77 ]; exact f_77
          have hm_557 : M_494 78 = some (aI G 48 pr) := by rw [hF_498 78 ]; exact f_78
          have hm_558 : M_494 79 = some (aI G 48 pf) := by rw [hF_498 79 ]; exact f_79
          have hm_559 : M_494 80 = some (aB G 400 tf) := by rw [hF_498 80 ]; exact f_80
          have hm_560 : M_494 81 = some (aI G 5 fv) := by rw [hF_498 81 ]; exact f_81
          have hm_561 : M_494 82 = some (aZ G 384000 (bF tr)) := by rw [hF_498 82 ]; exact f_82
          have hm_562 : M_494 83 = some (aI G 3 (oF gv)) := by rw [hF_498 83 ]; exact f_83
          have hm_563 : M_494 84 = some (aI G 3 fo) := by rw [hF_498 84 ]; exact f_84
          have hm_564 : M_494 85 = some (aZ G 40 (bF re)) := by rw [hF_498 85 ]; exact f_85
          have hm_565 : M_494 86 = some (aZ G 120 (bF us)) := by rw [hF_498 86 ]; exact f_86
          have hm_566 : M_494 87 = some (aZ G 120 (bF nx)) := by rw [hF_498 87 ]; exact f_87
          have hm_567 : M_494 99 = some (aJ G 1 of) := by rw [hF_498 99 ]; exact f_99
          have hm_568 : M_494 16 = some (cLines ad ) := by rw [hF_498 16 ]; exact h16
          have hL_569 : LSm G ad M_494 n kd fm to sz rl en := fL.keep (fun j hj => hF_498 j )
          rw [hr_497]
          clear f_0 f_1 f_2 f_3 f_4 f_5 f_6 f_7 f_8 f_9 f_10 f_11 f_12 f_13 f_14 f_15 f_19 f_20 f_21 f_22 f_23 f_24 f_25 f_26 f_27 f_28 f_qa f_qa_1 f_qa_2 f_qa_3 f_qa_4 f_qa_5 f_qa_6 f_qs f_qs_1 f_qs_2 f_qs_3 f_qs_4 f_qs_5 f_qs_6 f_60 f_61 f_62 f_63 f_64 f_65 f_66 f_67 f_68 f_69 f_70 f_71 f_72 f_73 f_74 f_75 f_76 f_77 f_78 f_79 f_80 f_81 f_82 f_83 f_84 f_85 f_86 f_87 f_99 h16
          refine lv_istore (lv' := [(5, .int (nI 3)), (0, .ref b), (1, .ref (ad 0)), (2, .ref (ad 60)), (3, .ref (ad 99)), (4, .int (nI i))]) hx hb dL_law_576 hl (by decide) rfl (fun ls hl => ?_)
          refine lv_aload_n hx hb dL_law_578 rfl (lv_at hl 3 rfl) ?_
          refine lv_aload_n hx hb dL_law_579 rfl (lv_at hl 1 rfl) ?_
          refine lv_iload hx hb dL_law_580 (lv_at hl 5 rfl) ?_
          refine lv_iconst (v := nI 1) hx hb dL_law_582 (by decide) ?_
          refine lv_iadd hx hb dL_law_583 ?_
          refine n_eq (nI_add i 1) ?_
          refine va_sld (A := fr z) hx hb hX hbl hbz hI.S (vp_in_nI (n := i + 1) (by omega) (by omega)) dL_law_584 ?_
          rw [nI_clamp (by omega)]
          refine n_eq (show _ = nI t1 from et1) ?_
          refine lv_aload_n hx hb dL_law_585 rfl (lv_at hl 1 rfl) ?_
          refine lv_iload hx hb dL_law_586 (lv_at hl 5 rfl) ?_
          refine lv_iconst (v := nI 2) hx hb dL_law_588 (by decide) ?_
          refine lv_iadd hx hb dL_law_589 ?_
          refine n_eq (nI_add i 2) ?_
          refine va_sld (A := fr z) hx hb hX hbl hbz hI.S (vp_in_nI (n := i + 2) (by omega) (by omega)) dL_law_590 ?_
          rw [nI_clamp (by omega)]
          refine n_eq (show _ = nI a2 from e2) ?_
          refine lv_aload_n hx hb dL_law_591 rfl (lv_at hl 1 rfl) ?_
          refine lv_iload hx hb dL_law_592 (lv_at hl 5 rfl) ?_
          refine lv_iconst (v := nI 3) hx hb dL_law_594 (by decide) ?_
          refine lv_iadd hx hb dL_law_595 ?_
          refine n_eq (nI_add i 3) ?_
          refine va_sld (A := fr z) hx hb hX hbl hbz hI.S (vp_in_nI (n := i + 3) (by omega) (by omega)) dL_law_596 ?_
          rw [nI_clamp (by omega)]
          refine n_eq (show _ = nI a3 from e3) ?_
          refine k_Ni (va_runV (As := [.int (nI t1), .int (nI a2), .int (nI a3)]) (rest := []) ⟨hx, hb, hml, hown, hts⟩ (c_X10_put_d l G z ad M_494 (th := tw) (ln := n) (on := jn) (ao := ao) (vr := vr) (sn := sn) (tp := len) (pt := pt) (zs := zs) (bg := bg) (fa := fw) (mz := mz) (kd := t1) (f := a2) (g := a3) hm_539 hm_547 ht1 h23 (by omega) hc_490) (cwV 3 hts (gV (lwg_of t_1164 rfl) (lwg_of t_1165 rfl) (lwg_of t_1166 rfl) (lwg_of t_13 rfl) (lwg_of t_1167 rfl)) rfl rfl rfl (by decide +kernel) ⟨Nat.le_of_ble_eq_true rfl, Nat.le_of_ble_eq_true rfl⟩) (hI.preV hm_539 rfl) rfl rfl hl.1 rfl (lv_room (Nat.le_of_ble_eq_true rfl)) dL_law_597 ⟨(show _ ≤ (601024 : Nat) from by omega), (show _ ≤ (7293034 : Nat) from by omega)⟩) hI (fun r_570 M_572 H_573 locs_574 hp_571 hI => ?_)
          obtain ⟨hr_575, hm_576, hF_577⟩ := hp_571
          have hm_578 : M_572 0 = some (cStore ad qa qs fw) := by rw [hF_577 0 (by decide)]; exact hm_499
          have hm_579 : M_572 1 = some (cTape ad len) := by rw [hF_577 1 (by decide)]; exact hm_500
          have hm_580 : M_572 2 = some (aI G 400 (nF tb)) := by rw [hF_577 2 (by decide)]; exact hm_501
          have hm_581 : M_572 3 = some (cLaws ad ) := by rw [hF_577 3 (by decide)]; exact hm_502
          have hm_582 : M_572 4 = some (aI G 36 (nF le)) := by rw [hF_577 4 (by decide)]; exact hm_503
          have hm_583 : M_572 5 = some (aI G 36 (nF mo)) := by rw [hF_577 5 (by decide)]; exact hm_504
          have hm_584 : M_572 6 = some (aI G 36 (nF al)) := by rw [hF_577 6 (by decide)]; exact hm_505
          have hm_585 : M_572 7 = some (aZ G 6 (bF ho)) := by rw [hF_577 7 (by decide)]; exact hm_506
          have hm_586 : M_572 8 = some (cOnes ad jn) := by rw [hF_577 8 (by decide)]; exact hm_507
          have hm_587 : M_572 9 = some (aI G 40 (nF hg)) := by rw [hF_577 9 (by decide)]; exact hm_508
          have hm_588 : M_572 10 = some (aI G 40 (nF lst)) := by rw [hF_577 10 (by decide)]; exact hm_509
          have hm_589 : M_572 11 = some (aI G 40 (nF jd)) := by rw [hF_577 11 (by decide)]; exact hm_510
          have hm_590 : M_572 12 = some (cEnds ad 12 s0) := by rw [hF_577 12 (by decide)]; exact hm_511
          have hm_591 : M_572 13 = some (aI G 6 (nF r0)) := by rw [hF_577 13 (by decide)]; exact hm_512
          have hm_592 : M_572 14 = some (aI G 6 (oF th)) := by rw [hF_577 14 (by decide)]; exact hm_513
          have hm_593 : M_572 15 = some (aI G 6 (oF ol)) := by rw [hF_577 15 (by decide)]; exact hm_514
          have hm_594 : M_572 19 = some (aZ G 120 (bF mm9)) := by rw [hF_577 19 (by decide)]; exact hm_515
          have hm_595 : M_572 20 = some (aI G 120 ff) := by rw [hF_577 20 (by decide)]; exact hm_516
          have hm_596 : M_572 21 = some (aI G 120 lq) := by rw [hF_577 21 (by decide)]; exact hm_517
          have hm_597 : M_572 22 = some (cReader ad ra rb rt rv) := by rw [hF_577 22 (by decide)]; exact hm_518
          have hm_598 : M_572 23 = some (cMatcher ad qm pz) := by rw [hF_577 23 (by decide)]; exact hm_519
          have hm_599 : M_572 24 = some (aJ G 2160 sx) := by rw [hF_577 24 (by decide)]; exact hm_520
          have hm_600 : M_572 25 = some (aI G 6 (nF ft)) := by rw [hF_577 25 (by decide)]; exact hm_521
          have hm_601 : M_572 26 = some (aJ G 240 rx) := by rw [hF_577 26 (by decide)]; exact hm_522
          have hm_602 : M_572 27 = some (aJ G 3 dm) := by rw [hF_577 27 (by decide)]; exact hm_523
          have hm_603 : M_572 28 = some (aI G 3 rc) := by rw [hF_577 28 (by decide)]; exact hm_524
          have hm_604 : M_572 qa = some (cQuestion ad qa ao vr) := by rw [hF_577 qa (by omega)]; exact hm_525
          have hm_605 : M_572 (qa + 1) = some (aI G 6 (nF kn)) := by rw [hF_577 (qa + 1) (by omega)]; exact hm_526
          have hm_606 : M_572 (qa + 2) = some (aZ G 6 (bF nq)) := by rw [hF_577 (qa + 2) (by omega)]; exact hm_527
          have hm_607 : M_572 (qa + 3) = some (aI G 6 (nF pn)) := by rw [hF_577 (qa + 3) (by omega)]; exact hm_528
          have hm_608 : M_572 (qa + 4) = some (aI G 6 (nF av)) := by rw [hF_577 (qa + 4) (by omega)]; exact hm_529
          have hm_609 : M_572 (qa + 5) = some (aI G 24 (nF ro)) := by rw [hF_577 (qa + 5) (by omega)]; exact hm_530
          have hm_610 : M_572 (qa + 6) = some (aI G 24 (nF te)) := by rw [hF_577 (qa + 6) (by omega)]; exact hm_531
          have hm_611 : M_572 qs = some (cQuestion ad qs sq su) := by rw [hF_577 qs (by omega)]; exact hm_532
          have hm_612 : M_572 (qs + 1) = some (aI G 6 (nF kb)) := by rw [hF_577 (qs + 1) (by omega)]; exact hm_533
          have hm_613 : M_572 (qs + 2) = some (aZ G 6 (bF nb)) := by rw [hF_577 (qs + 2) (by omega)]; exact hm_534
          have hm_614 : M_572 (qs + 3) = some (aI G 6 (nF pb)) := by rw [hF_577 (qs + 3) (by omega)]; exact hm_535
          have hm_615 : M_572 (qs + 4) = some (aI G 6 (nF ab)) := by rw [hF_577 (qs + 4) (by omega)]; exact hm_536
          have hm_616 : M_572 (qs + 5) = some (aI G 24 (nF rbb)) := by rw [hF_577 (qs + 5) (by omega)]; exact hm_537
          have hm_617 : M_572 (qs + 6) = some (aI G 24 (nF tbb)) := by rw [hF_577 (qs + 6) (by omega)]; exact hm_538
          have hm_618 : M_572 61 = some (aI G 36 (nF le)) := by rw [hF_577 61 (by decide)]; exact hm_540
          have hm_619 : M_572 62 = some (aI G 36 (nF mo)) := by rw [hF_577 62 (by decide)]; exact hm_541
          have hm_620 : M_572 63 = some (aI G 36 (nF al)) := by rw [hF_577 63 (by decide)]; exact hm_542
          have hm_621 : M_572 64 = some (aZ G 6 (bF ho)) := by rw [hF_577 64 (by decide)]; exact hm_543
          have hm_622 : M_572 65 = some (aI G 120 (nF mk)) := by rw [hF_577 65 (by decide)]; exact hm_544
          have hm_623 : M_572 66 = some (aI G 120 mf) := by rw [hF_577 66 (by decide)]; exact hm_545
          have hm_624 : M_572 67 = some (aI G 120 mu) := by rw [hF_577 67 (by decide)]; exact hm_546
          have hm_625 : M_572 68 = some (aI G 121 (nF mz)) := by rw [hF_577 68 (by decide)]; exact hm_547
          have hm_626 : M_572 69 = some (aI G 726 (nF rr)) := by rw [hF_577 69 (by decide)]; exact hm_548
          have hm_627 : M_572 70 = some (aI G 726 (nF ee)) := by rw [hF_577 70 (by decide)]; exact hm_549
          have hm_628 : M_572 71 = some (aI G 40 (nF lst)) := by rw [hF_577 71 (by decide)]; exact hm_550
          have hm_629 : M_572 72 = some (aI G 40 (nF oa)) := by rw [hF_577 72 (by decide)]; exact hm_551
          have hm_630 : M_572 73 = some (aI G 40 (nF ob)) := by rw [hF_577 73 (by decide)]; exact hm_552
          have hm_631 : M_572 74 = some (aI G 120 s74) := by rw [hF_577 74 (by decide)]; exact hm_553
          have hm_632 : M_572 75 = some (aI G 12 ak) := by rw [hF_577 75 (by decide)]; exact hm_554
          have hm_633 : M_572 76 = some (aZ G 12 (bF nm)) := by rw [hF_577 76 (by decide)]; exact hm_555
          have hm_634 : M_572 77 = some (aI G 12 (nF ap)) := by rw [hF_577 77 (by decide)]; exact hm_556
          have hm_635 : M_572 78 = some (aI G 48 pr) := by rw [hF_577 78 (by decide)]; exact hm_557
          have hm_636 : M_572 79 = some (aI G 48 pf) := by rw [hF_577 79 (by decide)]; exact hm_558
          have hm_637 : M_572 80 = some (aB G 400 tf) := by rw [hF_577 80 (by decide)]; exact hm_559
          have hm_638 : M_572 81 = some (aI G 5 fv) := by rw [hF_577 81 (by decide)]; exact hm_560
          have hm_639 : M_572 82 = some (aZ G 384000 (bF tr)) := by rw [hF_577 82 (by decide)]; exact hm_561
          have hm_640 : M_572 83 = some (aI G 3 (oF gv)) := by rw [hF_577 83 (by decide)]; exact hm_562
          have hm_641 : M_572 84 = some (aI G 3 fo) := by rw [hF_577 84 (by decide)]; exact hm_563
          have hm_642 : M_572 85 = some (aZ G 40 (bF re)) := by rw [hF_577 85 (by decide)]; exact hm_564
          have hm_643 : M_572 86 = some (aZ G 120 (bF us)) := by rw [hF_577 86 (by decide)]; exact hm_565
          have hm_644 : M_572 87 = some (aZ G 120 (bF nx)) := by rw [hF_577 87 (by decide)]; exact hm_566
          have hm_645 : M_572 99 = some (aJ G 1 of) := by rw [hF_577 99 (by decide)]; exact hm_567
          have hm_646 : M_572 16 = some (cLines ad ) := by rw [hF_577 16 (by decide)]; exact hm_568
          have hL_647 : LSm G ad M_572 n kd fm to sz rl en := hL_569.keep (fun j hj => hF_577 j (by omega))
          have hF_648 : ∀ j : Nat, j ≠ 60 → M_572 j = M j := fun j q0 => (hF_577 j q0).trans (hF_498 j )
          rw [hr_575]
          clear hm_499 hm_500 hm_501 hm_502 hm_503 hm_504 hm_505 hm_506 hm_507 hm_508 hm_509 hm_510 hm_511 hm_512 hm_513 hm_514 hm_515 hm_516 hm_517 hm_518 hm_519 hm_520 hm_521 hm_522 hm_523 hm_524 hm_525 hm_526 hm_527 hm_528 hm_529 hm_530 hm_531 hm_532 hm_533 hm_534 hm_535 hm_536 hm_537 hm_538 hm_539 hm_540 hm_541 hm_542 hm_543 hm_544 hm_545 hm_546 hm_547 hm_548 hm_549 hm_550 hm_551 hm_552 hm_553 hm_554 hm_555 hm_556 hm_557 hm_558 hm_559 hm_560 hm_561 hm_562 hm_563 hm_564 hm_565 hm_566 hm_567 hm_568
          refine lv_istore (lv' := [(6, .int (nI 0)), (5, .int (nI 3)), (0, .ref b), (1, .ref (ad 0)), (2, .ref (ad 60)), (3, .ref (ad 99)), (4, .int (nI i))]) hx hb dL_law_600 hl (by decide) rfl (fun ls hl => ?_)
          refine lv_aload_n hx hb dL_law_602 rfl (lv_at hl 4 rfl) ?_
          refine k_Ri (va_runV (As := []) (rest := []) ⟨hx, hb, hml, hown, hts⟩ (c_X10_thrown l G z ad M_572 (th := 3) (ln := n) (on := jn) (ao := ao) (vr := vr) (sn := sn) (tp := len) (pt := pt) (zs := zs) (bg := bg) (fa := fw) hm_576) (cwV 0 hts (gV (lwg_of t_997 rfl) (lwg_of t_998 rfl) (lwg_of t_999 rfl) (lwg_of t_13 rfl) (lwg_of t_1000 rfl)) rfl rfl rfl (by decide +kernel) ⟨Nat.le_of_ble_eq_true rfl, Nat.le_of_ble_eq_true rfl⟩) (hI.preV hm_576 rfl) rfl rfl hl.1 rfl (lv_room (Nat.le_of_ble_eq_true rfl)) dL_law_603 ⟨(show _ ≤ (601024 : Nat) from by omega), (show _ ≤ (7293034 : Nat) from by omega)⟩) (fun _ h => h) (fun r_649 hp_650 => ?_)
          rw [hp_650]
          refine lv_iload hx hb dL_law_606 (lv_at hl 1 rfl) ?_
          refine lv_icmp_eq (tgt := 613) hx hb dL_law_608 (by decide) (fun c_651 => ?_) (fun c_651 => ?_)
          · -- 608: nI 3 eq
            refine lv_iload hx hb dL_law_613 (lv_at hl 1 rfl) ?_
            refine lv_if_ne (tgt := 630) hx hb dL_law_615 (by decide) (fun c_652 => ?_) (fun c_652 => ?_)
            · -- 615: nI 3 ne
              refine lv_goto (tgt := 1333) hx hb dL_law_630 (by decide) ?_
              refine W.widen (k := cz + 10) (n := sy + 300) (by omega) (by omega) ?_
              exact kk ad M_572 H_573 locs_574 ls n kd fm to sz rl en qa qs fw len tb le mo al ho jn hg lst jd s0 r0 th ol e0 mm9 ff lq ra rb rt rv qm pz sx ft rx dm rc ao vr kn nq pn av ro te sq su kb nb pb ab rbb tbb 3 sn pt zs bg mk mf mu mz rr ee oa ob s74 ak nm ap pr pf tf fv tr gv fo re us nx of hL_647 w1 w2 w3 w4 w5 w6 w7 w8 w9 w10 w11 w12 w13 w14 w15 w16 w17 w18 w19 w20 w21 w22 w23 w24 w25 w26 w27 w28 w29 (fun h9 => by rw [hF_648 17 (by omega), hF_648 18 (by omega)]; exact w30 h9) (by rw [hF_648 29 (by omega)]; exact w31) (fun j9 h9 => by rw [hF_648 j9 (by omega)]; exact w32 j9 h9) hm_578 hm_579 hm_580 hm_581 hm_582 hm_583 hm_584 hm_585 hm_586 hm_587 hm_588 hm_589 hm_590 hm_591 hm_592 hm_593 hm_594 hm_595 hm_596 hm_597 hm_598 hm_599 hm_600 hm_601 hm_602 hm_603 hm_604 hm_605 hm_606 hm_607 hm_608 hm_609 hm_610 hm_611 hm_612 hm_613 hm_614 hm_615 hm_616 hm_617 hm_576 hm_618 hm_619 hm_620 hm_621 hm_622 hm_623 hm_624 hm_625 hm_626 hm_627 hm_628 hm_629 hm_630 hm_631 hm_632 hm_633 hm_634 hm_635 hm_636 hm_637 hm_638 hm_639 hm_640 hm_641 hm_642 hm_643 hm_644 hm_645 hI (lv_sub hl [2, 3, 4, 5, 6] rfl)
            · -- 615: nI 3 eq
              exact absurd c_652 (by decide)
          · -- 608: nI 3 ne
            exact absurd (by decide) c_651
        · skip
          refine lv_iconst (v := nI 1) hx hb dL_law_557 (by decide) ?_
          rcases (why_or : (∃ w : Nat, w = 1 ∧ ¬ alw le mo r0 s0 t1 6 ∨ w = 2 ∧ alw le mo r0 s0 t1 6 ∧ ¬ brs fm to e0 (nI a2) (nI a3) s0 ∨ w = 3 ∧ alw le mo r0 s0 t1 6 ∧ brs fm to e0 (nI a2) (nI a3) s0 ∧ crw n kd fm to sz rl en lst al t1 (nI a2) (nI a3) r0 e0 s0) ∨ (alw le mo r0 s0 t1 6 ∧ brs fm to e0 (nI a2) (nI a3) s0 ∧ ¬ crw n kd fm to sz rl en lst al t1 (nI a2) (nI a3) r0 e0 s0)) with hc_653 | hc_654
          · skip
            refine lv_iadd hx hb dL_law_558 ?_
            refine n_eq (nI_add i 1) ?_
            refine va_sld (A := fr z) hx hb hX hbl hbz hI.S (vp_in_nI (n := i + 1) (by omega) (by omega)) dL_law_559 ?_
            rw [nI_clamp (by omega)]
            refine n_eq (show _ = nI t1 from et1) ?_
            obtain ⟨w, hwy⟩ := hc_653
            refine lv_aload_n hx hb dL_law_560 rfl (lv_at hl 0 rfl) ?_
            refine lv_iload hx hb dL_law_561 (lv_at hl 4 rfl) ?_
            refine lv_iconst (v := nI 2) hx hb dL_law_563 (by decide) ?_
            refine lv_iadd hx hb dL_law_564 ?_
            refine n_eq (nI_add i 2) ?_
            refine va_sld (A := fr z) hx hb hX hbl hbz hI.S (vp_in_nI (n := i + 2) (by omega) (by omega)) dL_law_565 ?_
            rw [nI_clamp (by omega)]
            refine n_eq (show _ = nI a2 from e2) ?_
            refine lv_aload_n hx hb dL_law_566 rfl (lv_at hl 0 rfl) ?_
            refine lv_iload hx hb dL_law_567 (lv_at hl 4 rfl) ?_
            refine lv_iconst (v := nI 3) hx hb dL_law_569 (by decide) ?_
            refine lv_iadd hx hb dL_law_570 ?_
            refine n_eq (nI_add i 3) ?_
            refine va_sld (A := fr z) hx hb hX hbl hbz hI.S (vp_in_nI (n := i + 3) (by omega) (by omega)) dL_law_571 ?_
            rw [nI_clamp (by omega)]
            refine n_eq (show _ = nI a3 from e3) ?_
            refine lv_aload_n hx hb dL_law_572 rfl (lv_at hl 3 rfl) ?_
            have fr0 : M (100 + 5 * n) = none := w32 _ (by omega)
            have fr1 : M (100 + 5 * n + 1) = none := w32 _ (by omega)
            have fr2 : M (100 + 5 * n + 2) = none := w32 _ (by omega)
            have fr3 : M (100 + 5 * n + 3) = none := w32 _ (by omega)
            have fr4 : M (100 + 5 * n + 4) = none := w32 _ (by omega)
            refine k_Ai (vx_runSW (As := [.ref (ad 0), .int (nI t1), .int (nI a2), .int (nI a3), .ref (ad 99)]) (rest := []) ⟨hx, hb, hml, hown, hts⟩ (c_L_put_k_no l hst G z ad M (n := n) (kd := kd) (fm := fm) (to := to) (sz := sz) (rl := rl) (en := en) (qa := qa) (qs := qs) (fw := fw) (s0 := s0) (r0 := r0) (th := th) (ol := ol) (e0 := e0) (le := le) (mo := mo) (al := al) (jn := jn) (lst := lst) (ff := ff) (lq := lq) (y := t1) (f := a2) (g := a3) (w := w) (of := of) f_0 f_12 f_13 f_14 f_15 h16 f_3 f_4 f_5 f_6 f_8 f_10 f_20 f_21 f_99 (by omega) (by omega) fL w1 hc_328 w7 hc_491 w10 w11 w12 w13 hlst ht1 h23 w14 w15 w16 hwy fr0 fr1 fr2 fr3 fr4) (vx_cwSW 5 hts (gSW (lwg_of t_616 rfl) (lwg_of t_617 rfl) (lwg_of t_0 rfl) (lwg_of t_618 rfl)) rfl rfl rfl (by decide +kernel) ⟨Nat.le_of_ble_eq_true rfl, Nat.le_of_ble_eq_true rfl⟩) hI.preS rfl rfl hl.1 rfl (lv_room (Nat.le_of_ble_eq_true rfl)) dL_law_573 ⟨(show _ ≤ (601024 : Nat) from by omega), (show _ ≤ (7293034 : Nat) from by omega)⟩) hI (fun r_655 ad_660 M_657 H_658 locs_659 hp_656 hI => ?_)
            obtain ⟨ff2_673, lq2_674, hr_661, hm_662, hm_663, hm_664, hm_665, hm_666, hm_667, hm_668, hm_669, hm_670, hF_671, hAd_672⟩ := hp_656
            have hm_675 : M_657 12 = some (cEnds ad_660 12 0) := hm_662
            have hm_676 : M_657 20 = some (aI G 120 ff2_673) := hm_663
            have hm_677 : M_657 21 = some (aI G 120 lq2_674) := hm_664
            have hm_678 : M_657 (100 + 5 * n) = some (cLine ad_660 (100 + 5 * n) t1 (nI a2) (nI a3)) := hm_665
            have hm_679 : M_657 (100 + 5 * n + 1) = some (cEnds ad_660 (100 + 5 * n + 1) s0) := hm_666
            have hm_680 : M_657 (100 + 5 * n + 2) = some (aI G 6 (nF (frs s0 r0))) := hm_667
            have hm_681 : M_657 (100 + 5 * n + 3) = some (aI G 6 (oF (thE (frsE s0 e0)))) := hm_668
            have hm_682 : M_657 (100 + 5 * n + 4) = some (aI G 6 (oF (olE (frsE s0 e0)))) := hm_669
            have hm_683 : M_657 99 = some (aJ G 1 (vp_updL of 0 ((-(nI w)).toInt64))) := hm_670
            have hAd_684 : ∀ j : Nat, j ≠ (100 + 5 * n) → j ≠ (100 + 5 * n + 1) → j ≠ (100 + 5 * n + 2) → j ≠ (100 + 5 * n + 3) → j ≠ (100 + 5 * n + 4) → ad_660 j = ad j := hAd_672
            have hF_685 : ∀ j : Nat, j ≠ 12 → j ≠ 20 → j ≠ 21 → j ≠ (100 + 5 * n) → j ≠ (100 + 5 * n + 1) → j ≠ (100 + 5 * n + 2) → j ≠ (100 + 5 * n + 3) → j ≠ (100 + 5 * n + 4) → j ≠ 99 → M_657 j = M j := hF_671
            have hAd_686 : ∀ j : Nat, j < 100 →  ad_660 j = ad j := fun j q9  => hAd_684 j (by omega) (by omega) (by omega) (by omega) (by omega)
            have hF_687 : ∀ j : Nat, j < 100 → j ≠ 12 → j ≠ 20 → j ≠ 21 → j ≠ 99 → M_657 j = M j := fun j q9 q0 q1 q2 q3 => hF_685 j q0 q1 q2 (by omega) (by omega) (by omega) (by omega) (by omega) q3
            have hm_688 : M_657 0 = some (cStore ad_660 qa qs fw) := by rw [hF_687 0 (by decide) (by decide) (by decide) (by decide) (by decide), f_0]; simp only [cStore, hAd_686 1 (by decide), hAd_686 3 (by decide), hAd_686 8 (by decide), hAd_686 12 (by decide), hAd_686 16 (by decide), hAd_686 22 (by decide), hAd_686 23 (by decide), hAd_686 qa (by omega), hAd_686 qs (by omega)]
            have hm_689 : M_657 1 = some (cTape ad_660 len) := by rw [hF_687 1 (by decide) (by decide) (by decide) (by decide) (by decide), f_1]; simp only [cTape, hAd_686 2 (by decide)]
            have hm_690 : M_657 2 = some (aI G 400 (nF tb)) := by rw [hF_687 2 (by decide) (by decide) (by decide) (by decide) (by decide), f_2]
            have hm_691 : M_657 3 = some (cLaws ad_660 ) := by rw [hF_687 3 (by decide) (by decide) (by decide) (by decide) (by decide), f_3]; simp only [cLaws, hAd_686 4 (by decide), hAd_686 5 (by decide), hAd_686 6 (by decide), hAd_686 7 (by decide)]
            have hm_692 : M_657 4 = some (aI G 36 (nF le)) := by rw [hF_687 4 (by decide) (by decide) (by decide) (by decide) (by decide), f_4]
            have hm_693 : M_657 5 = some (aI G 36 (nF mo)) := by rw [hF_687 5 (by decide) (by decide) (by decide) (by decide) (by decide), f_5]
            have hm_694 : M_657 6 = some (aI G 36 (nF al)) := by rw [hF_687 6 (by decide) (by decide) (by decide) (by decide) (by decide), f_6]
            have hm_695 : M_657 7 = some (aZ G 6 (bF ho)) := by rw [hF_687 7 (by decide) (by decide) (by decide) (by decide) (by decide), f_7]
            have hm_696 : M_657 8 = some (cOnes ad_660 jn) := by rw [hF_687 8 (by decide) (by decide) (by decide) (by decide) (by decide), f_8]; simp only [cOnes, hAd_686 9 (by decide), hAd_686 10 (by decide), hAd_686 11 (by decide)]
            have hm_697 : M_657 9 = some (aI G 40 (nF hg)) := by rw [hF_687 9 (by decide) (by decide) (by decide) (by decide) (by decide), f_9]
            have hm_698 : M_657 10 = some (aI G 40 (nF lst)) := by rw [hF_687 10 (by decide) (by decide) (by decide) (by decide) (by decide), f_10]
            have hm_699 : M_657 11 = some (aI G 40 (nF jd)) := by rw [hF_687 11 (by decide) (by decide) (by decide) (by decide) (by decide), f_11]
            have hm_700 : M_657 13 = some (aI G 6 (nF r0)) := by rw [hF_687 13 (by decide) (by decide) (by decide) (by decide) (by decide), f_13]
            have hm_701 : M_657 14 = some (aI G 6 (oF th)) := by rw [hF_687 14 (by decide) (by decide) (by decide) (by decide) (by decide), f_14]
            have hm_702 : M_657 15 = some (aI G 6 (oF ol)) := by rw [hF_687 15 (by decide) (by decide) (by decide) (by decide) (by decide), f_15]
            have hm_703 : M_657 19 = some (aZ G 120 (bF mm9)) := by rw [hF_687 19 (by decide) (by decide) (by decide) (by decide) (by decide), f_19]
            have hm_704 : M_657 22 = some (cReader ad_660 ra rb rt rv) := by rw [hF_687 22 (by decide) (by decide) (by decide) (by decide) (by decide), f_22]
            have hm_705 : M_657 23 = some (cMatcher ad_660 qm pz) := by rw [hF_687 23 (by decide) (by decide) (by decide) (by decide) (by decide), f_23]; simp only [cMatcher, hAd_686 24 (by decide), hAd_686 25 (by decide), hAd_686 26 (by decide), hAd_686 27 (by decide), hAd_686 28 (by decide), hAd_686 qm (by omega)]
            have hm_706 : M_657 24 = some (aJ G 2160 sx) := by rw [hF_687 24 (by decide) (by decide) (by decide) (by decide) (by decide), f_24]
            have hm_707 : M_657 25 = some (aI G 6 (nF ft)) := by rw [hF_687 25 (by decide) (by decide) (by decide) (by decide) (by decide), f_25]
            have hm_708 : M_657 26 = some (aJ G 240 rx) := by rw [hF_687 26 (by decide) (by decide) (by decide) (by decide) (by decide), f_26]
            have hm_709 : M_657 27 = some (aJ G 3 dm) := by rw [hF_687 27 (by decide) (by decide) (by decide) (by decide) (by decide), f_27]
            have hm_710 : M_657 28 = some (aI G 3 rc) := by rw [hF_687 28 (by decide) (by decide) (by decide) (by decide) (by decide), f_28]
            have hm_711 : M_657 qa = some (cQuestion ad_660 qa ao vr) := by rw [hF_687 qa (by omega) (by omega) (by omega) (by omega) (by omega), f_qa]; simp only [cQuestion, hAd_686 (qa + 1) (by omega), hAd_686 (qa + 2) (by omega), hAd_686 (qa + 3) (by omega), hAd_686 (qa + 4) (by omega), hAd_686 (qa + 5) (by omega), hAd_686 (qa + 6) (by omega)]
            have hm_712 : M_657 (qa + 1) = some (aI G 6 (nF kn)) := by rw [hF_687 (qa + 1) (by omega) (by omega) (by omega) (by omega) (by omega), f_qa_1]
            have hm_713 : M_657 (qa + 2) = some (aZ G 6 (bF nq)) := by rw [hF_687 (qa + 2) (by omega) (by omega) (by omega) (by omega) (by omega), f_qa_2]
            have hm_714 : M_657 (qa + 3) = some (aI G 6 (nF pn)) := by rw [hF_687 (qa + 3) (by omega) (by omega) (by omega) (by omega) (by omega), f_qa_3]
            have hm_715 : M_657 (qa + 4) = some (aI G 6 (nF av)) := by rw [hF_687 (qa + 4) (by omega) (by omega) (by omega) (by omega) (by omega), f_qa_4]
            have hm_716 : M_657 (qa + 5) = some (aI G 24 (nF ro)) := by rw [hF_687 (qa + 5) (by omega) (by omega) (by omega) (by omega) (by omega), f_qa_5]
            have hm_717 : M_657 (qa + 6) = some (aI G 24 (nF te)) := by rw [hF_687 (qa + 6) (by omega) (by omega) (by omega) (by omega) (by omega), f_qa_6]
            have hm_718 : M_657 qs = some (cQuestion ad_660 qs sq su) := by rw [hF_687 qs (by omega) (by omega) (by omega) (by omega) (by omega), f_qs]; simp only [cQuestion, hAd_686 (qs + 1) (by omega), hAd_686 (qs + 2) (by omega), hAd_686 (qs + 3) (by omega), hAd_686 (qs + 4) (by omega), hAd_686 (qs + 5) (by omega), hAd_686 (qs + 6) (by omega)]
            have hm_719 : M_657 (qs + 1) = some (aI G 6 (nF kb)) := by rw [hF_687 (qs + 1) (by omega) (by omega) (by omega) (by omega) (by omega), f_qs_1]
            have hm_720 : M_657 (qs + 2) = some (aZ G 6 (bF nb)) := by rw [hF_687 (qs + 2) (by omega) (by omega) (by omega) (by omega) (by omega), f_qs_2]
            have hm_721 : M_657 (qs + 3) = some (aI G 6 (nF pb)) := by rw [hF_687 (qs + 3) (by omega) (by omega) (by omega) (by omega) (by omega), f_qs_3]
            have hm_722 : M_657 (qs + 4) = some (aI G 6 (nF ab)) := by rw [hF_687 (qs + 4) (by omega) (by omega) (by omega) (by omega) (by omega), f_qs_4]
            have hm_723 : M_657 (qs + 5) = some (aI G 24 (nF rbb)) := by rw [hF_687 (qs + 5) (by omega) (by omega) (by omega) (by omega) (by omega), f_qs_5]
            have hm_724 : M_657 (qs + 6) = some (aI G 24 (nF tbb)) := by rw [hF_687 (qs + 6) (by omega) (by omega) (by omega) (by omega) (by omega), f_qs_6]
            have hm_725 : M_657 60 = some (cModel ad_660 tw n jn ao vr sn len pt zs bg fw) := by rw [hF_687 60 (by decide) (by decide) (by decide) (by decide) (by decide), f_60]; simp only [cModel, hAd_686 61 (by decide), hAd_686 62 (by decide), hAd_686 63 (by decide), hAd_686 64 (by decide), hAd_686 65 (by decide), hAd_686 66 (by decide), hAd_686 67 (by decide), hAd_686 68 (by decide), hAd_686 69 (by decide), hAd_686 70 (by decide), hAd_686 71 (by decide), hAd_686 72 (by decide), hAd_686 73 (by decide), hAd_686 74 (by decide), hAd_686 75 (by decide), hAd_686 76 (by decide), hAd_686 77 (by decide), hAd_686 78 (by decide), hAd_686 79 (by decide), hAd_686 80 (by decide), hAd_686 81 (by decide), hAd_686 82 (by decide), hAd_686 83 (by decide), hAd_686 84 (by decide), hAd_686 85 (by decide), hAd_686 86 (by decide), hAd_686 87 (by decide)]
            have hm_726 : M_657 61 = some (aI G 36 (nF le)) := by rw [hF_687 61 (by decide) (by decide) (by decide) (by decide) (by decide), f_61]
            have hm_727 : M_657 62 = some (aI G 36 (nF mo)) := by rw [hF_687 62 (by decide) (by decide) (by decide) (by decide) (by decide), f_62]
            have hm_728 : M_657 63 = some (aI G 36 (nF al)) := by rw [hF_687 63 (by decide) (by decide) (by decide) (by decide) (by decide), f_63]
            have hm_729 : M_657 64 = some (aZ G 6 (bF ho)) := by rw [hF_687 64 (by decide) (by decide) (by decide) (by decide) (by decide), f_64]
            have hm_730 : M_657 65 = some (aI G 120 (nF mk)) := by rw [hF_687 65 (by decide) (by decide) (by decide) (by decide) (by decide), f_65]
            have hm_731 : M_657 66 = some (aI G 120 mf) := by rw [hF_687 66 (by decide) (by decide) (by decide) (by decide) (by decide), f_66]
            have hm_732 : M_657 67 = some (aI G 120 mu) := by rw [hF_687 67 (by decide) (by decide) (by decide) (by decide) (by decide), f_67]
            have hm_733 : M_657 68 = some (aI G 121 (nF mz)) := by rw [hF_687 68 (by decide) (by decide) (by decide) (by decide) (by decide), f_68]
            have hm_734 : M_657 69 = some (aI G 726 (nF rr)) := by rw [hF_687 69 (by decide) (by decide) (by decide) (by decide) (by decide), f_69]
            have hm_735 : M_657 70 = some (aI G 726 (nF ee)) := by rw [hF_687 70 (by decide) (by decide) (by decide) (by decide) (by decide), f_70]
            have hm_736 : M_657 71 = some (aI G 40 (nF lst)) := by rw [hF_687 71 (by decide) (by decide) (by decide) (by decide) (by decide), f_71]
            have hm_737 : M_657 72 = some (aI G 40 (nF oa)) := by rw [hF_687 72 (by decide) (by decide) (by decide) (by decide) (by decide), f_72]
            have hm_738 : M_657 73 = some (aI G 40 (nF ob)) := by rw [hF_687 73 (by decide) (by decide) (by decide) (by decide) (by decide), f_73]
            have hm_739 : M_657 74 = some (aI G 120 s74) := by rw [hF_687 74 (by decide) (by decide) (by decide) (by decide) (by decide), f_74]
            have hm_740 : M_657 75 = some (aI G 12 ak) := by rw [hF_687 75 (by decide) (by decide) (by decide) (by decide) (by decide), f_75]
            have hm_741 : M_657 76 = some (aZ G 12 (bF nm)) := by rw [hF_687 76 (by decide) (by decide) (by decide) (by decide) (by decide), f_76]
            have hm_742 : M_657 77 = some (aI G 12 (nF ap)) := by rw [hF_687 77 (by decide) (by decide) (by decide) (by decide) (by decide), f_77]
            have hm_743 : M_657 78 = some (aI G 48 pr) := by rw [hF_687 78 (by decide) (by decide) (by decide) (by decide) (by decide), f_78]
            have hm_744 : M_657 79 = some (aI G 48 pf) := by rw [hF_687 79 (by decide) (by decide) (by decide) (by decide) (by decide), f_79]
            have hm_745 : M_657 80 = some (aB G 400 tf) := by rw [hF_687 80 (by decide) (by decide) (by decide) (by decide) (by decide), f_80]
            have hm_746 : M_657 81 = some (aI G 5 fv) := by rw [hF_687 81 (by decide) (by decide) (by decide) (by decide) (by decide), f_81]
            have hm_747 : M_657 82 = some (aZ G 384000 (bF tr)) := by rw [hF_687 82 (by decide) (by decide) (by decide) (by decide) (by decide), f_82]
            have hm_748 : M_657 83 = some (aI G 3 (oF gv)) := by rw [hF_687 83 (by decide) (by decide) (by decide) (by decide) (by decide), f_83]
            have hm_749 : M_657 84 = some (aI G 3 fo) := by rw [hF_687 84 (by decide) (by decide) (by decide) (by decide) (by decide), f_84]
            have hm_750 : M_657 85 = some (aZ G 40 (bF re)) := by rw [hF_687 85 (by decide) (by decide) (by decide) (by decide) (by decide), f_85]
            have hm_751 : M_657 86 = some (aZ G 120 (bF us)) := by rw [hF_687 86 (by decide) (by decide) (by decide) (by decide) (by decide), f_86]
            have hm_752 : M_657 87 = some (aZ G 120 (bF nx)) := by rw [hF_687 87 (by decide) (by decide) (by decide) (by decide) (by decide), f_87]
            have hm_753 : M_657 16 = some (cLines ad_660 ) := by rw [hF_687 16 (by decide) (by decide) (by decide) (by decide) (by decide), h16]; simp only [cLines, hAd_686 17 (by decide), hAd_686 19 (by decide), hAd_686 20 (by decide), hAd_686 21 (by decide)]
            have hF_754 : ∀ j : Nat, j ≠ 12 → j ≠ 20 → j ≠ 21 → j ≠ (100 + 5 * n) → j ≠ (100 + 5 * n + 1) → j ≠ (100 + 5 * n + 2) → j ≠ (100 + 5 * n + 3) → j ≠ (100 + 5 * n + 4) → j ≠ 99 → M_657 j = M j := fun j q0 q1 q2 q3 q4 q5 q6 q7 q8 => (hF_685 j q0 q1 q2 q3 q4 q5 q6 q7 q8)
            rw [hr_661]
            clear f_0 f_1 f_2 f_3 f_4 f_5 f_6 f_7 f_8 f_9 f_10 f_11 f_12 f_13 f_14 f_15 f_19 f_20 f_21 f_22 f_23 f_24 f_25 f_26 f_27 f_28 f_qa f_qa_1 f_qa_2 f_qa_3 f_qa_4 f_qa_5 f_qa_6 f_qs f_qs_1 f_qs_2 f_qs_3 f_qs_4 f_qs_5 f_qs_6 f_60 f_61 f_62 f_63 f_64 f_65 f_66 f_67 f_68 f_69 f_70 f_71 f_72 f_73 f_74 f_75 f_76 f_77 f_78 f_79 f_80 f_81 f_82 f_83 f_84 f_85 f_86 f_87 f_99 h16
            refine lv_istore (lv' := [(5, .int (nI 0)), (0, .ref b), (1, .ref (ad 0)), (2, .ref (ad 60)), (3, .ref (ad 99)), (4, .int (nI i))]) hx hb dL_law_576 hl (by decide) rfl (fun ls hl => ?_)
            refine lv_aload_n hx hb dL_law_578 rfl (lv_at hl 3 rfl) ?_
            refine n_eqv (show Value.ref (ad 60) = .ref (ad_660 60) from by rw [hAd_686 60 (by decide)]) ?_
            refine lv_aload_n hx hb dL_law_579 rfl (lv_at hl 1 rfl) ?_
            refine lv_iload hx hb dL_law_580 (lv_at hl 5 rfl) ?_
            refine lv_iconst (v := nI 1) hx hb dL_law_582 (by decide) ?_
            refine lv_iadd hx hb dL_law_583 ?_
            refine n_eq (nI_add i 1) ?_
            refine va_sld (A := fr z) hx hb hX hbl hbz hI.S (vp_in_nI (n := i + 1) (by omega) (by omega)) dL_law_584 ?_
            rw [nI_clamp (by omega)]
            refine n_eq (show _ = nI t1 from et1) ?_
            refine lv_aload_n hx hb dL_law_585 rfl (lv_at hl 1 rfl) ?_
            refine lv_iload hx hb dL_law_586 (lv_at hl 5 rfl) ?_
            refine lv_iconst (v := nI 2) hx hb dL_law_588 (by decide) ?_
            refine lv_iadd hx hb dL_law_589 ?_
            refine n_eq (nI_add i 2) ?_
            refine va_sld (A := fr z) hx hb hX hbl hbz hI.S (vp_in_nI (n := i + 2) (by omega) (by omega)) dL_law_590 ?_
            rw [nI_clamp (by omega)]
            refine n_eq (show _ = nI a2 from e2) ?_
            refine lv_aload_n hx hb dL_law_591 rfl (lv_at hl 1 rfl) ?_
            refine lv_iload hx hb dL_law_592 (lv_at hl 5 rfl) ?_
            refine lv_iconst (v := nI 3) hx hb dL_law_594 (by decide) ?_
            refine lv_iadd hx hb dL_law_595 ?_
            refine n_eq (nI_add i 3) ?_
            refine va_sld (A := fr z) hx hb hX hbl hbz hI.S (vp_in_nI (n := i + 3) (by omega) (by omega)) dL_law_596 ?_
            rw [nI_clamp (by omega)]
            refine n_eq (show _ = nI a3 from e3) ?_
            refine k_Ni (va_runV (As := [.int (nI t1), .int (nI a2), .int (nI a3)]) (rest := []) ⟨hx, hb, hml, hown, hts⟩ (c_X10_put_no l G z ad_660 M_657 (th := tw) (on := jn) (ao := ao) (vr := vr) (sn := sn) (tp := len) (pt := pt) (zs := zs) (bg := bg) (fa := fw) (n := n) (kd := kd) (fm := fm) (to := to) (sz := sz) (rl := rl) (en := en) (mk := mk) (mf := mf) (mu := mu) (mz := mz) (rr := rr) (ee := ee) (le := le) (mo := mo) (al := al) (lst := lst) (s0 := s0) (r0 := r0) (e0 := e0) (y := t1) (f := a2) (g := a3) (w := w) hm_725 hm_726 hm_727 hm_728 hm_730 hm_731 hm_732 hm_733 hm_734 hm_735 hm_736 w1 w2 w7 w10 w11 w8 hc_328 hc_491 w9 hlst ht1 h23 w14 w15 w16 hwy) (cwV 3 hts (gV (lwg_of t_1164 rfl) (lwg_of t_1165 rfl) (lwg_of t_1166 rfl) (lwg_of t_13 rfl) (lwg_of t_1167 rfl)) rfl rfl rfl (by decide +kernel) ⟨Nat.le_of_ble_eq_true rfl, Nat.le_of_ble_eq_true rfl⟩) (hI.preV hm_725 rfl) rfl rfl hl.1 rfl (lv_room (Nat.le_of_ble_eq_true rfl)) dL_law_597 ⟨(show _ ≤ (601024 : Nat) from by omega), (show _ ≤ (7293034 : Nat) from by omega)⟩) hI (fun r_755 M_757 H_758 locs_759 hp_756 hI => ?_)
            obtain ⟨hr_760, hm_761, hm_762, hF_763⟩ := hp_756
            have hm_764 : M_757 0 = some (cStore ad_660 qa qs fw) := by rw [hF_763 0 (by decide) (by decide)]; exact hm_688
            have hm_765 : M_757 1 = some (cTape ad_660 len) := by rw [hF_763 1 (by decide) (by decide)]; exact hm_689
            have hm_766 : M_757 2 = some (aI G 400 (nF tb)) := by rw [hF_763 2 (by decide) (by decide)]; exact hm_690
            have hm_767 : M_757 3 = some (cLaws ad_660 ) := by rw [hF_763 3 (by decide) (by decide)]; exact hm_691
            have hm_768 : M_757 4 = some (aI G 36 (nF le)) := by rw [hF_763 4 (by decide) (by decide)]; exact hm_692
            have hm_769 : M_757 5 = some (aI G 36 (nF mo)) := by rw [hF_763 5 (by decide) (by decide)]; exact hm_693
            have hm_770 : M_757 6 = some (aI G 36 (nF al)) := by rw [hF_763 6 (by decide) (by decide)]; exact hm_694
            have hm_771 : M_757 7 = some (aZ G 6 (bF ho)) := by rw [hF_763 7 (by decide) (by decide)]; exact hm_695
            have hm_772 : M_757 8 = some (cOnes ad_660 jn) := by rw [hF_763 8 (by decide) (by decide)]; exact hm_696
            have hm_773 : M_757 9 = some (aI G 40 (nF hg)) := by rw [hF_763 9 (by decide) (by decide)]; exact hm_697
            have hm_774 : M_757 10 = some (aI G 40 (nF lst)) := by rw [hF_763 10 (by decide) (by decide)]; exact hm_698
            have hm_775 : M_757 11 = some (aI G 40 (nF jd)) := by rw [hF_763 11 (by decide) (by decide)]; exact hm_699
            have hm_776 : M_757 13 = some (aI G 6 (nF r0)) := by rw [hF_763 13 (by decide) (by decide)]; exact hm_700
            have hm_777 : M_757 14 = some (aI G 6 (oF th)) := by rw [hF_763 14 (by decide) (by decide)]; exact hm_701
            have hm_778 : M_757 15 = some (aI G 6 (oF ol)) := by rw [hF_763 15 (by decide) (by decide)]; exact hm_702
            have hm_779 : M_757 19 = some (aZ G 120 (bF mm9)) := by rw [hF_763 19 (by decide) (by decide)]; exact hm_703
            have hm_780 : M_757 22 = some (cReader ad_660 ra rb rt rv) := by rw [hF_763 22 (by decide) (by decide)]; exact hm_704
            have hm_781 : M_757 23 = some (cMatcher ad_660 qm pz) := by rw [hF_763 23 (by decide) (by decide)]; exact hm_705
            have hm_782 : M_757 24 = some (aJ G 2160 sx) := by rw [hF_763 24 (by decide) (by decide)]; exact hm_706
            have hm_783 : M_757 25 = some (aI G 6 (nF ft)) := by rw [hF_763 25 (by decide) (by decide)]; exact hm_707
            have hm_784 : M_757 26 = some (aJ G 240 rx) := by rw [hF_763 26 (by decide) (by decide)]; exact hm_708
            have hm_785 : M_757 27 = some (aJ G 3 dm) := by rw [hF_763 27 (by decide) (by decide)]; exact hm_709
            have hm_786 : M_757 28 = some (aI G 3 rc) := by rw [hF_763 28 (by decide) (by decide)]; exact hm_710
            have hm_787 : M_757 qa = some (cQuestion ad_660 qa ao vr) := by rw [hF_763 qa (by omega) (by omega)]; exact hm_711
            have hm_788 : M_757 (qa + 1) = some (aI G 6 (nF kn)) := by rw [hF_763 (qa + 1) (by omega) (by omega)]; exact hm_712
            have hm_789 : M_757 (qa + 2) = some (aZ G 6 (bF nq)) := by rw [hF_763 (qa + 2) (by omega) (by omega)]; exact hm_713
            have hm_790 : M_757 (qa + 3) = some (aI G 6 (nF pn)) := by rw [hF_763 (qa + 3) (by omega) (by omega)]; exact hm_714
            have hm_791 : M_757 (qa + 4) = some (aI G 6 (nF av)) := by rw [hF_763 (qa + 4) (by omega) (by omega)]; exact hm_715
            have hm_792 : M_757 (qa + 5) = some (aI G 24 (nF ro)) := by rw [hF_763 (qa + 5) (by omega) (by omega)]; exact hm_716
            have hm_793 : M_757 (qa + 6) = some (aI G 24 (nF te)) := by rw [hF_763 (qa + 6) (by omega) (by omega)]; exact hm_717
            have hm_794 : M_757 qs = some (cQuestion ad_660 qs sq su) := by rw [hF_763 qs (by omega) (by omega)]; exact hm_718
            have hm_795 : M_757 (qs + 1) = some (aI G 6 (nF kb)) := by rw [hF_763 (qs + 1) (by omega) (by omega)]; exact hm_719
            have hm_796 : M_757 (qs + 2) = some (aZ G 6 (bF nb)) := by rw [hF_763 (qs + 2) (by omega) (by omega)]; exact hm_720
            have hm_797 : M_757 (qs + 3) = some (aI G 6 (nF pb)) := by rw [hF_763 (qs + 3) (by omega) (by omega)]; exact hm_721
            have hm_798 : M_757 (qs + 4) = some (aI G 6 (nF ab)) := by rw [hF_763 (qs + 4) (by omega) (by omega)]; exact hm_722
            have hm_799 : M_757 (qs + 5) = some (aI G 24 (nF rbb)) := by rw [hF_763 (qs + 5) (by omega) (by omega)]; exact hm_723
            have hm_800 : M_757 (qs + 6) = some (aI G 24 (nF tbb)) := by rw [hF_763 (qs + 6) (by omega) (by omega)]; exact hm_724
            have hm_801 : M_757 61 = some (aI G 36 (nF le)) := by rw [hF_763 61 (by decide) (by decide)]; exact hm_726
            have hm_802 : M_757 62 = some (aI G 36 (nF mo)) := by rw [hF_763 62 (by decide) (by decide)]; exact hm_727
            have hm_803 : M_757 63 = some (aI G 36 (nF al)) := by rw [hF_763 63 (by decide) (by decide)]; exact hm_728
            have hm_804 : M_757 64 = some (aZ G 6 (bF ho)) := by rw [hF_763 64 (by decide) (by decide)]; exact hm_729
            have hm_805 : M_757 65 = some (aI G 120 (nF mk)) := by rw [hF_763 65 (by decide) (by decide)]; exact hm_730
            have hm_806 : M_757 66 = some (aI G 120 mf) := by rw [hF_763 66 (by decide) (by decide)]; exact hm_731
            have hm_807 : M_757 67 = some (aI G 120 mu) := by rw [hF_763 67 (by decide) (by decide)]; exact hm_732
            have hm_808 : M_757 69 = some (aI G 726 (nF rr)) := by rw [hF_763 69 (by decide) (by decide)]; exact hm_734
            have hm_809 : M_757 70 = some (aI G 726 (nF ee)) := by rw [hF_763 70 (by decide) (by decide)]; exact hm_735
            have hm_810 : M_757 71 = some (aI G 40 (nF lst)) := by rw [hF_763 71 (by decide) (by decide)]; exact hm_736
            have hm_811 : M_757 72 = some (aI G 40 (nF oa)) := by rw [hF_763 72 (by decide) (by decide)]; exact hm_737
            have hm_812 : M_757 73 = some (aI G 40 (nF ob)) := by rw [hF_763 73 (by decide) (by decide)]; exact hm_738
            have hm_813 : M_757 74 = some (aI G 120 s74) := by rw [hF_763 74 (by decide) (by decide)]; exact hm_739
            have hm_814 : M_757 75 = some (aI G 12 ak) := by rw [hF_763 75 (by decide) (by decide)]; exact hm_740
            have hm_815 : M_757 76 = some (aZ G 12 (bF nm)) := by rw [hF_763 76 (by decide) (by decide)]; exact hm_741
            have hm_816 : M_757 77 = some (aI G 12 (nF ap)) := by rw [hF_763 77 (by decide) (by decide)]; exact hm_742
            have hm_817 : M_757 78 = some (aI G 48 pr) := by rw [hF_763 78 (by decide) (by decide)]; exact hm_743
            have hm_818 : M_757 79 = some (aI G 48 pf) := by rw [hF_763 79 (by decide) (by decide)]; exact hm_744
            have hm_819 : M_757 80 = some (aB G 400 tf) := by rw [hF_763 80 (by decide) (by decide)]; exact hm_745
            have hm_820 : M_757 81 = some (aI G 5 fv) := by rw [hF_763 81 (by decide) (by decide)]; exact hm_746
            have hm_821 : M_757 82 = some (aZ G 384000 (bF tr)) := by rw [hF_763 82 (by decide) (by decide)]; exact hm_747
            have hm_822 : M_757 83 = some (aI G 3 (oF gv)) := by rw [hF_763 83 (by decide) (by decide)]; exact hm_748
            have hm_823 : M_757 84 = some (aI G 3 fo) := by rw [hF_763 84 (by decide) (by decide)]; exact hm_749
            have hm_824 : M_757 85 = some (aZ G 40 (bF re)) := by rw [hF_763 85 (by decide) (by decide)]; exact hm_750
            have hm_825 : M_757 86 = some (aZ G 120 (bF us)) := by rw [hF_763 86 (by decide) (by decide)]; exact hm_751
            have hm_826 : M_757 87 = some (aZ G 120 (bF nx)) := by rw [hF_763 87 (by decide) (by decide)]; exact hm_752
            have hm_827 : M_757 16 = some (cLines ad_660 ) := by rw [hF_763 16 (by decide) (by decide)]; exact hm_753
            have hm_828 : M_757 12 = some (cEnds ad_660 12 0) := by rw [hF_763 12 (by decide) (by decide)]; exact hm_675
            have hm_829 : M_757 20 = some (aI G 120 ff2_673) := by rw [hF_763 20 (by decide) (by decide)]; exact hm_676
            have hm_830 : M_757 21 = some (aI G 120 lq2_674) := by rw [hF_763 21 (by decide) (by decide)]; exact hm_677
            have hm_831 : M_757 (100 + 5 * n) = some (cLine ad_660 (100 + 5 * n) t1 (nI a2) (nI a3)) := by rw [hF_763 (100 + 5 * n) (by omega) (by omega)]; exact hm_678
            have hm_832 : M_757 (100 + 5 * n + 1) = some (cEnds ad_660 (100 + 5 * n + 1) s0) := by rw [hF_763 (100 + 5 * n + 1) (by omega) (by omega)]; exact hm_679
            have hm_833 : M_757 (100 + 5 * n + 2) = some (aI G 6 (nF (frs s0 r0))) := by rw [hF_763 (100 + 5 * n + 2) (by omega) (by omega)]; exact hm_680
            have hm_834 : M_757 (100 + 5 * n + 3) = some (aI G 6 (oF (thE (frsE s0 e0)))) := by rw [hF_763 (100 + 5 * n + 3) (by omega) (by omega)]; exact hm_681
            have hm_835 : M_757 (100 + 5 * n + 4) = some (aI G 6 (oF (olE (frsE s0 e0)))) := by rw [hF_763 (100 + 5 * n + 4) (by omega) (by omega)]; exact hm_682
            have hm_836 : M_757 99 = some (aJ G 1 (vp_updL of 0 ((-(nI w)).toInt64))) := by rw [hF_763 99 (by decide) (by decide)]; exact hm_683
            have hF_837 : ∀ j : Nat, j ≠ 12 → j ≠ 20 → j ≠ 21 → j ≠ (100 + 5 * n) → j ≠ (100 + 5 * n + 1) → j ≠ (100 + 5 * n + 2) → j ≠ (100 + 5 * n + 3) → j ≠ (100 + 5 * n + 4) → j ≠ 99 → j ≠ 60 → j ≠ 68 → M_757 j = M j := fun j q0 q1 q2 q3 q4 q5 q6 q7 q8 q9 q10 => (hF_763 j q9 q10).trans (hF_754 j q0 q1 q2 q3 q4 q5 q6 q7 q8)
            rw [hr_760]
            clear hm_688 hm_689 hm_690 hm_691 hm_692 hm_693 hm_694 hm_695 hm_696 hm_697 hm_698 hm_699 hm_700 hm_701 hm_702 hm_703 hm_704 hm_705 hm_706 hm_707 hm_708 hm_709 hm_710 hm_711 hm_712 hm_713 hm_714 hm_715 hm_716 hm_717 hm_718 hm_719 hm_720 hm_721 hm_722 hm_723 hm_724 hm_725 hm_726 hm_727 hm_728 hm_729 hm_730 hm_731 hm_732 hm_733 hm_734 hm_735 hm_736 hm_737 hm_738 hm_739 hm_740 hm_741 hm_742 hm_743 hm_744 hm_745 hm_746 hm_747 hm_748 hm_749 hm_750 hm_751 hm_752 hm_753 hm_675 hm_676 hm_677 hm_678 hm_679 hm_680 hm_681 hm_682 hm_683
            refine lv_istore (lv' := [(6, .int (-(nI w))), (5, .int (nI 0)), (0, .ref b), (1, .ref (ad 0)), (2, .ref (ad 60)), (3, .ref (ad 99)), (4, .int (nI i))]) hx hb dL_law_600 hl (by decide) rfl (fun ls hl => ?_)
            refine lv_aload_n hx hb dL_law_602 rfl (lv_at hl 4 rfl) ?_
            refine n_eqv (show Value.ref (ad 60) = .ref (ad_660 60) from by rw [hAd_686 60 (by decide)]) ?_
            refine k_Ri (va_runV (As := []) (rest := []) ⟨hx, hb, hml, hown, hts⟩ (c_X10_thrown l G z ad_660 M_757 (th := 0) (ln := n) (on := jn) (ao := ao) (vr := vr) (sn := sn) (tp := len) (pt := pt) (zs := zs) (bg := bg) (fa := fw) hm_761) (cwV 0 hts (gV (lwg_of t_997 rfl) (lwg_of t_998 rfl) (lwg_of t_999 rfl) (lwg_of t_13 rfl) (lwg_of t_1000 rfl)) rfl rfl rfl (by decide +kernel) ⟨Nat.le_of_ble_eq_true rfl, Nat.le_of_ble_eq_true rfl⟩) (hI.preV hm_761 rfl) rfl rfl hl.1 rfl (lv_room (Nat.le_of_ble_eq_true rfl)) dL_law_603 ⟨(show _ ≤ (601024 : Nat) from by omega), (show _ ≤ (7293034 : Nat) from by omega)⟩) (fun _ h => h) (fun r_838 hp_839 => ?_)
            rw [hp_839]
            refine lv_iload hx hb dL_law_606 (lv_at hl 1 rfl) ?_
            refine lv_icmp_eq (tgt := 613) hx hb dL_law_608 (by decide) (fun c_840 => ?_) (fun c_840 => ?_)
            · -- 608: nI 0 eq
              refine lv_iload hx hb dL_law_613 (lv_at hl 1 rfl) ?_
              refine lv_if_ne (tgt := 630) hx hb dL_law_615 (by decide) (fun c_841 => ?_) (fun c_841 => ?_)
              · -- 615: nI 0 ne
                exact absurd (by decide) c_841
              · -- 615: nI 0 eq
                refine lv_aload_n hx hb dL_law_618 rfl (lv_at hl 5 rfl) ?_
                refine n_eqv (show Value.ref (ad 99) = .ref (ad_660 99) from by rw [hAd_686 99 (by decide)]) ?_
                refine lv_iconst (v := nI 0) hx hb dL_law_619 (by decide) ?_
                refine h_lald (i := 0) hx hb hI hm_836 (by omega) (by decide) dL_law_620 ?_
                refine lv_iload hx hb dL_law_621 (lv_at hl 0 rfl) ?_
                refine lv_i2l (v := (-(nI w)).toInt64) hx hb dL_law_623 rfl ?_
                refine W.lcmp hx hb dL_law_624 ?_
                refine lv_if_eq (tgt := 630) hx hb dL_law_625 (by decide) (fun c_842 => ?_) (fun c_842 => ?_)
                · -- 625: lg_cmp ((vp_updL of 0 ((-(nI w)).toInt64)) 0) ((-(nI w)).toI eq
                  have c_842 : (vp_updL of 0 ((-(nI w)).toInt64)) 0 = (-(nI w)).toInt64 := (lg_cmp_eq _ _).mp c_842
                  refine lv_goto (tgt := 1333) hx hb dL_law_630 (by decide) ?_
                  refine W.widen (k := cz + 10) (n := sy + 300) (by omega) (by omega) ?_
                  exact kk ad_660 (dropM n M_757) H_758 locs_759 ls n kd fm to sz rl en qa qs fw len tb le mo al ho jn hg lst jd 0 r0 th ol e0 mm9 ff2_673 lq2_674 ra rb rt rv qm pz sx ft rx dm rc ao vr kn nq pn av ro te sq su kb nb pb ab rbb tbb 0 sn pt zs bg mk mf mu (va_up mz 120 0) rr ee oa ob s74 ak nm ap pr pf tf fv tr gv fo re us nx (vp_updL of 0 ((-(nI w)).toInt64)) (LSm.drop (LSm.mv fL (fun j hj => hF_837 j (by omega) (by omega) (by omega) (by omega) (by omega) (by omega) (by omega) (by omega) (by omega) (by omega) (by omega)) (fun j hj => hAd_684 j (by omega) (by omega) (by omega) (by omega) (by omega)))) w1 (mrel_z w2 w1) w3 w4 w5 w6 (Nat.zero_le _) (va_up_self _ _ _) (fun j9 h9 => absurd h9 (Nat.not_lt_zero j9)) (fun j9 h9 => absurd h9 (Nat.not_lt_zero j9)) (fun j9 h9 => absurd h9 (Nat.not_lt_zero j9)) (fun j9 h9 => absurd h9 (Nat.not_lt_zero j9)) (fun j9 h9 => absurd h9 (Nat.not_lt_zero j9)) w14 w15 w16 w17 w18 w19 w20 w21 w22 w23 w24 w25 w26 w27 w28 w29 (fun h9 => by rw [dropM_lo (by decide), dropM_lo (by decide)]; exact (fun h9 => by rw [hF_837 17 (by omega) (by omega) (by omega) (by omega) (by omega) (by omega) (by omega) (by omega) (by omega) (by omega) (by omega), hF_837 18 (by omega) (by omega) (by omega) (by omega) (by omega) (by omega) (by omega) (by omega) (by omega) (by omega) (by omega)]; exact w30 h9) h9) ((dropM_lo (by decide)).trans (by rw [hF_837 29 (by omega) (by omega) (by omega) (by omega) (by omega) (by omega) (by omega) (by omega) (by omega) (by omega) (by omega)]; exact w31)) (fun j9 h9 => dropM_ge h9) ((dropM_lo (by decide)).trans hm_764) ((dropM_lo (by decide)).trans hm_765) ((dropM_lo (by decide)).trans hm_766) ((dropM_lo (by decide)).trans hm_767) ((dropM_lo (by decide)).trans hm_768) ((dropM_lo (by decide)).trans hm_769) ((dropM_lo (by decide)).trans hm_770) ((dropM_lo (by decide)).trans hm_771) ((dropM_lo (by decide)).trans hm_772) ((dropM_lo (by decide)).trans hm_773) ((dropM_lo (by decide)).trans hm_774) ((dropM_lo (by decide)).trans hm_775) ((dropM_lo (by decide)).trans hm_828) ((dropM_lo (by decide)).trans hm_776) ((dropM_lo (by decide)).trans hm_777) ((dropM_lo (by decide)).trans hm_778) ((dropM_lo (by decide)).trans hm_779) ((dropM_lo (by decide)).trans hm_829) ((dropM_lo (by decide)).trans hm_830) ((dropM_lo (by decide)).trans hm_780) ((dropM_lo (by decide)).trans hm_781) ((dropM_lo (by decide)).trans hm_782) ((dropM_lo (by decide)).trans hm_783) ((dropM_lo (by decide)).trans hm_784) ((dropM_lo (by decide)).trans hm_785) ((dropM_lo (by decide)).trans hm_786) ((dropM_lo (by omega)).trans hm_787) ((dropM_lo (by omega)).trans hm_788) ((dropM_lo (by omega)).trans hm_789) ((dropM_lo (by omega)).trans hm_790) ((dropM_lo (by omega)).trans hm_791) ((dropM_lo (by omega)).trans hm_792) ((dropM_lo (by omega)).trans hm_793) ((dropM_lo (by omega)).trans hm_794) ((dropM_lo (by omega)).trans hm_795) ((dropM_lo (by omega)).trans hm_796) ((dropM_lo (by omega)).trans hm_797) ((dropM_lo (by omega)).trans hm_798) ((dropM_lo (by omega)).trans hm_799) ((dropM_lo (by omega)).trans hm_800) ((dropM_lo (by decide)).trans hm_761) ((dropM_lo (by decide)).trans hm_801) ((dropM_lo (by decide)).trans hm_802) ((dropM_lo (by decide)).trans hm_803) ((dropM_lo (by decide)).trans hm_804) ((dropM_lo (by decide)).trans hm_805) ((dropM_lo (by decide)).trans hm_806) ((dropM_lo (by decide)).trans hm_807) ((dropM_lo (by decide)).trans hm_762) ((dropM_lo (by decide)).trans hm_808) ((dropM_lo (by decide)).trans hm_809) ((dropM_lo (by decide)).trans hm_810) ((dropM_lo (by decide)).trans hm_811) ((dropM_lo (by decide)).trans hm_812) ((dropM_lo (by decide)).trans hm_813) ((dropM_lo (by decide)).trans hm_814) ((dropM_lo (by decide)).trans hm_815) ((dropM_lo (by decide)).trans hm_816) ((dropM_lo (by decide)).trans hm_817) ((dropM_lo (by decide)).trans hm_818) ((dropM_lo (by decide)).trans hm_819) ((dropM_lo (by decide)).trans hm_820) ((dropM_lo (by decide)).trans hm_821) ((dropM_lo (by decide)).trans hm_822) ((dropM_lo (by decide)).trans hm_823) ((dropM_lo (by decide)).trans hm_824) ((dropM_lo (by decide)).trans hm_825) ((dropM_lo (by decide)).trans hm_826) ((dropM_lo (by decide)).trans hm_836) (iv_drop hI) (by rw [hAd_684 0 (by omega) (by omega) (by omega) (by omega) (by omega), hAd_684 60 (by omega) (by omega) (by omega) (by omega) (by omega), hAd_684 99 (by omega) (by omega) (by omega) (by omega) (by omega)]; exact lv_sub hl [2, 3, 4, 5, 6] rfl)
                · -- 625: lg_cmp ((vp_updL of 0 ((-(nI w)).toInt64)) 0) ((-(nI w)).toI ne
                  have c_842 : (vp_updL of 0 ((-(nI w)).toInt64)) 0 ≠ (-(nI w)).toInt64 := (fun h => c_842 ((lg_cmp_eq _ _).mpr h))
                  exact absurd rfl c_842
            · -- 608: nI 0 ne
              exact absurd (by decide) c_840
          · skip
            refine lv_iadd hx hb dL_law_558 ?_
            refine n_eq (nI_add i 1) ?_
            refine va_sld (A := fr z) hx hb hX hbl hbz hI.S (vp_in_nI (n := i + 1) (by omega) (by omega)) dL_law_559 ?_
            rw [nI_clamp (by omega)]
            refine n_eq (show _ = nI t1 from et1) ?_
            have hwy := hc_654
            obtain ⟨mcn, ed, h17e, hli⟩ := fL.2.1
            refine lv_aload_n hx hb dL_law_560 rfl (lv_at hl 0 rfl) ?_
            rcases (by omega : n = 0 ∨ 0 < n) with hc_843 | hc_844
            · skip
              refine lv_iload hx hb dL_law_561 (lv_at hl 4 rfl) ?_
              have hn0 := hc_843
              obtain ⟨⟨mcn, h17z⟩, h18z⟩ := w30 hn0
              refine lv_iconst (v := nI 2) hx hb dL_law_563 (by decide) ?_
              refine lv_iadd hx hb dL_law_564 ?_
              refine n_eq (nI_add i 2) ?_
              refine va_sld (A := fr z) hx hb hX hbl hbz hI.S (vp_in_nI (n := i + 2) (by omega) (by omega)) dL_law_565 ?_
              rw [nI_clamp (by omega)]
              refine n_eq (show _ = nI a2 from e2) ?_
              refine lv_aload_n hx hb dL_law_566 rfl (lv_at hl 0 rfl) ?_
              refine lv_iload hx hb dL_law_567 (lv_at hl 4 rfl) ?_
              refine lv_iconst (v := nI 3) hx hb dL_law_569 (by decide) ?_
              refine lv_iadd hx hb dL_law_570 ?_
              refine n_eq (nI_add i 3) ?_
              refine va_sld (A := fr z) hx hb hX hbl hbz hI.S (vp_in_nI (n := i + 3) (by omega) (by omega)) dL_law_571 ?_
              rw [nI_clamp (by omega)]
              refine n_eq (show _ = nI a3 from e3) ?_
              refine lv_aload_n hx hb dL_law_572 rfl (lv_at hl 3 rfl) ?_
              have fr0 : M 100 = none := w32 _ (by omega)
              have fr1 : M 101 = none := w32 _ (by omega)
              have fr2 : M 102 = none := w32 _ (by omega)
              have fr3 : M 103 = none := w32 _ (by omega)
              have fr4 : M 104 = none := w32 _ (by omega)
              have fL0 : LSm G ad M 0 kd fm to sz rl en := by have h9 := fL; rw [hn0] at h9; exact h9
              have w1z : LSw 0 kd sz rl en := by have h9 := w1; rw [hn0] at h9; exact h9
              have w11z : ∀ j, j < s0 → e0 j < 40 + 0 := fun j hj => by have h9 := w11 j hj; omega
              have hwyz : alw le mo r0 s0 t1 6 ∧ brs fm to e0 (nI a2) (nI a3) s0 ∧ ¬ crw 0 kd fm to sz rl en lst al t1 (nI a2) (nI a3) r0 e0 s0 := by have h9 := hwy; rw [hn0] at h9; exact h9
              refine k_Ai (vx_runSW (As := [.ref (ad 0), .int (nI t1), .int (nI a2), .int (nI a3), .ref (ad 99)]) (rest := []) ⟨hx, hb, hml, hown, hts⟩ (c_L_put_k_0 l hst G z ad M (kd := kd) (fm := fm) (to := to) (sz := sz) (rl := rl) (en := en) (qa := qa) (qs := qs) (fw := fw) (s0 := s0) (r0 := r0) (th := th) (ol := ol) (e0 := e0) (le := le) (mo := mo) (al := al) (jn := jn) (lst := lst) (ff := ff) (lq := lq) (y := t1) (f := a2) (g := a3) (mcn := mcn) (of := of) f_0 f_12 f_13 f_14 f_15 h16 f_3 f_4 f_5 f_6 f_8 f_10 f_20 f_21 h17z f_99 (by omega) (by omega) fL0 w1z hc_328 w7 (by decide) w10 w11z w12 w13 hlst ht1 h23 w14 w15 w16 hwyz fr0 fr1 fr2 fr3 fr4 h18z) (vx_cwSW 5 hts (gSW (lwg_of t_616 rfl) (lwg_of t_617 rfl) (lwg_of t_0 rfl) (lwg_of t_618 rfl)) rfl rfl rfl (by decide +kernel) ⟨Nat.le_of_ble_eq_true rfl, Nat.le_of_ble_eq_true rfl⟩) hI.preS rfl rfl hl.1 rfl (lv_room (Nat.le_of_ble_eq_true rfl)) dL_law_573 ⟨(show _ ≤ (601024 : Nat) from by omega), (show _ ≤ (7293034 : Nat) from by omega)⟩) hI (fun r_845 ad_850 M_847 H_848 locs_849 hp_846 hI => ?_)
              obtain ⟨ff2_865, lq2_866, hr_851, hm_852, hm_853, hm_854, hm_855, hm_856, hm_857, hm_858, hm_859, hm_860, hm_861, hm_862, hF_863, hAd_864⟩ := hp_846
              have hm_867 : M_847 12 = some (cEnds ad_850 12 0) := hm_852
              have hm_868 : M_847 20 = some (aI G 120 ff2_865) := hm_853
              have hm_869 : M_847 21 = some (aI G 120 lq2_866) := hm_854
              have hm_870 : M_847 100 = some (cLine ad_850 100 t1 (nI a2) (nI a3)) := hm_855
              have hm_871 : M_847 101 = some (cEnds ad_850 101 s0) := hm_856
              have hm_872 : M_847 102 = some (aI G 6 (nF (frs s0 r0))) := hm_857
              have hm_873 : M_847 103 = some (aI G 6 (oF (thE (frsE s0 e0)))) := hm_858
              have hm_874 : M_847 104 = some (aI G 6 (oF (olE (frsE s0 e0)))) := hm_859
              have hm_875 : M_847 17 = some (cList ad_850 (mcn + nI 1) (ad_850 18) 1) := hm_860
              have hm_876 : M_847 18 = some (aO G 10 (va_up (fun _ => none) 0 (some (ad_850 100)))) := hm_861
              have hm_877 : M_847 99 = some (aJ G 1 (vp_updL of 0 ((nI 0).toInt64))) := hm_862
              have hAd_878 : ∀ j : Nat, j ≠ 100 → j ≠ 101 → j ≠ 102 → j ≠ 103 → j ≠ 104 → j ≠ 18 → ad_850 j = ad j := hAd_864
              have hF_879 : ∀ j : Nat, j ≠ 12 → j ≠ 20 → j ≠ 21 → j ≠ 100 → j ≠ 101 → j ≠ 102 → j ≠ 103 → j ≠ 104 → j ≠ 17 → j ≠ 18 → j ≠ 99 → M_847 j = M j := hF_863
              have hAd_880 : ∀ j : Nat, j < 100 → j ≠ 100 → j ≠ 101 → j ≠ 102 → j ≠ 103 → j ≠ 104 → j ≠ 18 → ad_850 j = ad j := fun j q9 q0 q1 q2 q3 q4 q5 => hAd_878 j q0 q1 q2 q3 q4 q5
              have hF_881 : ∀ j : Nat, j < 100 → j ≠ 12 → j ≠ 20 → j ≠ 21 → j ≠ 100 → j ≠ 101 → j ≠ 102 → j ≠ 103 → j ≠ 104 → j ≠ 17 → j ≠ 18 → j ≠ 99 → M_847 j = M j := fun j q9 q0 q1 q2 q3 q4 q5 q6 q7 q8 q9 q10 => hF_879 j q0 q1 q2 q3 q4 q5 q6 q7 q8 q9 q10
              have hm_882 : M_847 0 = some (cStore ad_850 qa qs fw) := by rw [hF_881 0 (by decide) (by decide) (by decide) (by decide) (by decide) (by decide) (by decide) (by decide) (by decide) (by decide) (by decide) (by decide), f_0]; simp only [cStore, hAd_880 1 (by decide) (by decide) (by decide) (by decide) (by decide) (by decide) (by decide), hAd_880 3 (by decide) (by decide) (by decide) (by decide) (by decide) (by decide) (by decide), hAd_880 8 (by decide) (by decide) (by decide) (by decide) (by decide) (by decide) (by decide), hAd_880 12 (by decide) (by decide) (by decide) (by decide) (by decide) (by decide) (by decide), hAd_880 16 (by decide) (by decide) (by decide) (by decide) (by decide) (by decide) (by decide), hAd_880 22 (by decide) (by decide) (by decide) (by decide) (by decide) (by decide) (by decide), hAd_880 23 (by decide) (by decide) (by decide) (by decide) (by decide) (by decide) (by decide), hAd_880 qa (by omega) (by omega) (by omega) (by omega) (by omega) (by omega) (by omega), hAd_880 qs (by omega) (by omega) (by omega) (by omega) (by omega) (by omega) (by omega)]
              have hm_883 : M_847 1 = some (cTape ad_850 len) := by rw [hF_881 1 (by decide) (by decide) (by decide) (by decide) (by decide) (by decide) (by decide) (by decide) (by decide) (by decide) (by decide) (by decide), f_1]; simp only [cTape, hAd_880 2 (by decide) (by decide) (by decide) (by decide) (by decide) (by decide) (by decide)]
              have hm_884 : M_847 2 = some (aI G 400 (nF tb)) := by rw [hF_881 2 (by decide) (by decide) (by decide) (by decide) (by decide) (by decide) (by decide) (by decide) (by decide) (by decide) (by decide) (by decide), f_2]
              have hm_885 : M_847 3 = some (cLaws ad_850 ) := by rw [hF_881 3 (by decide) (by decide) (by decide) (by decide) (by decide) (by decide) (by decide) (by decide) (by decide) (by decide) (by decide) (by decide), f_3]; simp only [cLaws, hAd_880 4 (by decide) (by decide) (by decide) (by decide) (by decide) (by decide) (by decide), hAd_880 5 (by decide) (by decide) (by decide) (by decide) (by decide) (by decide) (by decide), hAd_880 6 (by decide) (by decide) (by decide) (by decide) (by decide) (by decide) (by decide), hAd_880 7 (by decide) (by decide) (by decide) (by decide) (by decide) (by decide) (by decide)]
              have hm_886 : M_847 4 = some (aI G 36 (nF le)) := by rw [hF_881 4 (by decide) (by decide) (by decide) (by decide) (by decide) (by decide) (by decide) (by decide) (by decide) (by decide) (by decide) (by decide), f_4]
              have hm_887 : M_847 5 = some (aI G 36 (nF mo)) := by rw [hF_881 5 (by decide) (by decide) (by decide) (by decide) (by decide) (by decide) (by decide) (by decide) (by decide) (by decide) (by decide) (by decide), f_5]
              have hm_888 : M_847 6 = some (aI G 36 (nF al)) := by rw [hF_881 6 (by decide) (by decide) (by decide) (by decide) (by decide) (by decide) (by decide) (by decide) (by decide) (by decide) (by decide) (by decide), f_6]
              have hm_889 : M_847 7 = some (aZ G 6 (bF ho)) := by rw [hF_881 7 (by decide) (by decide) (by decide) (by decide) (by decide) (by decide) (by decide) (by decide) (by decide) (by decide) (by decide) (by decide), f_7]
              have hm_890 : M_847 8 = some (cOnes ad_850 jn) := by rw [hF_881 8 (by decide) (by decide) (by decide) (by decide) (by decide) (by decide) (by decide) (by decide) (by decide) (by decide) (by decide) (by decide), f_8]; simp only [cOnes, hAd_880 9 (by decide) (by decide) (by decide) (by decide) (by decide) (by decide) (by decide), hAd_880 10 (by decide) (by decide) (by decide) (by decide) (by decide) (by decide) (by decide), hAd_880 11 (by decide) (by decide) (by decide) (by decide) (by decide) (by decide) (by decide)]
              have hm_891 : M_847 9 = some (aI G 40 (nF hg)) := by rw [hF_881 9 (by decide) (by decide) (by decide) (by decide) (by decide) (by decide) (by decide) (by decide) (by decide) (by decide) (by decide) (by decide), f_9]
              have hm_892 : M_847 10 = some (aI G 40 (nF lst)) := by rw [hF_881 10 (by decide) (by decide) (by decide) (by decide) (by decide) (by decide) (by decide) (by decide) (by decide) (by decide) (by decide) (by decide), f_10]
              have hm_893 : M_847 11 = some (aI G 40 (nF jd)) := by rw [hF_881 11 (by decide) (by decide) (by decide) (by decide) (by decide) (by decide) (by decide) (by decide) (by decide) (by decide) (by decide) (by decide), f_11]
              have hm_894 : M_847 13 = some (aI G 6 (nF r0)) := by rw [hF_881 13 (by decide) (by decide) (by decide) (by decide) (by decide) (by decide) (by decide) (by decide) (by decide) (by decide) (by decide) (by decide), f_13]
              have hm_895 : M_847 14 = some (aI G 6 (oF th)) := by rw [hF_881 14 (by decide) (by decide) (by decide) (by decide) (by decide) (by decide) (by decide) (by decide) (by decide) (by decide) (by decide) (by decide), f_14]
              have hm_896 : M_847 15 = some (aI G 6 (oF ol)) := by rw [hF_881 15 (by decide) (by decide) (by decide) (by decide) (by decide) (by decide) (by decide) (by decide) (by decide) (by decide) (by decide) (by decide), f_15]
              have hm_897 : M_847 19 = some (aZ G 120 (bF mm9)) := by rw [hF_881 19 (by decide) (by decide) (by decide) (by decide) (by decide) (by decide) (by decide) (by decide) (by decide) (by decide) (by decide) (by decide), f_19]
              have hm_898 : M_847 22 = some (cReader ad_850 ra rb rt rv) := by rw [hF_881 22 (by decide) (by decide) (by decide) (by decide) (by decide) (by decide) (by decide) (by decide) (by decide) (by decide) (by decide) (by decide), f_22]
              have hm_899 : M_847 23 = some (cMatcher ad_850 qm pz) := by rw [hF_881 23 (by decide) (by decide) (by decide) (by decide) (by decide) (by decide) (by decide) (by decide) (by decide) (by decide) (by decide) (by decide), f_23]; simp only [cMatcher, hAd_880 24 (by decide) (by decide) (by decide) (by decide) (by decide) (by decide) (by decide), hAd_880 25 (by decide) (by decide) (by decide) (by decide) (by decide) (by decide) (by decide), hAd_880 26 (by decide) (by decide) (by decide) (by decide) (by decide) (by decide) (by decide), hAd_880 27 (by decide) (by decide) (by decide) (by decide) (by decide) (by decide) (by decide), hAd_880 28 (by decide) (by decide) (by decide) (by decide) (by decide) (by decide) (by decide), hAd_880 qm (by omega) (by omega) (by omega) (by omega) (by omega) (by omega) (by omega)]
              have hm_900 : M_847 24 = some (aJ G 2160 sx) := by rw [hF_881 24 (by decide) (by decide) (by decide) (by decide) (by decide) (by decide) (by decide) (by decide) (by decide) (by decide) (by decide) (by decide), f_24]
              have hm_901 : M_847 25 = some (aI G 6 (nF ft)) := by rw [hF_881 25 (by decide) (by decide) (by decide) (by decide) (by decide) (by decide) (by decide) (by decide) (by decide) (by decide) (by decide) (by decide), f_25]
              have hm_902 : M_847 26 = some (aJ G 240 rx) := by rw [hF_881 26 (by decide) (by decide) (by decide) (by decide) (by decide) (by decide) (by decide) (by decide) (by decide) (by decide) (by decide) (by decide), f_26]
              have hm_903 : M_847 27 = some (aJ G 3 dm) := by rw [hF_881 27 (by decide) (by decide) (by decide) (by decide) (by decide) (by decide) (by decide) (by decide) (by decide) (by decide) (by decide) (by decide), f_27]
              have hm_904 : M_847 28 = some (aI G 3 rc) := by rw [hF_881 28 (by decide) (by decide) (by decide) (by decide) (by decide) (by decide) (by decide) (by decide) (by decide) (by decide) (by decide) (by decide), f_28]
              have hm_905 : M_847 qa = some (cQuestion ad_850 qa ao vr) := by rw [hF_881 qa (by omega) (by omega) (by omega) (by omega) (by omega) (by omega) (by omega) (by omega) (by omega) (by omega) (by omega) (by omega), f_qa]; simp only [cQuestion, hAd_880 (qa + 1) (by omega) (by omega) (by omega) (by omega) (by omega) (by omega) (by omega), hAd_880 (qa + 2) (by omega) (by omega) (by omega) (by omega) (by omega) (by omega) (by omega), hAd_880 (qa + 3) (by omega) (by omega) (by omega) (by omega) (by omega) (by omega) (by omega), hAd_880 (qa + 4) (by omega) (by omega) (by omega) (by omega) (by omega) (by omega) (by omega), hAd_880 (qa + 5) (by omega) (by omega) (by omega) (by omega) (by omega) (by omega) (by omega), hAd_880 (qa + 6) (by omega) (by omega) (by omega) (by omega) (by omega) (by omega) (by omega)]
              have hm_906 : M_847 (qa + 1) = some (aI G 6 (nF kn)) := by rw [hF_881 (qa + 1) (by omega) (by omega) (by omega) (by omega) (by omega) (by omega) (by omega) (by omega) (by omega) (by omega) (by omega) (by omega), f_qa_1]
              have hm_907 : M_847 (qa + 2) = some (aZ G 6 (bF nq)) := by rw [hF_881 (qa + 2) (by omega) (by omega) (by omega) (by omega) (by omega) (by omega) (by omega) (by omega) (by omega) (by omega) (by omega) (by omega), f_qa_2]
              have hm_908 : M_847 (qa + 3) = some (aI G 6 (nF pn)) := by rw [hF_881 (qa + 3) (by omega) (by omega) (by omega) (by omega) (by omega) (by omega) (by omega) (by omega) (by omega) (by omega) (by omega) (by omega), f_qa_3]
              have hm_909 : M_847 (qa + 4) = some (aI G 6 (nF av)) := by rw [hF_881 (qa + 4) (by omega) (by omega) (by omega) (by omega) (by omega) (by omega) (by omega) (by omega) (by omega) (by omega) (by omega) (by omega), f_qa_4]
              have hm_910 : M_847 (qa + 5) = some (aI G 24 (nF ro)) := by rw [hF_881 (qa + 5) (by omega) (by omega) (by omega) (by omega) (by omega) (by omega) (by omega) (by omega) (by omega) (by omega) (by omega) (by omega), f_qa_5]
              have hm_911 : M_847 (qa + 6) = some (aI G 24 (nF te)) := by rw [hF_881 (qa + 6) (by omega) (by omega) (by omega) (by omega) (by omega) (by omega) (by omega) (by omega) (by omega) (by omega) (by omega) (by omega), f_qa_6]
              have hm_912 : M_847 qs = some (cQuestion ad_850 qs sq su) := by rw [hF_881 qs (by omega) (by omega) (by omega) (by omega) (by omega) (by omega) (by omega) (by omega) (by omega) (by omega) (by omega) (by omega), f_qs]; simp only [cQuestion, hAd_880 (qs + 1) (by omega) (by omega) (by omega) (by omega) (by omega) (by omega) (by omega), hAd_880 (qs + 2) (by omega) (by omega) (by omega) (by omega) (by omega) (by omega) (by omega), hAd_880 (qs + 3) (by omega) (by omega) (by omega) (by omega) (by omega) (by omega) (by omega), hAd_880 (qs + 4) (by omega) (by omega) (by omega) (by omega) (by omega) (by omega) (by omega), hAd_880 (qs + 5) (by omega) (by omega) (by omega) (by omega) (by omega) (by omega) (by omega), hAd_880 (qs + 6) (by omega) (by omega) (by omega) (by omega) (by omega) (by omega) (by omega)]
              have hm_913 : M_847 (qs + 1) = some (aI G 6 (nF kb)) := by rw [hF_881 (qs + 1) (by omega) (by omega) (by omega) (by omega) (by omega) (by omega) (by omega) (by omega) (by omega) (by omega) (by omega) (by omega), f_qs_1]
              have hm_914 : M_847 (qs + 2) = some (aZ G 6 (bF nb)) := by rw [hF_881 (qs + 2) (by omega) (by omega) (by omega) (by omega) (by omega) (by omega) (by omega) (by omega) (by omega) (by omega) (by omega) (by omega), f_qs_2]
              have hm_915 : M_847 (qs + 3) = some (aI G 6 (nF pb)) := by rw [hF_881 (qs + 3) (by omega) (by omega) (by omega) (by omega) (by omega) (by omega) (by omega) (by omega) (by omega) (by omega) (by omega) (by omega), f_qs_3]
              have hm_916 : M_847 (qs + 4) = some (aI G 6 (nF ab)) := by rw [hF_881 (qs + 4) (by omega) (by omega) (by omega) (by omega) (by omega) (by omega) (by omega) (by omega) (by omega) (by omega) (by omega) (by omega), f_qs_4]
              have hm_917 : M_847 (qs + 5) = some (aI G 24 (nF rbb)) := by rw [hF_881 (qs + 5) (by omega) (by omega) (by omega) (by omega) (by omega) (by omega) (by omega) (by omega) (by omega) (by omega) (by omega) (by omega), f_qs_5]
              have hm_918 : M_847 (qs + 6) = some (aI G 24 (nF tbb)) := by rw [hF_881 (qs + 6) (by omega) (by omega) (by omega) (by omega) (by omega) (by omega) (by omega) (by omega) (by omega) (by omega) (by omega) (by omega), f_qs_6]
              have hm_919 : M_847 60 = some (cModel ad_850 tw n jn ao vr sn len pt zs bg fw) := by rw [hF_881 60 (by decide) (by decide) (by decide) (by decide) (by decide) (by decide) (by decide) (by decide) (by decide) (by decide) (by decide) (by decide), f_60]; simp only [cModel, hAd_880 61 (by decide) (by decide) (by decide) (by decide) (by decide) (by decide) (by decide), hAd_880 62 (by decide) (by decide) (by decide) (by decide) (by decide) (by decide) (by decide), hAd_880 63 (by decide) (by decide) (by decide) (by decide) (by decide) (by decide) (by decide), hAd_880 64 (by decide) (by decide) (by decide) (by decide) (by decide) (by decide) (by decide), hAd_880 65 (by decide) (by decide) (by decide) (by decide) (by decide) (by decide) (by decide), hAd_880 66 (by decide) (by decide) (by decide) (by decide) (by decide) (by decide) (by decide), hAd_880 67 (by decide) (by decide) (by decide) (by decide) (by decide) (by decide) (by decide), hAd_880 68 (by decide) (by decide) (by decide) (by decide) (by decide) (by decide) (by decide), hAd_880 69 (by decide) (by decide) (by decide) (by decide) (by decide) (by decide) (by decide), hAd_880 70 (by decide) (by decide) (by decide) (by decide) (by decide) (by decide) (by decide), hAd_880 71 (by decide) (by decide) (by decide) (by decide) (by decide) (by decide) (by decide), hAd_880 72 (by decide) (by decide) (by decide) (by decide) (by decide) (by decide) (by decide), hAd_880 73 (by decide) (by decide) (by decide) (by decide) (by decide) (by decide) (by decide), hAd_880 74 (by decide) (by decide) (by decide) (by decide) (by decide) (by decide) (by decide), hAd_880 75 (by decide) (by decide) (by decide) (by decide) (by decide) (by decide) (by decide), hAd_880 76 (by decide) (by decide) (by decide) (by decide) (by decide) (by decide) (by decide), hAd_880 77 (by decide) (by decide) (by decide) (by decide) (by decide) (by decide) (by decide), hAd_880 78 (by decide) (by decide) (by decide) (by decide) (by decide) (by decide) (by decide), hAd_880 79 (by decide) (by decide) (by decide) (by decide) (by decide) (by decide) (by decide), hAd_880 80 (by decide) (by decide) (by decide) (by decide) (by decide) (by decide) (by decide), hAd_880 81 (by decide) (by decide) (by decide) (by decide) (by decide) (by decide) (by decide), hAd_880 82 (by decide) (by decide) (by decide) (by decide) (by decide) (by decide) (by decide), hAd_880 83 (by decide) (by decide) (by decide) (by decide) (by decide) (by decide) (by decide), hAd_880 84 (by decide) (by decide) (by decide) (by decide) (by decide) (by decide) (by decide), hAd_880 85 (by decide) (by decide) (by decide) (by decide) (by decide) (by decide) (by decide), hAd_880 86 (by decide) (by decide) (by decide) (by decide) (by decide) (by decide) (by decide), hAd_880 87 (by decide) (by decide) (by decide) (by decide) (by decide) (by decide) (by decide)]
              have hm_920 : M_847 61 = some (aI G 36 (nF le)) := by rw [hF_881 61 (by decide) (by decide) (by decide) (by decide) (by decide) (by decide) (by decide) (by decide) (by decide) (by decide) (by decide) (by decide), f_61]
              have hm_921 : M_847 62 = some (aI G 36 (nF mo)) := by rw [hF_881 62 (by decide) (by decide) (by decide) (by decide) (by decide) (by decide) (by decide) (by decide) (by decide) (by decide) (by decide) (by decide), f_62]
              have hm_922 : M_847 63 = some (aI G 36 (nF al)) := by rw [hF_881 63 (by decide) (by decide) (by decide) (by decide) (by decide) (by decide) (by decide) (by decide) (by decide) (by decide) (by decide) (by decide), f_63]
              have hm_923 : M_847 64 = some (aZ G 6 (bF ho)) := by rw [hF_881 64 (by decide) (by decide) (by decide) (by decide) (by decide) (by decide) (by decide) (by decide) (by decide) (by decide) (by decide) (by decide), f_64]
              have hm_924 : M_847 65 = some (aI G 120 (nF mk)) := by rw [hF_881 65 (by decide) (by decide) (by decide) (by decide) (by decide) (by decide) (by decide) (by decide) (by decide) (by decide) (by decide) (by decide), f_65]
              have hm_925 : M_847 66 = some (aI G 120 mf) := by rw [hF_881 66 (by decide) (by decide) (by decide) (by decide) (by decide) (by decide) (by decide) (by decide) (by decide) (by decide) (by decide) (by decide), f_66]
              have hm_926 : M_847 67 = some (aI G 120 mu) := by rw [hF_881 67 (by decide) (by decide) (by decide) (by decide) (by decide) (by decide) (by decide) (by decide) (by decide) (by decide) (by decide) (by decide), f_67]
              have hm_927 : M_847 68 = some (aI G 121 (nF mz)) := by rw [hF_881 68 (by decide) (by decide) (by decide) (by decide) (by decide) (by decide) (by decide) (by decide) (by decide) (by decide) (by decide) (by decide), f_68]
              have hm_928 : M_847 69 = some (aI G 726 (nF rr)) := by rw [hF_881 69 (by decide) (by decide) (by decide) (by decide) (by decide) (by decide) (by decide) (by decide) (by decide) (by decide) (by decide) (by decide), f_69]
              have hm_929 : M_847 70 = some (aI G 726 (nF ee)) := by rw [hF_881 70 (by decide) (by decide) (by decide) (by decide) (by decide) (by decide) (by decide) (by decide) (by decide) (by decide) (by decide) (by decide), f_70]
              have hm_930 : M_847 71 = some (aI G 40 (nF lst)) := by rw [hF_881 71 (by decide) (by decide) (by decide) (by decide) (by decide) (by decide) (by decide) (by decide) (by decide) (by decide) (by decide) (by decide), f_71]
              have hm_931 : M_847 72 = some (aI G 40 (nF oa)) := by rw [hF_881 72 (by decide) (by decide) (by decide) (by decide) (by decide) (by decide) (by decide) (by decide) (by decide) (by decide) (by decide) (by decide), f_72]
              have hm_932 : M_847 73 = some (aI G 40 (nF ob)) := by rw [hF_881 73 (by decide) (by decide) (by decide) (by decide) (by decide) (by decide) (by decide) (by decide) (by decide) (by decide) (by decide) (by decide), f_73]
              have hm_933 : M_847 74 = some (aI G 120 s74) := by rw [hF_881 74 (by decide) (by decide) (by decide) (by decide) (by decide) (by decide) (by decide) (by decide) (by decide) (by decide) (by decide) (by decide), f_74]
              have hm_934 : M_847 75 = some (aI G 12 ak) := by rw [hF_881 75 (by decide) (by decide) (by decide) (by decide) (by decide) (by decide) (by decide) (by decide) (by decide) (by decide) (by decide) (by decide), f_75]
              have hm_935 : M_847 76 = some (aZ G 12 (bF nm)) := by rw [hF_881 76 (by decide) (by decide) (by decide) (by decide) (by decide) (by decide) (by decide) (by decide) (by decide) (by decide) (by decide) (by decide), f_76]
              have hm_936 : M_847 77 = some (aI G 12 (nF ap)) := by rw [hF_881 77 (by decide) (by decide) (by decide) (by decide) (by decide) (by decide) (by decide) (by decide) (by decide) (by decide) (by decide) (by decide), f_77]
              have hm_937 : M_847 78 = some (aI G 48 pr) := by rw [hF_881 78 (by decide) (by decide) (by decide) (by decide) (by decide) (by decide) (by decide) (by decide) (by decide) (by decide) (by decide) (by decide), f_78]
              have hm_938 : M_847 79 = some (aI G 48 pf) := by rw [hF_881 79 (by decide) (by decide) (by decide) (by decide) (by decide) (by decide) (by decide) (by decide) (by decide) (by decide) (by decide) (by decide), f_79]
              have hm_939 : M_847 80 = some (aB G 400 tf) := by rw [hF_881 80 (by decide) (by decide) (by decide) (by decide) (by decide) (by decide) (by decide) (by decide) (by decide) (by decide) (by decide) (by decide), f_80]
              have hm_940 : M_847 81 = some (aI G 5 fv) := by rw [hF_881 81 (by decide) (by decide) (by decide) (by decide) (by decide) (by decide) (by decide) (by decide) (by decide) (by decide) (by decide) (by decide), f_81]
              have hm_941 : M_847 82 = some (aZ G 384000 (bF tr)) := by rw [hF_881 82 (by decide) (by decide) (by decide) (by decide) (by decide) (by decide) (by decide) (by decide) (by decide) (by decide) (by decide) (by decide), f_82]
              have hm_942 : M_847 83 = some (aI G 3 (oF gv)) := by rw [hF_881 83 (by decide) (by decide) (by decide) (by decide) (by decide) (by decide) (by decide) (by decide) (by decide) (by decide) (by decide) (by decide), f_83]
              have hm_943 : M_847 84 = some (aI G 3 fo) := by rw [hF_881 84 (by decide) (by decide) (by decide) (by decide) (by decide) (by decide) (by decide) (by decide) (by decide) (by decide) (by decide) (by decide), f_84]
              have hm_944 : M_847 85 = some (aZ G 40 (bF re)) := by rw [hF_881 85 (by decide) (by decide) (by decide) (by decide) (by decide) (by decide) (by decide) (by decide) (by decide) (by decide) (by decide) (by decide), f_85]
              have hm_945 : M_847 86 = some (aZ G 120 (bF us)) := by rw [hF_881 86 (by decide) (by decide) (by decide) (by decide) (by decide) (by decide) (by decide) (by decide) (by decide) (by decide) (by decide) (by decide), f_86]
              have hm_946 : M_847 87 = some (aZ G 120 (bF nx)) := by rw [hF_881 87 (by decide) (by decide) (by decide) (by decide) (by decide) (by decide) (by decide) (by decide) (by decide) (by decide) (by decide) (by decide), f_87]
              have hm_947 : M_847 16 = some (cLines ad_850 ) := by rw [hF_881 16 (by decide) (by decide) (by decide) (by decide) (by decide) (by decide) (by decide) (by decide) (by decide) (by decide) (by decide) (by decide), h16]; simp only [cLines, hAd_880 17 (by decide) (by decide) (by decide) (by decide) (by decide) (by decide) (by decide), hAd_880 19 (by decide) (by decide) (by decide) (by decide) (by decide) (by decide) (by decide), hAd_880 20 (by decide) (by decide) (by decide) (by decide) (by decide) (by decide) (by decide), hAd_880 21 (by decide) (by decide) (by decide) (by decide) (by decide) (by decide) (by decide)]
              have hF_948 : ∀ j : Nat, j ≠ 12 → j ≠ 20 → j ≠ 21 → j ≠ 100 → j ≠ 101 → j ≠ 102 → j ≠ 103 → j ≠ 104 → j ≠ 17 → j ≠ 18 → j ≠ 99 → M_847 j = M j := fun j q0 q1 q2 q3 q4 q5 q6 q7 q8 q9 q10 => (hF_879 j q0 q1 q2 q3 q4 q5 q6 q7 q8 q9 q10)
              rw [hr_851]
              clear f_0 f_1 f_2 f_3 f_4 f_5 f_6 f_7 f_8 f_9 f_10 f_11 f_12 f_13 f_14 f_15 f_19 f_20 f_21 f_22 f_23 f_24 f_25 f_26 f_27 f_28 f_qa f_qa_1 f_qa_2 f_qa_3 f_qa_4 f_qa_5 f_qa_6 f_qs f_qs_1 f_qs_2 f_qs_3 f_qs_4 f_qs_5 f_qs_6 f_60 f_61 f_62 f_63 f_64 f_65 f_66 f_67 f_68 f_69 f_70 f_71 f_72 f_73 f_74 f_75 f_76 f_77 f_78 f_79 f_80 f_81 f_82 f_83 f_84 f_85 f_86 f_87 f_99 h16
              refine lv_istore (lv' := [(5, .int (nI 0)), (0, .ref b), (1, .ref (ad 0)), (2, .ref (ad 60)), (3, .ref (ad 99)), (4, .int (nI i))]) hx hb dL_law_576 hl (by decide) rfl (fun ls hl => ?_)
              refine lv_aload_n hx hb dL_law_578 rfl (lv_at hl 3 rfl) ?_
              refine n_eqv (show Value.ref (ad 60) = .ref (ad_850 60) from by rw [hAd_880 60 (by decide) (by decide) (by decide) (by decide) (by decide) (by decide) (by decide)]) ?_
              refine lv_aload_n hx hb dL_law_579 rfl (lv_at hl 1 rfl) ?_
              refine lv_iload hx hb dL_law_580 (lv_at hl 5 rfl) ?_
              refine lv_iconst (v := nI 1) hx hb dL_law_582 (by decide) ?_
              refine lv_iadd hx hb dL_law_583 ?_
              refine n_eq (nI_add i 1) ?_
              refine va_sld (A := fr z) hx hb hX hbl hbz hI.S (vp_in_nI (n := i + 1) (by omega) (by omega)) dL_law_584 ?_
              rw [nI_clamp (by omega)]
              refine n_eq (show _ = nI t1 from et1) ?_
              refine lv_aload_n hx hb dL_law_585 rfl (lv_at hl 1 rfl) ?_
              refine lv_iload hx hb dL_law_586 (lv_at hl 5 rfl) ?_
              refine lv_iconst (v := nI 2) hx hb dL_law_588 (by decide) ?_
              refine lv_iadd hx hb dL_law_589 ?_
              refine n_eq (nI_add i 2) ?_
              refine va_sld (A := fr z) hx hb hX hbl hbz hI.S (vp_in_nI (n := i + 2) (by omega) (by omega)) dL_law_590 ?_
              rw [nI_clamp (by omega)]
              refine n_eq (show _ = nI a2 from e2) ?_
              refine lv_aload_n hx hb dL_law_591 rfl (lv_at hl 1 rfl) ?_
              refine lv_iload hx hb dL_law_592 (lv_at hl 5 rfl) ?_
              refine lv_iconst (v := nI 3) hx hb dL_law_594 (by decide) ?_
              refine lv_iadd hx hb dL_law_595 ?_
              refine n_eq (nI_add i 3) ?_
              refine va_sld (A := fr z) hx hb hX hbl hbz hI.S (vp_in_nI (n := i + 3) (by omega) (by omega)) dL_law_596 ?_
              rw [nI_clamp (by omega)]
              refine n_eq (show _ = nI a3 from e3) ?_
              refine k_Ni (va_runV (As := [.int (nI t1), .int (nI a2), .int (nI a3)]) (rest := []) ⟨hx, hb, hml, hown, hts⟩ (c_X10_put l G z ad_850 M_847 (th := tw) (on := jn) (ao := ao) (vr := vr) (sn := sn) (tp := len) (pt := pt) (zs := zs) (bg := bg) (fa := fw) (n := n) (kd := kd) (fm := fm) (to := to) (sz := sz) (rl := rl) (en := en) (mk := mk) (mf := mf) (mu := mu) (mz := mz) (rr := rr) (ee := ee) (le := le) (mo := mo) (al := al) (lst := lst) (s0 := s0) (r0 := r0) (e0 := e0) (y := t1) (f := a2) (g := a3) hm_919 hm_920 hm_921 hm_922 hm_924 hm_925 hm_926 hm_927 hm_928 hm_929 hm_930 w1 w2 w7 w10 w11 w8 hc_328 hc_491 w9 hlst ht1 h23 w14 w15 w16 hwy) (cwV 3 hts (gV (lwg_of t_1164 rfl) (lwg_of t_1165 rfl) (lwg_of t_1166 rfl) (lwg_of t_13 rfl) (lwg_of t_1167 rfl)) rfl rfl rfl (by decide +kernel) ⟨Nat.le_of_ble_eq_true rfl, Nat.le_of_ble_eq_true rfl⟩) (hI.preV hm_919 rfl) rfl rfl hl.1 rfl (lv_room (Nat.le_of_ble_eq_true rfl)) dL_law_597 ⟨(show _ ≤ (601024 : Nat) from by omega), (show _ ≤ (7293034 : Nat) from by omega)⟩) hI (fun r_949 M_951 H_952 locs_953 hp_950 hI => ?_)
              obtain ⟨r2_964, e2_965, hr_954, hm_955, hm_956, hm_957, hm_958, hm_959, hm_960, hm_961, hF_962, hP_963⟩ := hp_950
              have hm_966 : M_951 0 = some (cStore ad_850 qa qs fw) := by rw [hF_962 0 (by decide) (by decide) (by decide) (by decide) (by decide) (by decide) (by decide)]; exact hm_882
              have hm_967 : M_951 1 = some (cTape ad_850 len) := by rw [hF_962 1 (by decide) (by decide) (by decide) (by decide) (by decide) (by decide) (by decide)]; exact hm_883
              have hm_968 : M_951 2 = some (aI G 400 (nF tb)) := by rw [hF_962 2 (by decide) (by decide) (by decide) (by decide) (by decide) (by decide) (by decide)]; exact hm_884
              have hm_969 : M_951 3 = some (cLaws ad_850 ) := by rw [hF_962 3 (by decide) (by decide) (by decide) (by decide) (by decide) (by decide) (by decide)]; exact hm_885
              have hm_970 : M_951 4 = some (aI G 36 (nF le)) := by rw [hF_962 4 (by decide) (by decide) (by decide) (by decide) (by decide) (by decide) (by decide)]; exact hm_886
              have hm_971 : M_951 5 = some (aI G 36 (nF mo)) := by rw [hF_962 5 (by decide) (by decide) (by decide) (by decide) (by decide) (by decide) (by decide)]; exact hm_887
              have hm_972 : M_951 6 = some (aI G 36 (nF al)) := by rw [hF_962 6 (by decide) (by decide) (by decide) (by decide) (by decide) (by decide) (by decide)]; exact hm_888
              have hm_973 : M_951 7 = some (aZ G 6 (bF ho)) := by rw [hF_962 7 (by decide) (by decide) (by decide) (by decide) (by decide) (by decide) (by decide)]; exact hm_889
              have hm_974 : M_951 8 = some (cOnes ad_850 jn) := by rw [hF_962 8 (by decide) (by decide) (by decide) (by decide) (by decide) (by decide) (by decide)]; exact hm_890
              have hm_975 : M_951 9 = some (aI G 40 (nF hg)) := by rw [hF_962 9 (by decide) (by decide) (by decide) (by decide) (by decide) (by decide) (by decide)]; exact hm_891
              have hm_976 : M_951 10 = some (aI G 40 (nF lst)) := by rw [hF_962 10 (by decide) (by decide) (by decide) (by decide) (by decide) (by decide) (by decide)]; exact hm_892
              have hm_977 : M_951 11 = some (aI G 40 (nF jd)) := by rw [hF_962 11 (by decide) (by decide) (by decide) (by decide) (by decide) (by decide) (by decide)]; exact hm_893
              have hm_978 : M_951 13 = some (aI G 6 (nF r0)) := by rw [hF_962 13 (by decide) (by decide) (by decide) (by decide) (by decide) (by decide) (by decide)]; exact hm_894
              have hm_979 : M_951 14 = some (aI G 6 (oF th)) := by rw [hF_962 14 (by decide) (by decide) (by decide) (by decide) (by decide) (by decide) (by decide)]; exact hm_895
              have hm_980 : M_951 15 = some (aI G 6 (oF ol)) := by rw [hF_962 15 (by decide) (by decide) (by decide) (by decide) (by decide) (by decide) (by decide)]; exact hm_896
              have hm_981 : M_951 19 = some (aZ G 120 (bF mm9)) := by rw [hF_962 19 (by decide) (by decide) (by decide) (by decide) (by decide) (by decide) (by decide)]; exact hm_897
              have hm_982 : M_951 22 = some (cReader ad_850 ra rb rt rv) := by rw [hF_962 22 (by decide) (by decide) (by decide) (by decide) (by decide) (by decide) (by decide)]; exact hm_898
              have hm_983 : M_951 23 = some (cMatcher ad_850 qm pz) := by rw [hF_962 23 (by decide) (by decide) (by decide) (by decide) (by decide) (by decide) (by decide)]; exact hm_899
              have hm_984 : M_951 24 = some (aJ G 2160 sx) := by rw [hF_962 24 (by decide) (by decide) (by decide) (by decide) (by decide) (by decide) (by decide)]; exact hm_900
              have hm_985 : M_951 25 = some (aI G 6 (nF ft)) := by rw [hF_962 25 (by decide) (by decide) (by decide) (by decide) (by decide) (by decide) (by decide)]; exact hm_901
              have hm_986 : M_951 26 = some (aJ G 240 rx) := by rw [hF_962 26 (by decide) (by decide) (by decide) (by decide) (by decide) (by decide) (by decide)]; exact hm_902
              have hm_987 : M_951 27 = some (aJ G 3 dm) := by rw [hF_962 27 (by decide) (by decide) (by decide) (by decide) (by decide) (by decide) (by decide)]; exact hm_903
              have hm_988 : M_951 28 = some (aI G 3 rc) := by rw [hF_962 28 (by decide) (by decide) (by decide) (by decide) (by decide) (by decide) (by decide)]; exact hm_904
              have hm_989 : M_951 qa = some (cQuestion ad_850 qa ao vr) := by rw [hF_962 qa (by omega) (by omega) (by omega) (by omega) (by omega) (by omega) (by omega)]; exact hm_905
              have hm_990 : M_951 (qa + 1) = some (aI G 6 (nF kn)) := by rw [hF_962 (qa + 1) (by omega) (by omega) (by omega) (by omega) (by omega) (by omega) (by omega)]; exact hm_906
              have hm_991 : M_951 (qa + 2) = some (aZ G 6 (bF nq)) := by rw [hF_962 (qa + 2) (by omega) (by omega) (by omega) (by omega) (by omega) (by omega) (by omega)]; exact hm_907
              have hm_992 : M_951 (qa + 3) = some (aI G 6 (nF pn)) := by rw [hF_962 (qa + 3) (by omega) (by omega) (by omega) (by omega) (by omega) (by omega) (by omega)]; exact hm_908
              have hm_993 : M_951 (qa + 4) = some (aI G 6 (nF av)) := by rw [hF_962 (qa + 4) (by omega) (by omega) (by omega) (by omega) (by omega) (by omega) (by omega)]; exact hm_909
              have hm_994 : M_951 (qa + 5) = some (aI G 24 (nF ro)) := by rw [hF_962 (qa + 5) (by omega) (by omega) (by omega) (by omega) (by omega) (by omega) (by omega)]; exact hm_910
              have hm_995 : M_951 (qa + 6) = some (aI G 24 (nF te)) := by rw [hF_962 (qa + 6) (by omega) (by omega) (by omega) (by omega) (by omega) (by omega) (by omega)]; exact hm_911
              have hm_996 : M_951 qs = some (cQuestion ad_850 qs sq su) := by rw [hF_962 qs (by omega) (by omega) (by omega) (by omega) (by omega) (by omega) (by omega)]; exact hm_912
              have hm_997 : M_951 (qs + 1) = some (aI G 6 (nF kb)) := by rw [hF_962 (qs + 1) (by omega) (by omega) (by omega) (by omega) (by omega) (by omega) (by omega)]; exact hm_913
              have hm_998 : M_951 (qs + 2) = some (aZ G 6 (bF nb)) := by rw [hF_962 (qs + 2) (by omega) (by omega) (by omega) (by omega) (by omega) (by omega) (by omega)]; exact hm_914
              have hm_999 : M_951 (qs + 3) = some (aI G 6 (nF pb)) := by rw [hF_962 (qs + 3) (by omega) (by omega) (by omega) (by omega) (by omega) (by omega) (by omega)]; exact hm_915
              have hm_1000 : M_951 (qs + 4) = some (aI G 6 (nF ab)) := by rw [hF_962 (qs + 4) (by omega) (by omega) (by omega) (by omega) (by omega) (by omega) (by omega)]; exact hm_916
              have hm_1001 : M_951 (qs + 5) = some (aI G 24 (nF rbb)) := by rw [hF_962 (qs + 5) (by omega) (by omega) (by omega) (by omega) (by omega) (by omega) (by omega)]; exact hm_917
              have hm_1002 : M_951 (qs + 6) = some (aI G 24 (nF tbb)) := by rw [hF_962 (qs + 6) (by omega) (by omega) (by omega) (by omega) (by omega) (by omega) (by omega)]; exact hm_918
              have hm_1003 : M_951 61 = some (aI G 36 (nF le)) := by rw [hF_962 61 (by decide) (by decide) (by decide) (by decide) (by decide) (by decide) (by decide)]; exact hm_920
              have hm_1004 : M_951 62 = some (aI G 36 (nF mo)) := by rw [hF_962 62 (by decide) (by decide) (by decide) (by decide) (by decide) (by decide) (by decide)]; exact hm_921
              have hm_1005 : M_951 63 = some (aI G 36 (nF al)) := by rw [hF_962 63 (by decide) (by decide) (by decide) (by decide) (by decide) (by decide) (by decide)]; exact hm_922
              have hm_1006 : M_951 64 = some (aZ G 6 (bF ho)) := by rw [hF_962 64 (by decide) (by decide) (by decide) (by decide) (by decide) (by decide) (by decide)]; exact hm_923
              have hm_1007 : M_951 71 = some (aI G 40 (nF lst)) := by rw [hF_962 71 (by decide) (by decide) (by decide) (by decide) (by decide) (by decide) (by decide)]; exact hm_930
              have hm_1008 : M_951 72 = some (aI G 40 (nF oa)) := by rw [hF_962 72 (by decide) (by decide) (by decide) (by decide) (by decide) (by decide) (by decide)]; exact hm_931
              have hm_1009 : M_951 73 = some (aI G 40 (nF ob)) := by rw [hF_962 73 (by decide) (by decide) (by decide) (by decide) (by decide) (by decide) (by decide)]; exact hm_932
              have hm_1010 : M_951 74 = some (aI G 120 s74) := by rw [hF_962 74 (by decide) (by decide) (by decide) (by decide) (by decide) (by decide) (by decide)]; exact hm_933
              have hm_1011 : M_951 75 = some (aI G 12 ak) := by rw [hF_962 75 (by decide) (by decide) (by decide) (by decide) (by decide) (by decide) (by decide)]; exact hm_934
              have hm_1012 : M_951 76 = some (aZ G 12 (bF nm)) := by rw [hF_962 76 (by decide) (by decide) (by decide) (by decide) (by decide) (by decide) (by decide)]; exact hm_935
              have hm_1013 : M_951 77 = some (aI G 12 (nF ap)) := by rw [hF_962 77 (by decide) (by decide) (by decide) (by decide) (by decide) (by decide) (by decide)]; exact hm_936
              have hm_1014 : M_951 78 = some (aI G 48 pr) := by rw [hF_962 78 (by decide) (by decide) (by decide) (by decide) (by decide) (by decide) (by decide)]; exact hm_937
              have hm_1015 : M_951 79 = some (aI G 48 pf) := by rw [hF_962 79 (by decide) (by decide) (by decide) (by decide) (by decide) (by decide) (by decide)]; exact hm_938
              have hm_1016 : M_951 80 = some (aB G 400 tf) := by rw [hF_962 80 (by decide) (by decide) (by decide) (by decide) (by decide) (by decide) (by decide)]; exact hm_939
              have hm_1017 : M_951 81 = some (aI G 5 fv) := by rw [hF_962 81 (by decide) (by decide) (by decide) (by decide) (by decide) (by decide) (by decide)]; exact hm_940
              have hm_1018 : M_951 82 = some (aZ G 384000 (bF tr)) := by rw [hF_962 82 (by decide) (by decide) (by decide) (by decide) (by decide) (by decide) (by decide)]; exact hm_941
              have hm_1019 : M_951 83 = some (aI G 3 (oF gv)) := by rw [hF_962 83 (by decide) (by decide) (by decide) (by decide) (by decide) (by decide) (by decide)]; exact hm_942
              have hm_1020 : M_951 84 = some (aI G 3 fo) := by rw [hF_962 84 (by decide) (by decide) (by decide) (by decide) (by decide) (by decide) (by decide)]; exact hm_943
              have hm_1021 : M_951 85 = some (aZ G 40 (bF re)) := by rw [hF_962 85 (by decide) (by decide) (by decide) (by decide) (by decide) (by decide) (by decide)]; exact hm_944
              have hm_1022 : M_951 86 = some (aZ G 120 (bF us)) := by rw [hF_962 86 (by decide) (by decide) (by decide) (by decide) (by decide) (by decide) (by decide)]; exact hm_945
              have hm_1023 : M_951 87 = some (aZ G 120 (bF nx)) := by rw [hF_962 87 (by decide) (by decide) (by decide) (by decide) (by decide) (by decide) (by decide)]; exact hm_946
              have hm_1024 : M_951 16 = some (cLines ad_850 ) := by rw [hF_962 16 (by decide) (by decide) (by decide) (by decide) (by decide) (by decide) (by decide)]; exact hm_947
              have hm_1025 : M_951 12 = some (cEnds ad_850 12 0) := by rw [hF_962 12 (by decide) (by decide) (by decide) (by decide) (by decide) (by decide) (by decide)]; exact hm_867
              have hm_1026 : M_951 20 = some (aI G 120 ff2_865) := by rw [hF_962 20 (by decide) (by decide) (by decide) (by decide) (by decide) (by decide) (by decide)]; exact hm_868
              have hm_1027 : M_951 21 = some (aI G 120 lq2_866) := by rw [hF_962 21 (by decide) (by decide) (by decide) (by decide) (by decide) (by decide) (by decide)]; exact hm_869
              have hm_1028 : M_951 100 = some (cLine ad_850 100 t1 (nI a2) (nI a3)) := by rw [hF_962 100 (by decide) (by decide) (by decide) (by decide) (by decide) (by decide) (by decide)]; exact hm_870
              have hm_1029 : M_951 101 = some (cEnds ad_850 101 s0) := by rw [hF_962 101 (by decide) (by decide) (by decide) (by decide) (by decide) (by decide) (by decide)]; exact hm_871
              have hm_1030 : M_951 102 = some (aI G 6 (nF (frs s0 r0))) := by rw [hF_962 102 (by decide) (by decide) (by decide) (by decide) (by decide) (by decide) (by decide)]; exact hm_872
              have hm_1031 : M_951 103 = some (aI G 6 (oF (thE (frsE s0 e0)))) := by rw [hF_962 103 (by decide) (by decide) (by decide) (by decide) (by decide) (by decide) (by decide)]; exact hm_873
              have hm_1032 : M_951 104 = some (aI G 6 (oF (olE (frsE s0 e0)))) := by rw [hF_962 104 (by decide) (by decide) (by decide) (by decide) (by decide) (by decide) (by decide)]; exact hm_874
              have hm_1033 : M_951 17 = some (cList ad_850 (mcn + nI 1) (ad_850 18) 1) := by rw [hF_962 17 (by decide) (by decide) (by decide) (by decide) (by decide) (by decide) (by decide)]; exact hm_875
              have hm_1034 : M_951 18 = some (aO G 10 (va_up (fun _ => none) 0 (some (ad_850 100)))) := by rw [hF_962 18 (by decide) (by decide) (by decide) (by decide) (by decide) (by decide) (by decide)]; exact hm_876
              have hm_1035 : M_951 99 = some (aJ G 1 (vp_updL of 0 ((nI 0).toInt64))) := by rw [hF_962 99 (by decide) (by decide) (by decide) (by decide) (by decide) (by decide) (by decide)]; exact hm_877
              have hF_1036 : ∀ j : Nat, j ≠ 12 → j ≠ 20 → j ≠ 21 → j ≠ 100 → j ≠ 101 → j ≠ 102 → j ≠ 103 → j ≠ 104 → j ≠ 17 → j ≠ 18 → j ≠ 99 → j ≠ 60 → j ≠ 65 → j ≠ 66 → j ≠ 67 → j ≠ 68 → j ≠ 69 → j ≠ 70 → M_951 j = M j := fun j q0 q1 q2 q3 q4 q5 q6 q7 q8 q9 q10 q11 q12 q13 q14 q15 q16 q17 => (hF_962 j q11 q12 q13 q14 q15 q16 q17).trans (hF_948 j q0 q1 q2 q3 q4 q5 q6 q7 q8 q9 q10)
              rw [hr_954]
              clear hm_882 hm_883 hm_884 hm_885 hm_886 hm_887 hm_888 hm_889 hm_890 hm_891 hm_892 hm_893 hm_894 hm_895 hm_896 hm_897 hm_898 hm_899 hm_900 hm_901 hm_902 hm_903 hm_904 hm_905 hm_906 hm_907 hm_908 hm_909 hm_910 hm_911 hm_912 hm_913 hm_914 hm_915 hm_916 hm_917 hm_918 hm_919 hm_920 hm_921 hm_922 hm_923 hm_924 hm_925 hm_926 hm_927 hm_928 hm_929 hm_930 hm_931 hm_932 hm_933 hm_934 hm_935 hm_936 hm_937 hm_938 hm_939 hm_940 hm_941 hm_942 hm_943 hm_944 hm_945 hm_946 hm_947 hm_867 hm_868 hm_869 hm_870 hm_871 hm_872 hm_873 hm_874 hm_875 hm_876 hm_877
              refine lv_istore (lv' := [(6, .int (nI n)), (5, .int (nI 0)), (0, .ref b), (1, .ref (ad 0)), (2, .ref (ad 60)), (3, .ref (ad 99)), (4, .int (nI i))]) hx hb dL_law_600 hl (by decide) rfl (fun ls hl => ?_)
              refine lv_aload_n hx hb dL_law_602 rfl (lv_at hl 4 rfl) ?_
              refine n_eqv (show Value.ref (ad 60) = .ref (ad_850 60) from by rw [hAd_880 60 (by decide) (by decide) (by decide) (by decide) (by decide) (by decide) (by decide)]) ?_
              refine k_Ri (va_runV (As := []) (rest := []) ⟨hx, hb, hml, hown, hts⟩ (c_X10_thrown l G z ad_850 M_951 (th := 0) (ln := n + 1) (on := jn) (ao := ao) (vr := vr) (sn := sn) (tp := len) (pt := pt) (zs := zs) (bg := bg) (fa := fw) hm_955) (cwV 0 hts (gV (lwg_of t_997 rfl) (lwg_of t_998 rfl) (lwg_of t_999 rfl) (lwg_of t_13 rfl) (lwg_of t_1000 rfl)) rfl rfl rfl (by decide +kernel) ⟨Nat.le_of_ble_eq_true rfl, Nat.le_of_ble_eq_true rfl⟩) (hI.preV hm_955 rfl) rfl rfl hl.1 rfl (lv_room (Nat.le_of_ble_eq_true rfl)) dL_law_603 ⟨(show _ ≤ (601024 : Nat) from by omega), (show _ ≤ (7293034 : Nat) from by omega)⟩) (fun _ h => h) (fun r_1037 hp_1038 => ?_)
              rw [hp_1038]
              refine lv_iload hx hb dL_law_606 (lv_at hl 1 rfl) ?_
              refine lv_icmp_eq (tgt := 613) hx hb dL_law_608 (by decide) (fun c_1039 => ?_) (fun c_1039 => ?_)
              · -- 608: nI 0 eq
                refine lv_iload hx hb dL_law_613 (lv_at hl 1 rfl) ?_
                refine lv_if_ne (tgt := 630) hx hb dL_law_615 (by decide) (fun c_1040 => ?_) (fun c_1040 => ?_)
                · -- 615: nI 0 ne
                  exact absurd (by decide) c_1040
                · -- 615: nI 0 eq
                  refine lv_aload_n hx hb dL_law_618 rfl (lv_at hl 5 rfl) ?_
                  refine n_eqv (show Value.ref (ad 99) = .ref (ad_850 99) from by rw [hAd_880 99 (by decide) (by decide) (by decide) (by decide) (by decide) (by decide) (by decide)]) ?_
                  refine lv_iconst (v := nI 0) hx hb dL_law_619 (by decide) ?_
                  refine h_lald (i := 0) hx hb hI hm_1035 (by omega) (by decide) dL_law_620 ?_
                  refine n_eql (show _ = (nI n).toInt64 from updL_0.trans (by rw [hn0])) ?_
                  refine lv_iload hx hb dL_law_621 (lv_at hl 0 rfl) ?_
                  refine lv_i2l (v := (nI n).toInt64) hx hb dL_law_623 rfl ?_
                  refine W.lcmp hx hb dL_law_624 ?_
                  refine lv_if_eq (tgt := 630) hx hb dL_law_625 (by decide) (fun c_1041 => ?_) (fun c_1041 => ?_)
                  · -- 625: lg_cmp ((nI n).toInt64) ((nI n).toInt64) eq
                    have c_1041 : (nI n).toInt64 = (nI n).toInt64 := (lg_cmp_eq _ _).mp c_1041
                    refine lv_goto (tgt := 1333) hx hb dL_law_630 (by decide) ?_
                    have hn120 := hc_491
                    have hLF : ∀ i9, i9 < n + 1 → (va_up (fun _ => none) 0 (some (ad_850 100))) i9 = some (ad_850 (100 + 5 * i9)) := (fun i9 h9 => by rw [show i9 = 0 by omega]; exact va_up_self _ _ _)
                    have hNew : LSm G ad_850 M_951 (n + 1) (va_up kd n t1) (va_up fm n (nI a2)) (va_up to n (nI a3)) (va_up sz n s0) (va_up rl n (frs s0 r0)) (va_up en n (frsE s0 e0)) := LSm.new (mcn2 := mcn + nI 1) (cap2 := 10) fL (fun j hj => hF_1036 j (by omega) (by omega) (by omega) (by omega) (by omega) (by omega) (by omega) (by omega) (by omega) (by omega) (by omega) (by omega) (by omega) (by omega) (by omega) (by omega) (by omega) (by omega)) (fun j hj => hAd_878 j (by omega) (by omega) (by omega) (by omega) (by omega) (by omega)) (by rw [hn0]; exact hm_1033) hm_1034 (by omega) hLF (by rw [hn0]; exact hm_1028) (by rw [hn0]; exact hm_1029) (by rw [hn0]; exact hm_1030) (by rw [hn0]; exact hm_1031) (by rw [hn0]; exact hm_1032)
                    refine W.widen (k := cz + 10) (n := sy + 300) (by omega) (by omega) ?_
                    exact kk ad_850 M_951 H_952 locs_953 ls (n + 1) (va_up kd n t1) (va_up fm n (nI a2)) (va_up to n (nI a3)) (va_up sz n s0) (va_up rl n (frs s0 r0)) (va_up en n (frsE s0 e0)) qa qs fw len tb le mo al ho jn hg lst jd 0 r0 th ol e0 mm9 ff2_865 lq2_866 ra rb rt rv qm pz sx ft rx dm rc ao vr kn nq pn av ro te sq su kb nb pb ab rbb tbb 0 sn pt zs bg (va_up mk n t1) (upd mf n (nI a2)) (upd mu n (nI a3)) (va_up (va_up mz 120 0) n s0) r2_964 e2_965 oa ob s74 ak nm ap pr pf tf fv tr gv fo re us nx (vp_updL of 0 ((nI 0).toInt64)) hNew (lsw_new w1 hn120 ht1 w7 w10 w11) (mrel_new w2 w1 hn120 w7 w9 hP_963) w3 w4 w5 w6 (Nat.zero_le _) ((va_up_ne _ _ (by omega)).trans (va_up_self _ _ _)) (fun j9 h9 => absurd h9 (Nat.not_lt_zero j9)) (fun j9 h9 => absurd h9 (Nat.not_lt_zero j9)) (fun j9 h9 => absurd h9 (Nat.not_lt_zero j9)) (fun j9 h9 => absurd h9 (Nat.not_lt_zero j9)) (fun j9 h9 => absurd h9 (Nat.not_lt_zero j9)) w14 w15 w16 (pos_new w17 (by omega)) (ord_new w18 w1 w11 hwy.2.1) w19 w20 w21 w22 w23 w24 w25 w26 w27 w28 w29 (fun h9 => absurd h9 (by omega)) (by rw [hF_1036 29 (by omega) (by omega) (by omega) (by omega) (by omega) (by omega) (by omega) (by omega) (by omega) (by omega) (by omega) (by omega) (by omega) (by omega) (by omega) (by omega) (by omega) (by omega)]; exact w31) (fun j9 h9 => by rw [hF_1036 j9 (by omega) (by omega) (by omega) (by omega) (by omega) (by omega) (by omega) (by omega) (by omega) (by omega) (by omega) (by omega) (by omega) (by omega) (by omega) (by omega) (by omega) (by omega)]; exact w32 j9 (by omega)) hm_966 hm_967 hm_968 hm_969 hm_970 hm_971 hm_972 hm_973 hm_974 hm_975 hm_976 hm_977 hm_1025 hm_978 hm_979 hm_980 hm_981 hm_1026 hm_1027 hm_982 hm_983 hm_984 hm_985 hm_986 hm_987 hm_988 hm_989 hm_990 hm_991 hm_992 hm_993 hm_994 hm_995 hm_996 hm_997 hm_998 hm_999 hm_1000 hm_1001 hm_1002 hm_955 hm_1003 hm_1004 hm_1005 hm_1006 hm_956 hm_957 hm_958 hm_959 hm_960 hm_961 hm_1007 hm_1008 hm_1009 hm_1010 hm_1011 hm_1012 hm_1013 hm_1014 hm_1015 hm_1016 hm_1017 hm_1018 hm_1019 hm_1020 hm_1021 hm_1022 hm_1023 hm_1035 hI (by rw [hAd_878 0 (by omega) (by omega) (by omega) (by omega) (by omega) (by omega), hAd_878 60 (by omega) (by omega) (by omega) (by omega) (by omega) (by omega), hAd_878 99 (by omega) (by omega) (by omega) (by omega) (by omega) (by omega)]; exact lv_sub hl [2, 3, 4, 5, 6] rfl)
                  · -- 625: lg_cmp ((nI n).toInt64) ((nI n).toInt64) ne
                    have c_1041 : (nI n).toInt64 ≠ (nI n).toInt64 := (fun h => c_1041 ((lg_cmp_eq _ _).mpr h))
                    exact absurd rfl c_1041
              · -- 608: nI 0 ne
                exact absurd (by decide) c_1039
            · skip
              refine lv_iload hx hb dL_law_561 (lv_at hl 4 rfl) ?_
              obtain ⟨hed, cap, lf, h18e, hcp, hc1, hlf⟩ := hli hc_844
              refine lv_iconst (v := nI 2) hx hb dL_law_563 (by decide) ?_
              rcases (by omega : n < cap ∨ cap = n) with hc_1042 | hc_1043
              · skip
                refine lv_iadd hx hb dL_law_564 ?_
                refine n_eq (nI_add i 2) ?_
                refine va_sld (A := fr z) hx hb hX hbl hbz hI.S (vp_in_nI (n := i + 2) (by omega) (by omega)) dL_law_565 ?_
                rw [nI_clamp (by omega)]
                refine n_eq (show _ = nI a2 from e2) ?_
                refine lv_aload_n hx hb dL_law_566 rfl (lv_at hl 0 rfl) ?_
                refine lv_iload hx hb dL_law_567 (lv_at hl 4 rfl) ?_
                refine lv_iconst (v := nI 3) hx hb dL_law_569 (by decide) ?_
                refine lv_iadd hx hb dL_law_570 ?_
                refine n_eq (nI_add i 3) ?_
                refine va_sld (A := fr z) hx hb hX hbl hbz hI.S (vp_in_nI (n := i + 3) (by omega) (by omega)) dL_law_571 ?_
                rw [nI_clamp (by omega)]
                refine n_eq (show _ = nI a3 from e3) ?_
                refine lv_aload_n hx hb dL_law_572 rfl (lv_at hl 3 rfl) ?_
                have fr0 : M (100 + 5 * n) = none := w32 _ (by omega)
                have fr1 : M (100 + 5 * n + 1) = none := w32 _ (by omega)
                have fr2 : M (100 + 5 * n + 2) = none := w32 _ (by omega)
                have fr3 : M (100 + 5 * n + 3) = none := w32 _ (by omega)
                have fr4 : M (100 + 5 * n + 4) = none := w32 _ (by omega)
                refine k_Ai (vx_runSW (As := [.ref (ad 0), .int (nI t1), .int (nI a2), .int (nI a3), .ref (ad 99)]) (rest := []) ⟨hx, hb, hml, hown, hts⟩ (c_L_put_k_b l hst G z ad M (n := n) (kd := kd) (fm := fm) (to := to) (sz := sz) (rl := rl) (en := en) (qa := qa) (qs := qs) (fw := fw) (s0 := s0) (r0 := r0) (th := th) (ol := ol) (e0 := e0) (le := le) (mo := mo) (al := al) (jn := jn) (lst := lst) (ff := ff) (lq := lq) (y := t1) (f := a2) (g := a3) (mcn := mcn) (ed := ed) (cap := cap) (lf := lf) (of := of) f_0 f_12 f_13 f_14 f_15 h16 f_3 f_4 f_5 f_6 f_8 f_10 f_20 f_21 h17e h18e f_99 (by omega) (by omega) fL w1 hc_328 w7 hc_491 w10 w11 w12 w13 hlst ht1 h23 w14 w15 w16 hwy hed ⟨hc_1042, hc1⟩ fr0 fr1 fr2 fr3 fr4) (vx_cwSW 5 hts (gSW (lwg_of t_616 rfl) (lwg_of t_617 rfl) (lwg_of t_0 rfl) (lwg_of t_618 rfl)) rfl rfl rfl (by decide +kernel) ⟨Nat.le_of_ble_eq_true rfl, Nat.le_of_ble_eq_true rfl⟩) hI.preS rfl rfl hl.1 rfl (lv_room (Nat.le_of_ble_eq_true rfl)) dL_law_573 ⟨(show _ ≤ (601024 : Nat) from by omega), (show _ ≤ (7293034 : Nat) from by omega)⟩) hI (fun r_1044 ad_1049 M_1046 H_1047 locs_1048 hp_1045 hI => ?_)
                obtain ⟨ff2_1064, lq2_1065, hr_1050, hm_1051, hm_1052, hm_1053, hm_1054, hm_1055, hm_1056, hm_1057, hm_1058, hm_1059, hm_1060, hm_1061, hF_1062, hAd_1063⟩ := hp_1045
                have hm_1066 : M_1046 12 = some (cEnds ad_1049 12 0) := hm_1051
                have hm_1067 : M_1046 20 = some (aI G 120 ff2_1064) := hm_1052
                have hm_1068 : M_1046 21 = some (aI G 120 lq2_1065) := hm_1053
                have hm_1069 : M_1046 (100 + 5 * n) = some (cLine ad_1049 (100 + 5 * n) t1 (nI a2) (nI a3)) := hm_1054
                have hm_1070 : M_1046 (100 + 5 * n + 1) = some (cEnds ad_1049 (100 + 5 * n + 1) s0) := hm_1055
                have hm_1071 : M_1046 (100 + 5 * n + 2) = some (aI G 6 (nF (frs s0 r0))) := hm_1056
                have hm_1072 : M_1046 (100 + 5 * n + 3) = some (aI G 6 (oF (thE (frsE s0 e0)))) := hm_1057
                have hm_1073 : M_1046 (100 + 5 * n + 4) = some (aI G 6 (oF (olE (frsE s0 e0)))) := hm_1058
                have hm_1074 : M_1046 17 = some (cList ad_1049 (mcn + nI 1) ed (n + 1)) := hm_1059
                have hm_1075 : M_1046 18 = some (aO G cap (va_up lf n (some (ad_1049 (100 + 5 * n))))) := hm_1060
                have hm_1076 : M_1046 99 = some (aJ G 1 (vp_updL of 0 ((nI n).toInt64))) := hm_1061
                have hAd_1077 : ∀ j : Nat, j ≠ (100 + 5 * n) → j ≠ (100 + 5 * n + 1) → j ≠ (100 + 5 * n + 2) → j ≠ (100 + 5 * n + 3) → j ≠ (100 + 5 * n + 4) → ad_1049 j = ad j := hAd_1063
                have hF_1078 : ∀ j : Nat, j ≠ 12 → j ≠ 20 → j ≠ 21 → j ≠ (100 + 5 * n) → j ≠ (100 + 5 * n + 1) → j ≠ (100 + 5 * n + 2) → j ≠ (100 + 5 * n + 3) → j ≠ (100 + 5 * n + 4) → j ≠ 17 → j ≠ 18 → j ≠ 99 → M_1046 j = M j := hF_1062
                have hAd_1079 : ∀ j : Nat, j < 100 →  ad_1049 j = ad j := fun j q9  => hAd_1077 j (by omega) (by omega) (by omega) (by omega) (by omega)
                have hF_1080 : ∀ j : Nat, j < 100 → j ≠ 12 → j ≠ 20 → j ≠ 21 → j ≠ 17 → j ≠ 18 → j ≠ 99 → M_1046 j = M j := fun j q9 q0 q1 q2 q3 q4 q5 => hF_1078 j q0 q1 q2 (by omega) (by omega) (by omega) (by omega) (by omega) q3 q4 q5
                have hm_1081 : M_1046 0 = some (cStore ad_1049 qa qs fw) := by rw [hF_1080 0 (by decide) (by decide) (by decide) (by decide) (by decide) (by decide) (by decide), f_0]; simp only [cStore, hAd_1079 1 (by decide), hAd_1079 3 (by decide), hAd_1079 8 (by decide), hAd_1079 12 (by decide), hAd_1079 16 (by decide), hAd_1079 22 (by decide), hAd_1079 23 (by decide), hAd_1079 qa (by omega), hAd_1079 qs (by omega)]
                have hm_1082 : M_1046 1 = some (cTape ad_1049 len) := by rw [hF_1080 1 (by decide) (by decide) (by decide) (by decide) (by decide) (by decide) (by decide), f_1]; simp only [cTape, hAd_1079 2 (by decide)]
                have hm_1083 : M_1046 2 = some (aI G 400 (nF tb)) := by rw [hF_1080 2 (by decide) (by decide) (by decide) (by decide) (by decide) (by decide) (by decide), f_2]
                have hm_1084 : M_1046 3 = some (cLaws ad_1049 ) := by rw [hF_1080 3 (by decide) (by decide) (by decide) (by decide) (by decide) (by decide) (by decide), f_3]; simp only [cLaws, hAd_1079 4 (by decide), hAd_1079 5 (by decide), hAd_1079 6 (by decide), hAd_1079 7 (by decide)]
                have hm_1085 : M_1046 4 = some (aI G 36 (nF le)) := by rw [hF_1080 4 (by decide) (by decide) (by decide) (by decide) (by decide) (by decide) (by decide), f_4]
                have hm_1086 : M_1046 5 = some (aI G 36 (nF mo)) := by rw [hF_1080 5 (by decide) (by decide) (by decide) (by decide) (by decide) (by decide) (by decide), f_5]
                have hm_1087 : M_1046 6 = some (aI G 36 (nF al)) := by rw [hF_1080 6 (by decide) (by decide) (by decide) (by decide) (by decide) (by decide) (by decide), f_6]
                have hm_1088 : M_1046 7 = some (aZ G 6 (bF ho)) := by rw [hF_1080 7 (by decide) (by decide) (by decide) (by decide) (by decide) (by decide) (by decide), f_7]
                have hm_1089 : M_1046 8 = some (cOnes ad_1049 jn) := by rw [hF_1080 8 (by decide) (by decide) (by decide) (by decide) (by decide) (by decide) (by decide), f_8]; simp only [cOnes, hAd_1079 9 (by decide), hAd_1079 10 (by decide), hAd_1079 11 (by decide)]
                have hm_1090 : M_1046 9 = some (aI G 40 (nF hg)) := by rw [hF_1080 9 (by decide) (by decide) (by decide) (by decide) (by decide) (by decide) (by decide), f_9]
                have hm_1091 : M_1046 10 = some (aI G 40 (nF lst)) := by rw [hF_1080 10 (by decide) (by decide) (by decide) (by decide) (by decide) (by decide) (by decide), f_10]
                have hm_1092 : M_1046 11 = some (aI G 40 (nF jd)) := by rw [hF_1080 11 (by decide) (by decide) (by decide) (by decide) (by decide) (by decide) (by decide), f_11]
                have hm_1093 : M_1046 13 = some (aI G 6 (nF r0)) := by rw [hF_1080 13 (by decide) (by decide) (by decide) (by decide) (by decide) (by decide) (by decide), f_13]
                have hm_1094 : M_1046 14 = some (aI G 6 (oF th)) := by rw [hF_1080 14 (by decide) (by decide) (by decide) (by decide) (by decide) (by decide) (by decide), f_14]
                have hm_1095 : M_1046 15 = some (aI G 6 (oF ol)) := by rw [hF_1080 15 (by decide) (by decide) (by decide) (by decide) (by decide) (by decide) (by decide), f_15]
                have hm_1096 : M_1046 19 = some (aZ G 120 (bF mm9)) := by rw [hF_1080 19 (by decide) (by decide) (by decide) (by decide) (by decide) (by decide) (by decide), f_19]
                have hm_1097 : M_1046 22 = some (cReader ad_1049 ra rb rt rv) := by rw [hF_1080 22 (by decide) (by decide) (by decide) (by decide) (by decide) (by decide) (by decide), f_22]
                have hm_1098 : M_1046 23 = some (cMatcher ad_1049 qm pz) := by rw [hF_1080 23 (by decide) (by decide) (by decide) (by decide) (by decide) (by decide) (by decide), f_23]; simp only [cMatcher, hAd_1079 24 (by decide), hAd_1079 25 (by decide), hAd_1079 26 (by decide), hAd_1079 27 (by decide), hAd_1079 28 (by decide), hAd_1079 qm (by omega)]
                have hm_1099 : M_1046 24 = some (aJ G 2160 sx) := by rw [hF_1080 24 (by decide) (by decide) (by decide) (by decide) (by decide) (by decide) (by decide), f_24]
                have hm_1100 : M_1046 25 = some (aI G 6 (nF ft)) := by rw [hF_1080 25 (by decide) (by decide) (by decide) (by decide) (by decide) (by decide) (by decide), f_25]
                have hm_1101 : M_1046 26 = some (aJ G 240 rx) := by rw [hF_1080 26 (by decide) (by decide) (by decide) (by decide) (by decide) (by decide) (by decide), f_26]
                have hm_1102 : M_1046 27 = some (aJ G 3 dm) := by rw [hF_1080 27 (by decide) (by decide) (by decide) (by decide) (by decide) (by decide) (by decide), f_27]
                have hm_1103 : M_1046 28 = some (aI G 3 rc) := by rw [hF_1080 28 (by decide) (by decide) (by decide) (by decide) (by decide) (by decide) (by decide), f_28]
                have hm_1104 : M_1046 qa = some (cQuestion ad_1049 qa ao vr) := by rw [hF_1080 qa (by omega) (by omega) (by omega) (by omega) (by omega) (by omega) (by omega), f_qa]; simp only [cQuestion, hAd_1079 (qa + 1) (by omega), hAd_1079 (qa + 2) (by omega), hAd_1079 (qa + 3) (by omega), hAd_1079 (qa + 4) (by omega), hAd_1079 (qa + 5) (by omega), hAd_1079 (qa + 6) (by omega)]
                have hm_1105 : M_1046 (qa + 1) = some (aI G 6 (nF kn)) := by rw [hF_1080 (qa + 1) (by omega) (by omega) (by omega) (by omega) (by omega) (by omega) (by omega), f_qa_1]
                have hm_1106 : M_1046 (qa + 2) = some (aZ G 6 (bF nq)) := by rw [hF_1080 (qa + 2) (by omega) (by omega) (by omega) (by omega) (by omega) (by omega) (by omega), f_qa_2]
                have hm_1107 : M_1046 (qa + 3) = some (aI G 6 (nF pn)) := by rw [hF_1080 (qa + 3) (by omega) (by omega) (by omega) (by omega) (by omega) (by omega) (by omega), f_qa_3]
                have hm_1108 : M_1046 (qa + 4) = some (aI G 6 (nF av)) := by rw [hF_1080 (qa + 4) (by omega) (by omega) (by omega) (by omega) (by omega) (by omega) (by omega), f_qa_4]
                have hm_1109 : M_1046 (qa + 5) = some (aI G 24 (nF ro)) := by rw [hF_1080 (qa + 5) (by omega) (by omega) (by omega) (by omega) (by omega) (by omega) (by omega), f_qa_5]
                have hm_1110 : M_1046 (qa + 6) = some (aI G 24 (nF te)) := by rw [hF_1080 (qa + 6) (by omega) (by omega) (by omega) (by omega) (by omega) (by omega) (by omega), f_qa_6]
                have hm_1111 : M_1046 qs = some (cQuestion ad_1049 qs sq su) := by rw [hF_1080 qs (by omega) (by omega) (by omega) (by omega) (by omega) (by omega) (by omega), f_qs]; simp only [cQuestion, hAd_1079 (qs + 1) (by omega), hAd_1079 (qs + 2) (by omega), hAd_1079 (qs + 3) (by omega), hAd_1079 (qs + 4) (by omega), hAd_1079 (qs + 5) (by omega), hAd_1079 (qs + 6) (by omega)]
                have hm_1112 : M_1046 (qs + 1) = some (aI G 6 (nF kb)) := by rw [hF_1080 (qs + 1) (by omega) (by omega) (by omega) (by omega) (by omega) (by omega) (by omega), f_qs_1]
                have hm_1113 : M_1046 (qs + 2) = some (aZ G 6 (bF nb)) := by rw [hF_1080 (qs + 2) (by omega) (by omega) (by omega) (by omega) (by omega) (by omega) (by omega), f_qs_2]
                have hm_1114 : M_1046 (qs + 3) = some (aI G 6 (nF pb)) := by rw [hF_1080 (qs + 3) (by omega) (by omega) (by omega) (by omega) (by omega) (by omega) (by omega), f_qs_3]
                have hm_1115 : M_1046 (qs + 4) = some (aI G 6 (nF ab)) := by rw [hF_1080 (qs + 4) (by omega) (by omega) (by omega) (by omega) (by omega) (by omega) (by omega), f_qs_4]
                have hm_1116 : M_1046 (qs + 5) = some (aI G 24 (nF rbb)) := by rw [hF_1080 (qs + 5) (by omega) (by omega) (by omega) (by omega) (by omega) (by omega) (by omega), f_qs_5]
                have hm_1117 : M_1046 (qs + 6) = some (aI G 24 (nF tbb)) := by rw [hF_1080 (qs + 6) (by omega) (by omega) (by omega) (by omega) (by omega) (by omega) (by omega), f_qs_6]
                have hm_1118 : M_1046 60 = some (cModel ad_1049 tw n jn ao vr sn len pt zs bg fw) := by rw [hF_1080 60 (by decide) (by decide) (by decide) (by decide) (by decide) (by decide) (by decide), f_60]; simp only [cModel, hAd_1079 61 (by decide), hAd_1079 62 (by decide), hAd_1079 63 (by decide), hAd_1079 64 (by decide), hAd_1079 65 (by decide), hAd_1079 66 (by decide), hAd_1079 67 (by decide), hAd_1079 68 (by decide), hAd_1079 69 (by decide), hAd_1079 70 (by decide), hAd_1079 71 (by decide), hAd_1079 72 (by decide), hAd_1079 73 (by decide), hAd_1079 74 (by decide), hAd_1079 75 (by decide), hAd_1079 76 (by decide), hAd_1079 77 (by decide), hAd_1079 78 (by decide), hAd_1079 79 (by decide), hAd_1079 80 (by decide), hAd_1079 81 (by decide), hAd_1079 82 (by decide), hAd_1079 83 (by decide), hAd_1079 84 (by decide), hAd_1079 85 (by decide), hAd_1079 86 (by decide), hAd_1079 87 (by decide)]
                have hm_1119 : M_1046 61 = some (aI G 36 (nF le)) := by rw [hF_1080 61 (by decide) (by decide) (by decide) (by decide) (by decide) (by decide) (by decide), f_61]
                have hm_1120 : M_1046 62 = some (aI G 36 (nF mo)) := by rw [hF_1080 62 (by decide) (by decide) (by decide) (by decide) (by decide) (by decide) (by decide), f_62]
                have hm_1121 : M_1046 63 = some (aI G 36 (nF al)) := by rw [hF_1080 63 (by decide) (by decide) (by decide) (by decide) (by decide) (by decide) (by decide), f_63]
                have hm_1122 : M_1046 64 = some (aZ G 6 (bF ho)) := by rw [hF_1080 64 (by decide) (by decide) (by decide) (by decide) (by decide) (by decide) (by decide), f_64]
                have hm_1123 : M_1046 65 = some (aI G 120 (nF mk)) := by rw [hF_1080 65 (by decide) (by decide) (by decide) (by decide) (by decide) (by decide) (by decide), f_65]
                have hm_1124 : M_1046 66 = some (aI G 120 mf) := by rw [hF_1080 66 (by decide) (by decide) (by decide) (by decide) (by decide) (by decide) (by decide), f_66]
                have hm_1125 : M_1046 67 = some (aI G 120 mu) := by rw [hF_1080 67 (by decide) (by decide) (by decide) (by decide) (by decide) (by decide) (by decide), f_67]
                have hm_1126 : M_1046 68 = some (aI G 121 (nF mz)) := by rw [hF_1080 68 (by decide) (by decide) (by decide) (by decide) (by decide) (by decide) (by decide), f_68]
                have hm_1127 : M_1046 69 = some (aI G 726 (nF rr)) := by rw [hF_1080 69 (by decide) (by decide) (by decide) (by decide) (by decide) (by decide) (by decide), f_69]
                have hm_1128 : M_1046 70 = some (aI G 726 (nF ee)) := by rw [hF_1080 70 (by decide) (by decide) (by decide) (by decide) (by decide) (by decide) (by decide), f_70]
                have hm_1129 : M_1046 71 = some (aI G 40 (nF lst)) := by rw [hF_1080 71 (by decide) (by decide) (by decide) (by decide) (by decide) (by decide) (by decide), f_71]
                have hm_1130 : M_1046 72 = some (aI G 40 (nF oa)) := by rw [hF_1080 72 (by decide) (by decide) (by decide) (by decide) (by decide) (by decide) (by decide), f_72]
                have hm_1131 : M_1046 73 = some (aI G 40 (nF ob)) := by rw [hF_1080 73 (by decide) (by decide) (by decide) (by decide) (by decide) (by decide) (by decide), f_73]
                have hm_1132 : M_1046 74 = some (aI G 120 s74) := by rw [hF_1080 74 (by decide) (by decide) (by decide) (by decide) (by decide) (by decide) (by decide), f_74]
                have hm_1133 : M_1046 75 = some (aI G 12 ak) := by rw [hF_1080 75 (by decide) (by decide) (by decide) (by decide) (by decide) (by decide) (by decide), f_75]
                have hm_1134 : M_1046 76 = some (aZ G 12 (bF nm)) := by rw [hF_1080 76 (by decide) (by decide) (by decide) (by decide) (by decide) (by decide) (by decide), f_76]
                have hm_1135 : M_1046 77 = some (aI G 12 (nF ap)) := by rw [hF_1080 77 (by decide) (by decide) (by decide) (by decide) (by decide) (by decide) (by decide), f_77]
                have hm_1136 : M_1046 78 = some (aI G 48 pr) := by rw [hF_1080 78 (by decide) (by decide) (by decide) (by decide) (by decide) (by decide) (by decide), f_78]
                have hm_1137 : M_1046 79 = some (aI G 48 pf) := by rw [hF_1080 79 (by decide) (by decide) (by decide) (by decide) (by decide) (by decide) (by decide), f_79]
                have hm_1138 : M_1046 80 = some (aB G 400 tf) := by rw [hF_1080 80 (by decide) (by decide) (by decide) (by decide) (by decide) (by decide) (by decide), f_80]
                have hm_1139 : M_1046 81 = some (aI G 5 fv) := by rw [hF_1080 81 (by decide) (by decide) (by decide) (by decide) (by decide) (by decide) (by decide), f_81]
                have hm_1140 : M_1046 82 = some (aZ G 384000 (bF tr)) := by rw [hF_1080 82 (by decide) (by decide) (by decide) (by decide) (by decide) (by decide) (by decide), f_82]
                have hm_1141 : M_1046 83 = some (aI G 3 (oF gv)) := by rw [hF_1080 83 (by decide) (by decide) (by decide) (by decide) (by decide) (by decide) (by decide), f_83]
                have hm_1142 : M_1046 84 = some (aI G 3 fo) := by rw [hF_1080 84 (by decide) (by decide) (by decide) (by decide) (by decide) (by decide) (by decide), f_84]
                have hm_1143 : M_1046 85 = some (aZ G 40 (bF re)) := by rw [hF_1080 85 (by decide) (by decide) (by decide) (by decide) (by decide) (by decide) (by decide), f_85]
                have hm_1144 : M_1046 86 = some (aZ G 120 (bF us)) := by rw [hF_1080 86 (by decide) (by decide) (by decide) (by decide) (by decide) (by decide) (by decide), f_86]
                have hm_1145 : M_1046 87 = some (aZ G 120 (bF nx)) := by rw [hF_1080 87 (by decide) (by decide) (by decide) (by decide) (by decide) (by decide) (by decide), f_87]
                have hm_1146 : M_1046 16 = some (cLines ad_1049 ) := by rw [hF_1080 16 (by decide) (by decide) (by decide) (by decide) (by decide) (by decide) (by decide), h16]; simp only [cLines, hAd_1079 17 (by decide), hAd_1079 19 (by decide), hAd_1079 20 (by decide), hAd_1079 21 (by decide)]
                have hF_1147 : ∀ j : Nat, j ≠ 12 → j ≠ 20 → j ≠ 21 → j ≠ (100 + 5 * n) → j ≠ (100 + 5 * n + 1) → j ≠ (100 + 5 * n + 2) → j ≠ (100 + 5 * n + 3) → j ≠ (100 + 5 * n + 4) → j ≠ 17 → j ≠ 18 → j ≠ 99 → M_1046 j = M j := fun j q0 q1 q2 q3 q4 q5 q6 q7 q8 q9 q10 => (hF_1078 j q0 q1 q2 q3 q4 q5 q6 q7 q8 q9 q10)
                rw [hr_1050]
                clear f_0 f_1 f_2 f_3 f_4 f_5 f_6 f_7 f_8 f_9 f_10 f_11 f_12 f_13 f_14 f_15 f_19 f_20 f_21 f_22 f_23 f_24 f_25 f_26 f_27 f_28 f_qa f_qa_1 f_qa_2 f_qa_3 f_qa_4 f_qa_5 f_qa_6 f_qs f_qs_1 f_qs_2 f_qs_3 f_qs_4 f_qs_5 f_qs_6 f_60 f_61 f_62 f_63 f_64 f_65 f_66 f_67 f_68 f_69 f_70 f_71 f_72 f_73 f_74 f_75 f_76 f_77 f_78 f_79 f_80 f_81 f_82 f_83 f_84 f_85 f_86 f_87 f_99 h16
                refine lv_istore (lv' := [(5, .int (nI 0)), (0, .ref b), (1, .ref (ad 0)), (2, .ref (ad 60)), (3, .ref (ad 99)), (4, .int (nI i))]) hx hb dL_law_576 hl (by decide) rfl (fun ls hl => ?_)
                refine lv_aload_n hx hb dL_law_578 rfl (lv_at hl 3 rfl) ?_
                refine n_eqv (show Value.ref (ad 60) = .ref (ad_1049 60) from by rw [hAd_1079 60 (by decide)]) ?_
                refine lv_aload_n hx hb dL_law_579 rfl (lv_at hl 1 rfl) ?_
                refine lv_iload hx hb dL_law_580 (lv_at hl 5 rfl) ?_
                refine lv_iconst (v := nI 1) hx hb dL_law_582 (by decide) ?_
                refine lv_iadd hx hb dL_law_583 ?_
                refine n_eq (nI_add i 1) ?_
                refine va_sld (A := fr z) hx hb hX hbl hbz hI.S (vp_in_nI (n := i + 1) (by omega) (by omega)) dL_law_584 ?_
                rw [nI_clamp (by omega)]
                refine n_eq (show _ = nI t1 from et1) ?_
                refine lv_aload_n hx hb dL_law_585 rfl (lv_at hl 1 rfl) ?_
                refine lv_iload hx hb dL_law_586 (lv_at hl 5 rfl) ?_
                refine lv_iconst (v := nI 2) hx hb dL_law_588 (by decide) ?_
                refine lv_iadd hx hb dL_law_589 ?_
                refine n_eq (nI_add i 2) ?_
                refine va_sld (A := fr z) hx hb hX hbl hbz hI.S (vp_in_nI (n := i + 2) (by omega) (by omega)) dL_law_590 ?_
                rw [nI_clamp (by omega)]
                refine n_eq (show _ = nI a2 from e2) ?_
                refine lv_aload_n hx hb dL_law_591 rfl (lv_at hl 1 rfl) ?_
                refine lv_iload hx hb dL_law_592 (lv_at hl 5 rfl) ?_
                refine lv_iconst (v := nI 3) hx hb dL_law_594 (by decide) ?_
                refine lv_iadd hx hb dL_law_595 ?_
                refine n_eq (nI_add i 3) ?_
                refine va_sld (A := fr z) hx hb hX hbl hbz hI.S (vp_in_nI (n := i + 3) (by omega) (by omega)) dL_law_596 ?_
                rw [nI_clamp (by omega)]
                refine n_eq (show _ = nI a3 from e3) ?_
                refine k_Ni (va_runV (As := [.int (nI t1), .int (nI a2), .int (nI a3)]) (rest := []) ⟨hx, hb, hml, hown, hts⟩ (c_X10_put l G z ad_1049 M_1046 (th := tw) (on := jn) (ao := ao) (vr := vr) (sn := sn) (tp := len) (pt := pt) (zs := zs) (bg := bg) (fa := fw) (n := n) (kd := kd) (fm := fm) (to := to) (sz := sz) (rl := rl) (en := en) (mk := mk) (mf := mf) (mu := mu) (mz := mz) (rr := rr) (ee := ee) (le := le) (mo := mo) (al := al) (lst := lst) (s0 := s0) (r0 := r0) (e0 := e0) (y := t1) (f := a2) (g := a3) hm_1118 hm_1119 hm_1120 hm_1121 hm_1123 hm_1124 hm_1125 hm_1126 hm_1127 hm_1128 hm_1129 w1 w2 w7 w10 w11 w8 hc_328 hc_491 w9 hlst ht1 h23 w14 w15 w16 hwy) (cwV 3 hts (gV (lwg_of t_1164 rfl) (lwg_of t_1165 rfl) (lwg_of t_1166 rfl) (lwg_of t_13 rfl) (lwg_of t_1167 rfl)) rfl rfl rfl (by decide +kernel) ⟨Nat.le_of_ble_eq_true rfl, Nat.le_of_ble_eq_true rfl⟩) (hI.preV hm_1118 rfl) rfl rfl hl.1 rfl (lv_room (Nat.le_of_ble_eq_true rfl)) dL_law_597 ⟨(show _ ≤ (601024 : Nat) from by omega), (show _ ≤ (7293034 : Nat) from by omega)⟩) hI (fun r_1148 M_1150 H_1151 locs_1152 hp_1149 hI => ?_)
                obtain ⟨r2_1163, e2_1164, hr_1153, hm_1154, hm_1155, hm_1156, hm_1157, hm_1158, hm_1159, hm_1160, hF_1161, hP_1162⟩ := hp_1149
                have hm_1165 : M_1150 0 = some (cStore ad_1049 qa qs fw) := by rw [hF_1161 0 (by decide) (by decide) (by decide) (by decide) (by decide) (by decide) (by decide)]; exact hm_1081
                have hm_1166 : M_1150 1 = some (cTape ad_1049 len) := by rw [hF_1161 1 (by decide) (by decide) (by decide) (by decide) (by decide) (by decide) (by decide)]; exact hm_1082
                have hm_1167 : M_1150 2 = some (aI G 400 (nF tb)) := by rw [hF_1161 2 (by decide) (by decide) (by decide) (by decide) (by decide) (by decide) (by decide)]; exact hm_1083
                have hm_1168 : M_1150 3 = some (cLaws ad_1049 ) := by rw [hF_1161 3 (by decide) (by decide) (by decide) (by decide) (by decide) (by decide) (by decide)]; exact hm_1084
                have hm_1169 : M_1150 4 = some (aI G 36 (nF le)) := by rw [hF_1161 4 (by decide) (by decide) (by decide) (by decide) (by decide) (by decide) (by decide)]; exact hm_1085
                have hm_1170 : M_1150 5 = some (aI G 36 (nF mo)) := by rw [hF_1161 5 (by decide) (by decide) (by decide) (by decide) (by decide) (by decide) (by decide)]; exact hm_1086
                have hm_1171 : M_1150 6 = some (aI G 36 (nF al)) := by rw [hF_1161 6 (by decide) (by decide) (by decide) (by decide) (by decide) (by decide) (by decide)]; exact hm_1087
                have hm_1172 : M_1150 7 = some (aZ G 6 (bF ho)) := by rw [hF_1161 7 (by decide) (by decide) (by decide) (by decide) (by decide) (by decide) (by decide)]; exact hm_1088
                have hm_1173 : M_1150 8 = some (cOnes ad_1049 jn) := by rw [hF_1161 8 (by decide) (by decide) (by decide) (by decide) (by decide) (by decide) (by decide)]; exact hm_1089
                have hm_1174 : M_1150 9 = some (aI G 40 (nF hg)) := by rw [hF_1161 9 (by decide) (by decide) (by decide) (by decide) (by decide) (by decide) (by decide)]; exact hm_1090
                have hm_1175 : M_1150 10 = some (aI G 40 (nF lst)) := by rw [hF_1161 10 (by decide) (by decide) (by decide) (by decide) (by decide) (by decide) (by decide)]; exact hm_1091
                have hm_1176 : M_1150 11 = some (aI G 40 (nF jd)) := by rw [hF_1161 11 (by decide) (by decide) (by decide) (by decide) (by decide) (by decide) (by decide)]; exact hm_1092
                have hm_1177 : M_1150 13 = some (aI G 6 (nF r0)) := by rw [hF_1161 13 (by decide) (by decide) (by decide) (by decide) (by decide) (by decide) (by decide)]; exact hm_1093
                have hm_1178 : M_1150 14 = some (aI G 6 (oF th)) := by rw [hF_1161 14 (by decide) (by decide) (by decide) (by decide) (by decide) (by decide) (by decide)]; exact hm_1094
                have hm_1179 : M_1150 15 = some (aI G 6 (oF ol)) := by rw [hF_1161 15 (by decide) (by decide) (by decide) (by decide) (by decide) (by decide) (by decide)]; exact hm_1095
                have hm_1180 : M_1150 19 = some (aZ G 120 (bF mm9)) := by rw [hF_1161 19 (by decide) (by decide) (by decide) (by decide) (by decide) (by decide) (by decide)]; exact hm_1096
                have hm_1181 : M_1150 22 = some (cReader ad_1049 ra rb rt rv) := by rw [hF_1161 22 (by decide) (by decide) (by decide) (by decide) (by decide) (by decide) (by decide)]; exact hm_1097
                have hm_1182 : M_1150 23 = some (cMatcher ad_1049 qm pz) := by rw [hF_1161 23 (by decide) (by decide) (by decide) (by decide) (by decide) (by decide) (by decide)]; exact hm_1098
                have hm_1183 : M_1150 24 = some (aJ G 2160 sx) := by rw [hF_1161 24 (by decide) (by decide) (by decide) (by decide) (by decide) (by decide) (by decide)]; exact hm_1099
                have hm_1184 : M_1150 25 = some (aI G 6 (nF ft)) := by rw [hF_1161 25 (by decide) (by decide) (by decide) (by decide) (by decide) (by decide) (by decide)]; exact hm_1100
                have hm_1185 : M_1150 26 = some (aJ G 240 rx) := by rw [hF_1161 26 (by decide) (by decide) (by decide) (by decide) (by decide) (by decide) (by decide)]; exact hm_1101
                have hm_1186 : M_1150 27 = some (aJ G 3 dm) := by rw [hF_1161 27 (by decide) (by decide) (by decide) (by decide) (by decide) (by decide) (by decide)]; exact hm_1102
                have hm_1187 : M_1150 28 = some (aI G 3 rc) := by rw [hF_1161 28 (by decide) (by decide) (by decide) (by decide) (by decide) (by decide) (by decide)]; exact hm_1103
                have hm_1188 : M_1150 qa = some (cQuestion ad_1049 qa ao vr) := by rw [hF_1161 qa (by omega) (by omega) (by omega) (by omega) (by omega) (by omega) (by omega)]; exact hm_1104
                have hm_1189 : M_1150 (qa + 1) = some (aI G 6 (nF kn)) := by rw [hF_1161 (qa + 1) (by omega) (by omega) (by omega) (by omega) (by omega) (by omega) (by omega)]; exact hm_1105
                have hm_1190 : M_1150 (qa + 2) = some (aZ G 6 (bF nq)) := by rw [hF_1161 (qa + 2) (by omega) (by omega) (by omega) (by omega) (by omega) (by omega) (by omega)]; exact hm_1106
                have hm_1191 : M_1150 (qa + 3) = some (aI G 6 (nF pn)) := by rw [hF_1161 (qa + 3) (by omega) (by omega) (by omega) (by omega) (by omega) (by omega) (by omega)]; exact hm_1107
                have hm_1192 : M_1150 (qa + 4) = some (aI G 6 (nF av)) := by rw [hF_1161 (qa + 4) (by omega) (by omega) (by omega) (by omega) (by omega) (by omega) (by omega)]; exact hm_1108
                have hm_1193 : M_1150 (qa + 5) = some (aI G 24 (nF ro)) := by rw [hF_1161 (qa + 5) (by omega) (by omega) (by omega) (by omega) (by omega) (by omega) (by omega)]; exact hm_1109
                have hm_1194 : M_1150 (qa + 6) = some (aI G 24 (nF te)) := by rw [hF_1161 (qa + 6) (by omega) (by omega) (by omega) (by omega) (by omega) (by omega) (by omega)]; exact hm_1110
                have hm_1195 : M_1150 qs = some (cQuestion ad_1049 qs sq su) := by rw [hF_1161 qs (by omega) (by omega) (by omega) (by omega) (by omega) (by omega) (by omega)]; exact hm_1111
                have hm_1196 : M_1150 (qs + 1) = some (aI G 6 (nF kb)) := by rw [hF_1161 (qs + 1) (by omega) (by omega) (by omega) (by omega) (by omega) (by omega) (by omega)]; exact hm_1112
                have hm_1197 : M_1150 (qs + 2) = some (aZ G 6 (bF nb)) := by rw [hF_1161 (qs + 2) (by omega) (by omega) (by omega) (by omega) (by omega) (by omega) (by omega)]; exact hm_1113
                have hm_1198 : M_1150 (qs + 3) = some (aI G 6 (nF pb)) := by rw [hF_1161 (qs + 3) (by omega) (by omega) (by omega) (by omega) (by omega) (by omega) (by omega)]; exact hm_1114
                have hm_1199 : M_1150 (qs + 4) = some (aI G 6 (nF ab)) := by rw [hF_1161 (qs + 4) (by omega) (by omega) (by omega) (by omega) (by omega) (by omega) (by omega)]; exact hm_1115
                have hm_1200 : M_1150 (qs + 5) = some (aI G 24 (nF rbb)) := by rw [hF_1161 (qs + 5) (by omega) (by omega) (by omega) (by omega) (by omega) (by omega) (by omega)]; exact hm_1116
                have hm_1201 : M_1150 (qs + 6) = some (aI G 24 (nF tbb)) := by rw [hF_1161 (qs + 6) (by omega) (by omega) (by omega) (by omega) (by omega) (by omega) (by omega)]; exact hm_1117
                have hm_1202 : M_1150 61 = some (aI G 36 (nF le)) := by rw [hF_1161 61 (by decide) (by decide) (by decide) (by decide) (by decide) (by decide) (by decide)]; exact hm_1119
                have hm_1203 : M_1150 62 = some (aI G 36 (nF mo)) := by rw [hF_1161 62 (by decide) (by decide) (by decide) (by decide) (by decide) (by decide) (by decide)]; exact hm_1120
                have hm_1204 : M_1150 63 = some (aI G 36 (nF al)) := by rw [hF_1161 63 (by decide) (by decide) (by decide) (by decide) (by decide) (by decide) (by decide)]; exact hm_1121
                have hm_1205 : M_1150 64 = some (aZ G 6 (bF ho)) := by rw [hF_1161 64 (by decide) (by decide) (by decide) (by decide) (by decide) (by decide) (by decide)]; exact hm_1122
                have hm_1206 : M_1150 71 = some (aI G 40 (nF lst)) := by rw [hF_1161 71 (by decide) (by decide) (by decide) (by decide) (by decide) (by decide) (by decide)]; exact hm_1129
                have hm_1207 : M_1150 72 = some (aI G 40 (nF oa)) := by rw [hF_1161 72 (by decide) (by decide) (by decide) (by decide) (by decide) (by decide) (by decide)]; exact hm_1130
                have hm_1208 : M_1150 73 = some (aI G 40 (nF ob)) := by rw [hF_1161 73 (by decide) (by decide) (by decide) (by decide) (by decide) (by decide) (by decide)]; exact hm_1131
                have hm_1209 : M_1150 74 = some (aI G 120 s74) := by rw [hF_1161 74 (by decide) (by decide) (by decide) (by decide) (by decide) (by decide) (by decide)]; exact hm_1132
                have hm_1210 : M_1150 75 = some (aI G 12 ak) := by rw [hF_1161 75 (by decide) (by decide) (by decide) (by decide) (by decide) (by decide) (by decide)]; exact hm_1133
                have hm_1211 : M_1150 76 = some (aZ G 12 (bF nm)) := by rw [hF_1161 76 (by decide) (by decide) (by decide) (by decide) (by decide) (by decide) (by decide)]; exact hm_1134
                have hm_1212 : M_1150 77 = some (aI G 12 (nF ap)) := by rw [hF_1161 77 (by decide) (by decide) (by decide) (by decide) (by decide) (by decide) (by decide)]; exact hm_1135
                have hm_1213 : M_1150 78 = some (aI G 48 pr) := by rw [hF_1161 78 (by decide) (by decide) (by decide) (by decide) (by decide) (by decide) (by decide)]; exact hm_1136
                have hm_1214 : M_1150 79 = some (aI G 48 pf) := by rw [hF_1161 79 (by decide) (by decide) (by decide) (by decide) (by decide) (by decide) (by decide)]; exact hm_1137
                have hm_1215 : M_1150 80 = some (aB G 400 tf) := by rw [hF_1161 80 (by decide) (by decide) (by decide) (by decide) (by decide) (by decide) (by decide)]; exact hm_1138
                have hm_1216 : M_1150 81 = some (aI G 5 fv) := by rw [hF_1161 81 (by decide) (by decide) (by decide) (by decide) (by decide) (by decide) (by decide)]; exact hm_1139
                have hm_1217 : M_1150 82 = some (aZ G 384000 (bF tr)) := by rw [hF_1161 82 (by decide) (by decide) (by decide) (by decide) (by decide) (by decide) (by decide)]; exact hm_1140
                have hm_1218 : M_1150 83 = some (aI G 3 (oF gv)) := by rw [hF_1161 83 (by decide) (by decide) (by decide) (by decide) (by decide) (by decide) (by decide)]; exact hm_1141
                have hm_1219 : M_1150 84 = some (aI G 3 fo) := by rw [hF_1161 84 (by decide) (by decide) (by decide) (by decide) (by decide) (by decide) (by decide)]; exact hm_1142
                have hm_1220 : M_1150 85 = some (aZ G 40 (bF re)) := by rw [hF_1161 85 (by decide) (by decide) (by decide) (by decide) (by decide) (by decide) (by decide)]; exact hm_1143
                have hm_1221 : M_1150 86 = some (aZ G 120 (bF us)) := by rw [hF_1161 86 (by decide) (by decide) (by decide) (by decide) (by decide) (by decide) (by decide)]; exact hm_1144
                have hm_1222 : M_1150 87 = some (aZ G 120 (bF nx)) := by rw [hF_1161 87 (by decide) (by decide) (by decide) (by decide) (by decide) (by decide) (by decide)]; exact hm_1145
                have hm_1223 : M_1150 16 = some (cLines ad_1049 ) := by rw [hF_1161 16 (by decide) (by decide) (by decide) (by decide) (by decide) (by decide) (by decide)]; exact hm_1146
                have hm_1224 : M_1150 12 = some (cEnds ad_1049 12 0) := by rw [hF_1161 12 (by decide) (by decide) (by decide) (by decide) (by decide) (by decide) (by decide)]; exact hm_1066
                have hm_1225 : M_1150 20 = some (aI G 120 ff2_1064) := by rw [hF_1161 20 (by decide) (by decide) (by decide) (by decide) (by decide) (by decide) (by decide)]; exact hm_1067
                have hm_1226 : M_1150 21 = some (aI G 120 lq2_1065) := by rw [hF_1161 21 (by decide) (by decide) (by decide) (by decide) (by decide) (by decide) (by decide)]; exact hm_1068
                have hm_1227 : M_1150 (100 + 5 * n) = some (cLine ad_1049 (100 + 5 * n) t1 (nI a2) (nI a3)) := by rw [hF_1161 (100 + 5 * n) (by omega) (by omega) (by omega) (by omega) (by omega) (by omega) (by omega)]; exact hm_1069
                have hm_1228 : M_1150 (100 + 5 * n + 1) = some (cEnds ad_1049 (100 + 5 * n + 1) s0) := by rw [hF_1161 (100 + 5 * n + 1) (by omega) (by omega) (by omega) (by omega) (by omega) (by omega) (by omega)]; exact hm_1070
                have hm_1229 : M_1150 (100 + 5 * n + 2) = some (aI G 6 (nF (frs s0 r0))) := by rw [hF_1161 (100 + 5 * n + 2) (by omega) (by omega) (by omega) (by omega) (by omega) (by omega) (by omega)]; exact hm_1071
                have hm_1230 : M_1150 (100 + 5 * n + 3) = some (aI G 6 (oF (thE (frsE s0 e0)))) := by rw [hF_1161 (100 + 5 * n + 3) (by omega) (by omega) (by omega) (by omega) (by omega) (by omega) (by omega)]; exact hm_1072
                have hm_1231 : M_1150 (100 + 5 * n + 4) = some (aI G 6 (oF (olE (frsE s0 e0)))) := by rw [hF_1161 (100 + 5 * n + 4) (by omega) (by omega) (by omega) (by omega) (by omega) (by omega) (by omega)]; exact hm_1073
                have hm_1232 : M_1150 17 = some (cList ad_1049 (mcn + nI 1) ed (n + 1)) := by rw [hF_1161 17 (by decide) (by decide) (by decide) (by decide) (by decide) (by decide) (by decide)]; exact hm_1074
                have hm_1233 : M_1150 18 = some (aO G cap (va_up lf n (some (ad_1049 (100 + 5 * n))))) := by rw [hF_1161 18 (by decide) (by decide) (by decide) (by decide) (by decide) (by decide) (by decide)]; exact hm_1075
                have hm_1234 : M_1150 99 = some (aJ G 1 (vp_updL of 0 ((nI n).toInt64))) := by rw [hF_1161 99 (by decide) (by decide) (by decide) (by decide) (by decide) (by decide) (by decide)]; exact hm_1076
                have hF_1235 : ∀ j : Nat, j ≠ 12 → j ≠ 20 → j ≠ 21 → j ≠ (100 + 5 * n) → j ≠ (100 + 5 * n + 1) → j ≠ (100 + 5 * n + 2) → j ≠ (100 + 5 * n + 3) → j ≠ (100 + 5 * n + 4) → j ≠ 17 → j ≠ 18 → j ≠ 99 → j ≠ 60 → j ≠ 65 → j ≠ 66 → j ≠ 67 → j ≠ 68 → j ≠ 69 → j ≠ 70 → M_1150 j = M j := fun j q0 q1 q2 q3 q4 q5 q6 q7 q8 q9 q10 q11 q12 q13 q14 q15 q16 q17 => (hF_1161 j q11 q12 q13 q14 q15 q16 q17).trans (hF_1147 j q0 q1 q2 q3 q4 q5 q6 q7 q8 q9 q10)
                rw [hr_1153]
                clear hm_1081 hm_1082 hm_1083 hm_1084 hm_1085 hm_1086 hm_1087 hm_1088 hm_1089 hm_1090 hm_1091 hm_1092 hm_1093 hm_1094 hm_1095 hm_1096 hm_1097 hm_1098 hm_1099 hm_1100 hm_1101 hm_1102 hm_1103 hm_1104 hm_1105 hm_1106 hm_1107 hm_1108 hm_1109 hm_1110 hm_1111 hm_1112 hm_1113 hm_1114 hm_1115 hm_1116 hm_1117 hm_1118 hm_1119 hm_1120 hm_1121 hm_1122 hm_1123 hm_1124 hm_1125 hm_1126 hm_1127 hm_1128 hm_1129 hm_1130 hm_1131 hm_1132 hm_1133 hm_1134 hm_1135 hm_1136 hm_1137 hm_1138 hm_1139 hm_1140 hm_1141 hm_1142 hm_1143 hm_1144 hm_1145 hm_1146 hm_1066 hm_1067 hm_1068 hm_1069 hm_1070 hm_1071 hm_1072 hm_1073 hm_1074 hm_1075 hm_1076
                refine lv_istore (lv' := [(6, .int (nI n)), (5, .int (nI 0)), (0, .ref b), (1, .ref (ad 0)), (2, .ref (ad 60)), (3, .ref (ad 99)), (4, .int (nI i))]) hx hb dL_law_600 hl (by decide) rfl (fun ls hl => ?_)
                refine lv_aload_n hx hb dL_law_602 rfl (lv_at hl 4 rfl) ?_
                refine n_eqv (show Value.ref (ad 60) = .ref (ad_1049 60) from by rw [hAd_1079 60 (by decide)]) ?_
                refine k_Ri (va_runV (As := []) (rest := []) ⟨hx, hb, hml, hown, hts⟩ (c_X10_thrown l G z ad_1049 M_1150 (th := 0) (ln := n + 1) (on := jn) (ao := ao) (vr := vr) (sn := sn) (tp := len) (pt := pt) (zs := zs) (bg := bg) (fa := fw) hm_1154) (cwV 0 hts (gV (lwg_of t_997 rfl) (lwg_of t_998 rfl) (lwg_of t_999 rfl) (lwg_of t_13 rfl) (lwg_of t_1000 rfl)) rfl rfl rfl (by decide +kernel) ⟨Nat.le_of_ble_eq_true rfl, Nat.le_of_ble_eq_true rfl⟩) (hI.preV hm_1154 rfl) rfl rfl hl.1 rfl (lv_room (Nat.le_of_ble_eq_true rfl)) dL_law_603 ⟨(show _ ≤ (601024 : Nat) from by omega), (show _ ≤ (7293034 : Nat) from by omega)⟩) (fun _ h => h) (fun r_1236 hp_1237 => ?_)
                rw [hp_1237]
                refine lv_iload hx hb dL_law_606 (lv_at hl 1 rfl) ?_
                refine lv_icmp_eq (tgt := 613) hx hb dL_law_608 (by decide) (fun c_1238 => ?_) (fun c_1238 => ?_)
                · -- 608: nI 0 eq
                  refine lv_iload hx hb dL_law_613 (lv_at hl 1 rfl) ?_
                  refine lv_if_ne (tgt := 630) hx hb dL_law_615 (by decide) (fun c_1239 => ?_) (fun c_1239 => ?_)
                  · -- 615: nI 0 ne
                    exact absurd (by decide) c_1239
                  · -- 615: nI 0 eq
                    refine lv_aload_n hx hb dL_law_618 rfl (lv_at hl 5 rfl) ?_
                    refine n_eqv (show Value.ref (ad 99) = .ref (ad_1049 99) from by rw [hAd_1079 99 (by decide)]) ?_
                    refine lv_iconst (v := nI 0) hx hb dL_law_619 (by decide) ?_
                    refine h_lald (i := 0) hx hb hI hm_1234 (by omega) (by decide) dL_law_620 ?_
                    refine lv_iload hx hb dL_law_621 (lv_at hl 0 rfl) ?_
                    refine lv_i2l (v := (nI n).toInt64) hx hb dL_law_623 rfl ?_
                    refine W.lcmp hx hb dL_law_624 ?_
                    refine lv_if_eq (tgt := 630) hx hb dL_law_625 (by decide) (fun c_1240 => ?_) (fun c_1240 => ?_)
                    · -- 625: lg_cmp ((vp_updL of 0 ((nI n).toInt64)) 0) ((nI n).toInt64) eq
                      have c_1240 : (vp_updL of 0 ((nI n).toInt64)) 0 = (nI n).toInt64 := (lg_cmp_eq _ _).mp c_1240
                      refine lv_goto (tgt := 1333) hx hb dL_law_630 (by decide) ?_
                      have hn120 := hc_491
                      have hLF : ∀ i9, i9 < n + 1 → (va_up lf n (some (ad_1049 (100 + 5 * n)))) i9 = some (ad_1049 (100 + 5 * i9)) := (fun i9 h9 => by
                        by_cases e9 : i9 = n
                        · rw [e9]; exact va_up_self _ _ _
                        · rw [va_up_ne _ _ e9, hlf i9 (by omega), hAd_1077 (100 + 5 * i9) (by omega) (by omega) (by omega) (by omega) (by omega)])
                      have hNew : LSm G ad_1049 M_1150 (n + 1) (va_up kd n t1) (va_up fm n (nI a2)) (va_up to n (nI a3)) (va_up sz n s0) (va_up rl n (frs s0 r0)) (va_up en n (frsE s0 e0)) := LSm.new (mcn2 := mcn + nI 1) (cap2 := cap) fL (fun j hj => hF_1235 j (by omega) (by omega) (by omega) (by omega) (by omega) (by omega) (by omega) (by omega) (by omega) (by omega) (by omega) (by omega) (by omega) (by omega) (by omega) (by omega) (by omega) (by omega)) (fun j hj => hAd_1077 j (by omega) (by omega) (by omega) (by omega) (by omega)) (by rw [hAd_1077 18 (by omega) (by omega) (by omega) (by omega) (by omega), ← hed]; exact hm_1232) hm_1233 ⟨hc_1042, hc1⟩ hLF hm_1227 hm_1228 hm_1229 hm_1230 hm_1231
                      refine W.widen (k := cz + 10) (n := sy + 300) (by omega) (by omega) ?_
                      exact kk ad_1049 M_1150 H_1151 locs_1152 ls (n + 1) (va_up kd n t1) (va_up fm n (nI a2)) (va_up to n (nI a3)) (va_up sz n s0) (va_up rl n (frs s0 r0)) (va_up en n (frsE s0 e0)) qa qs fw len tb le mo al ho jn hg lst jd 0 r0 th ol e0 mm9 ff2_1064 lq2_1065 ra rb rt rv qm pz sx ft rx dm rc ao vr kn nq pn av ro te sq su kb nb pb ab rbb tbb 0 sn pt zs bg (va_up mk n t1) (upd mf n (nI a2)) (upd mu n (nI a3)) (va_up (va_up mz 120 0) n s0) r2_1163 e2_1164 oa ob s74 ak nm ap pr pf tf fv tr gv fo re us nx (vp_updL of 0 ((nI n).toInt64)) hNew (lsw_new w1 hn120 ht1 w7 w10 w11) (mrel_new w2 w1 hn120 w7 w9 hP_1162) w3 w4 w5 w6 (Nat.zero_le _) ((va_up_ne _ _ (by omega)).trans (va_up_self _ _ _)) (fun j9 h9 => absurd h9 (Nat.not_lt_zero j9)) (fun j9 h9 => absurd h9 (Nat.not_lt_zero j9)) (fun j9 h9 => absurd h9 (Nat.not_lt_zero j9)) (fun j9 h9 => absurd h9 (Nat.not_lt_zero j9)) (fun j9 h9 => absurd h9 (Nat.not_lt_zero j9)) w14 w15 w16 (pos_new w17 (by omega)) (ord_new w18 w1 w11 hwy.2.1) w19 w20 w21 w22 w23 w24 w25 w26 w27 w28 w29 (fun h9 => absurd h9 (by omega)) (by rw [hF_1235 29 (by omega) (by omega) (by omega) (by omega) (by omega) (by omega) (by omega) (by omega) (by omega) (by omega) (by omega) (by omega) (by omega) (by omega) (by omega) (by omega) (by omega) (by omega)]; exact w31) (fun j9 h9 => by rw [hF_1235 j9 (by omega) (by omega) (by omega) (by omega) (by omega) (by omega) (by omega) (by omega) (by omega) (by omega) (by omega) (by omega) (by omega) (by omega) (by omega) (by omega) (by omega) (by omega)]; exact w32 j9 (by omega)) hm_1165 hm_1166 hm_1167 hm_1168 hm_1169 hm_1170 hm_1171 hm_1172 hm_1173 hm_1174 hm_1175 hm_1176 hm_1224 hm_1177 hm_1178 hm_1179 hm_1180 hm_1225 hm_1226 hm_1181 hm_1182 hm_1183 hm_1184 hm_1185 hm_1186 hm_1187 hm_1188 hm_1189 hm_1190 hm_1191 hm_1192 hm_1193 hm_1194 hm_1195 hm_1196 hm_1197 hm_1198 hm_1199 hm_1200 hm_1201 hm_1154 hm_1202 hm_1203 hm_1204 hm_1205 hm_1155 hm_1156 hm_1157 hm_1158 hm_1159 hm_1160 hm_1206 hm_1207 hm_1208 hm_1209 hm_1210 hm_1211 hm_1212 hm_1213 hm_1214 hm_1215 hm_1216 hm_1217 hm_1218 hm_1219 hm_1220 hm_1221 hm_1222 hm_1234 hI (by rw [hAd_1077 0 (by omega) (by omega) (by omega) (by omega) (by omega), hAd_1077 60 (by omega) (by omega) (by omega) (by omega) (by omega), hAd_1077 99 (by omega) (by omega) (by omega) (by omega) (by omega)]; exact lv_sub hl [2, 3, 4, 5, 6] rfl)
                    · -- 625: lg_cmp ((vp_updL of 0 ((nI n).toInt64)) 0) ((nI n).toInt64) ne
                      have c_1240 : (vp_updL of 0 ((nI n).toInt64)) 0 ≠ (nI n).toInt64 := (fun h => c_1240 ((lg_cmp_eq _ _).mpr h))
                      exact absurd rfl c_1240
                · -- 608: nI 0 ne
                  exact absurd (by decide) c_1238
              · skip
                refine lv_iadd hx hb dL_law_564 ?_
                refine n_eq (nI_add i 2) ?_
                refine va_sld (A := fr z) hx hb hX hbl hbz hI.S (vp_in_nI (n := i + 2) (by omega) (by omega)) dL_law_565 ?_
                rw [nI_clamp (by omega)]
                refine n_eq (show _ = nI a2 from e2) ?_
                refine lv_aload_n hx hb dL_law_566 rfl (lv_at hl 0 rfl) ?_
                refine lv_iload hx hb dL_law_567 (lv_at hl 4 rfl) ?_
                refine lv_iconst (v := nI 3) hx hb dL_law_569 (by decide) ?_
                refine lv_iadd hx hb dL_law_570 ?_
                refine n_eq (nI_add i 3) ?_
                refine va_sld (A := fr z) hx hb hX hbl hbz hI.S (vp_in_nI (n := i + 3) (by omega) (by omega)) dL_law_571 ?_
                rw [nI_clamp (by omega)]
                refine n_eq (show _ = nI a3 from e3) ?_
                refine lv_aload_n hx hb dL_law_572 rfl (lv_at hl 3 rfl) ?_
                have fr0 : M (100 + 5 * n) = none := w32 _ (by omega)
                have fr1 : M (100 + 5 * n + 1) = none := w32 _ (by omega)
                have fr2 : M (100 + 5 * n + 2) = none := w32 _ (by omega)
                have fr3 : M (100 + 5 * n + 3) = none := w32 _ (by omega)
                have fr4 : M (100 + 5 * n + 4) = none := w32 _ (by omega)
                have h18n : M 18 = some (aO G n lf) := by rw [h18e, hc_1043]
                refine k_Ai (vx_runSW (As := [.ref (ad 0), .int (nI t1), .int (nI a2), .int (nI a3), .ref (ad 99)]) (rest := []) ⟨hx, hb, hml, hown, hts⟩ (c_L_put_k_1 l hst G z ad M (n := n) (kd := kd) (fm := fm) (to := to) (sz := sz) (rl := rl) (en := en) (qa := qa) (qs := qs) (fw := fw) (s0 := s0) (r0 := r0) (th := th) (ol := ol) (e0 := e0) (le := le) (mo := mo) (al := al) (jn := jn) (lst := lst) (ff := ff) (lq := lq) (y := t1) (f := a2) (g := a3) (mcn := mcn) (ed := ed) (lf := lf) (of := of) f_0 f_12 f_13 f_14 f_15 h16 f_3 f_4 f_5 f_6 f_8 f_10 f_20 f_21 h17e h18n f_99 (by omega) (by omega) fL w1 hc_328 w7 hc_491 w10 w11 w12 w13 hlst ht1 h23 w14 w15 w16 hwy hed hc_844 hlf fr0 fr1 fr2 fr3 fr4 w31) (vx_cwSW 5 hts (gSW (lwg_of t_616 rfl) (lwg_of t_617 rfl) (lwg_of t_0 rfl) (lwg_of t_618 rfl)) rfl rfl rfl (by decide +kernel) ⟨Nat.le_of_ble_eq_true rfl, Nat.le_of_ble_eq_true rfl⟩) hI.preS rfl rfl hl.1 rfl (lv_room (Nat.le_of_ble_eq_true rfl)) dL_law_573 ⟨(show _ ≤ (601024 : Nat) from by omega), (show _ ≤ (7293034 : Nat) from by omega)⟩) hI (fun r_1241 ad_1246 M_1243 H_1244 locs_1245 hp_1242 hI => ?_)
                obtain ⟨ff2_1261, lq2_1262, hr_1247, hm_1248, hm_1249, hm_1250, hm_1251, hm_1252, hm_1253, hm_1254, hm_1255, hm_1256, hm_1257, hm_1258, hF_1259, hAd_1260⟩ := hp_1242
                have hm_1263 : M_1243 12 = some (cEnds ad_1246 12 0) := hm_1248
                have hm_1264 : M_1243 20 = some (aI G 120 ff2_1261) := hm_1249
                have hm_1265 : M_1243 21 = some (aI G 120 lq2_1262) := hm_1250
                have hm_1266 : M_1243 (100 + 5 * n) = some (cLine ad_1246 (100 + 5 * n) t1 (nI a2) (nI a3)) := hm_1251
                have hm_1267 : M_1243 (100 + 5 * n + 1) = some (cEnds ad_1246 (100 + 5 * n + 1) s0) := hm_1252
                have hm_1268 : M_1243 (100 + 5 * n + 2) = some (aI G 6 (nF (frs s0 r0))) := hm_1253
                have hm_1269 : M_1243 (100 + 5 * n + 3) = some (aI G 6 (oF (thE (frsE s0 e0)))) := hm_1254
                have hm_1270 : M_1243 (100 + 5 * n + 4) = some (aI G 6 (oF (olE (frsE s0 e0)))) := hm_1255
                have hm_1271 : M_1243 17 = some (cList ad_1246 (mcn + nI 1) (ad_1246 18) (n + 1)) := hm_1256
                have hm_1272 : M_1243 18 = some (aO G (n + max 1 (n / 2)) (va_up (va_cpy lf (fun _ => none) 0 0 n) n (some (ad_1246 (100 + 5 * n))))) := hm_1257
                have hm_1273 : M_1243 99 = some (aJ G 1 (vp_updL of 0 ((nI n).toInt64))) := hm_1258
                have hAd_1274 : ∀ j : Nat, j ≠ (100 + 5 * n) → j ≠ (100 + 5 * n + 1) → j ≠ (100 + 5 * n + 2) → j ≠ (100 + 5 * n + 3) → j ≠ (100 + 5 * n + 4) → j ≠ 18 → ad_1246 j = ad j := hAd_1260
                have hF_1275 : ∀ j : Nat, j ≠ 12 → j ≠ 20 → j ≠ 21 → j ≠ (100 + 5 * n) → j ≠ (100 + 5 * n + 1) → j ≠ (100 + 5 * n + 2) → j ≠ (100 + 5 * n + 3) → j ≠ (100 + 5 * n + 4) → j ≠ 17 → j ≠ 18 → j ≠ 99 → M_1243 j = M j := hF_1259
                have hAd_1276 : ∀ j : Nat, j < 100 → j ≠ 18 → ad_1246 j = ad j := fun j q9 q0 => hAd_1274 j (by omega) (by omega) (by omega) (by omega) (by omega) q0
                have hF_1277 : ∀ j : Nat, j < 100 → j ≠ 12 → j ≠ 20 → j ≠ 21 → j ≠ 17 → j ≠ 18 → j ≠ 99 → M_1243 j = M j := fun j q9 q0 q1 q2 q3 q4 q5 => hF_1275 j q0 q1 q2 (by omega) (by omega) (by omega) (by omega) (by omega) q3 q4 q5
                have hm_1278 : M_1243 0 = some (cStore ad_1246 qa qs fw) := by rw [hF_1277 0 (by decide) (by decide) (by decide) (by decide) (by decide) (by decide) (by decide), f_0]; simp only [cStore, hAd_1276 1 (by decide) (by decide), hAd_1276 3 (by decide) (by decide), hAd_1276 8 (by decide) (by decide), hAd_1276 12 (by decide) (by decide), hAd_1276 16 (by decide) (by decide), hAd_1276 22 (by decide) (by decide), hAd_1276 23 (by decide) (by decide), hAd_1276 qa (by omega) (by omega), hAd_1276 qs (by omega) (by omega)]
                have hm_1279 : M_1243 1 = some (cTape ad_1246 len) := by rw [hF_1277 1 (by decide) (by decide) (by decide) (by decide) (by decide) (by decide) (by decide), f_1]; simp only [cTape, hAd_1276 2 (by decide) (by decide)]
                have hm_1280 : M_1243 2 = some (aI G 400 (nF tb)) := by rw [hF_1277 2 (by decide) (by decide) (by decide) (by decide) (by decide) (by decide) (by decide), f_2]
                have hm_1281 : M_1243 3 = some (cLaws ad_1246 ) := by rw [hF_1277 3 (by decide) (by decide) (by decide) (by decide) (by decide) (by decide) (by decide), f_3]; simp only [cLaws, hAd_1276 4 (by decide) (by decide), hAd_1276 5 (by decide) (by decide), hAd_1276 6 (by decide) (by decide), hAd_1276 7 (by decide) (by decide)]
                have hm_1282 : M_1243 4 = some (aI G 36 (nF le)) := by rw [hF_1277 4 (by decide) (by decide) (by decide) (by decide) (by decide) (by decide) (by decide), f_4]
                have hm_1283 : M_1243 5 = some (aI G 36 (nF mo)) := by rw [hF_1277 5 (by decide) (by decide) (by decide) (by decide) (by decide) (by decide) (by decide), f_5]
                have hm_1284 : M_1243 6 = some (aI G 36 (nF al)) := by rw [hF_1277 6 (by decide) (by decide) (by decide) (by decide) (by decide) (by decide) (by decide), f_6]
                have hm_1285 : M_1243 7 = some (aZ G 6 (bF ho)) := by rw [hF_1277 7 (by decide) (by decide) (by decide) (by decide) (by decide) (by decide) (by decide), f_7]
                have hm_1286 : M_1243 8 = some (cOnes ad_1246 jn) := by rw [hF_1277 8 (by decide) (by decide) (by decide) (by decide) (by decide) (by decide) (by decide), f_8]; simp only [cOnes, hAd_1276 9 (by decide) (by decide), hAd_1276 10 (by decide) (by decide), hAd_1276 11 (by decide) (by decide)]
                have hm_1287 : M_1243 9 = some (aI G 40 (nF hg)) := by rw [hF_1277 9 (by decide) (by decide) (by decide) (by decide) (by decide) (by decide) (by decide), f_9]
                have hm_1288 : M_1243 10 = some (aI G 40 (nF lst)) := by rw [hF_1277 10 (by decide) (by decide) (by decide) (by decide) (by decide) (by decide) (by decide), f_10]
                have hm_1289 : M_1243 11 = some (aI G 40 (nF jd)) := by rw [hF_1277 11 (by decide) (by decide) (by decide) (by decide) (by decide) (by decide) (by decide), f_11]
                have hm_1290 : M_1243 13 = some (aI G 6 (nF r0)) := by rw [hF_1277 13 (by decide) (by decide) (by decide) (by decide) (by decide) (by decide) (by decide), f_13]
                have hm_1291 : M_1243 14 = some (aI G 6 (oF th)) := by rw [hF_1277 14 (by decide) (by decide) (by decide) (by decide) (by decide) (by decide) (by decide), f_14]
                have hm_1292 : M_1243 15 = some (aI G 6 (oF ol)) := by rw [hF_1277 15 (by decide) (by decide) (by decide) (by decide) (by decide) (by decide) (by decide), f_15]
                have hm_1293 : M_1243 19 = some (aZ G 120 (bF mm9)) := by rw [hF_1277 19 (by decide) (by decide) (by decide) (by decide) (by decide) (by decide) (by decide), f_19]
                have hm_1294 : M_1243 22 = some (cReader ad_1246 ra rb rt rv) := by rw [hF_1277 22 (by decide) (by decide) (by decide) (by decide) (by decide) (by decide) (by decide), f_22]
                have hm_1295 : M_1243 23 = some (cMatcher ad_1246 qm pz) := by rw [hF_1277 23 (by decide) (by decide) (by decide) (by decide) (by decide) (by decide) (by decide), f_23]; simp only [cMatcher, hAd_1276 24 (by decide) (by decide), hAd_1276 25 (by decide) (by decide), hAd_1276 26 (by decide) (by decide), hAd_1276 27 (by decide) (by decide), hAd_1276 28 (by decide) (by decide), hAd_1276 qm (by omega) (by omega)]
                have hm_1296 : M_1243 24 = some (aJ G 2160 sx) := by rw [hF_1277 24 (by decide) (by decide) (by decide) (by decide) (by decide) (by decide) (by decide), f_24]
                have hm_1297 : M_1243 25 = some (aI G 6 (nF ft)) := by rw [hF_1277 25 (by decide) (by decide) (by decide) (by decide) (by decide) (by decide) (by decide), f_25]
                have hm_1298 : M_1243 26 = some (aJ G 240 rx) := by rw [hF_1277 26 (by decide) (by decide) (by decide) (by decide) (by decide) (by decide) (by decide), f_26]
                have hm_1299 : M_1243 27 = some (aJ G 3 dm) := by rw [hF_1277 27 (by decide) (by decide) (by decide) (by decide) (by decide) (by decide) (by decide), f_27]
                have hm_1300 : M_1243 28 = some (aI G 3 rc) := by rw [hF_1277 28 (by decide) (by decide) (by decide) (by decide) (by decide) (by decide) (by decide), f_28]
                have hm_1301 : M_1243 qa = some (cQuestion ad_1246 qa ao vr) := by rw [hF_1277 qa (by omega) (by omega) (by omega) (by omega) (by omega) (by omega) (by omega), f_qa]; simp only [cQuestion, hAd_1276 (qa + 1) (by omega) (by omega), hAd_1276 (qa + 2) (by omega) (by omega), hAd_1276 (qa + 3) (by omega) (by omega), hAd_1276 (qa + 4) (by omega) (by omega), hAd_1276 (qa + 5) (by omega) (by omega), hAd_1276 (qa + 6) (by omega) (by omega)]
                have hm_1302 : M_1243 (qa + 1) = some (aI G 6 (nF kn)) := by rw [hF_1277 (qa + 1) (by omega) (by omega) (by omega) (by omega) (by omega) (by omega) (by omega), f_qa_1]
                have hm_1303 : M_1243 (qa + 2) = some (aZ G 6 (bF nq)) := by rw [hF_1277 (qa + 2) (by omega) (by omega) (by omega) (by omega) (by omega) (by omega) (by omega), f_qa_2]
                have hm_1304 : M_1243 (qa + 3) = some (aI G 6 (nF pn)) := by rw [hF_1277 (qa + 3) (by omega) (by omega) (by omega) (by omega) (by omega) (by omega) (by omega), f_qa_3]
                have hm_1305 : M_1243 (qa + 4) = some (aI G 6 (nF av)) := by rw [hF_1277 (qa + 4) (by omega) (by omega) (by omega) (by omega) (by omega) (by omega) (by omega), f_qa_4]
                have hm_1306 : M_1243 (qa + 5) = some (aI G 24 (nF ro)) := by rw [hF_1277 (qa + 5) (by omega) (by omega) (by omega) (by omega) (by omega) (by omega) (by omega), f_qa_5]
                have hm_1307 : M_1243 (qa + 6) = some (aI G 24 (nF te)) := by rw [hF_1277 (qa + 6) (by omega) (by omega) (by omega) (by omega) (by omega) (by omega) (by omega), f_qa_6]
                have hm_1308 : M_1243 qs = some (cQuestion ad_1246 qs sq su) := by rw [hF_1277 qs (by omega) (by omega) (by omega) (by omega) (by omega) (by omega) (by omega), f_qs]; simp only [cQuestion, hAd_1276 (qs + 1) (by omega) (by omega), hAd_1276 (qs + 2) (by omega) (by omega), hAd_1276 (qs + 3) (by omega) (by omega), hAd_1276 (qs + 4) (by omega) (by omega), hAd_1276 (qs + 5) (by omega) (by omega), hAd_1276 (qs + 6) (by omega) (by omega)]
                have hm_1309 : M_1243 (qs + 1) = some (aI G 6 (nF kb)) := by rw [hF_1277 (qs + 1) (by omega) (by omega) (by omega) (by omega) (by omega) (by omega) (by omega), f_qs_1]
                have hm_1310 : M_1243 (qs + 2) = some (aZ G 6 (bF nb)) := by rw [hF_1277 (qs + 2) (by omega) (by omega) (by omega) (by omega) (by omega) (by omega) (by omega), f_qs_2]
                have hm_1311 : M_1243 (qs + 3) = some (aI G 6 (nF pb)) := by rw [hF_1277 (qs + 3) (by omega) (by omega) (by omega) (by omega) (by omega) (by omega) (by omega), f_qs_3]
                have hm_1312 : M_1243 (qs + 4) = some (aI G 6 (nF ab)) := by rw [hF_1277 (qs + 4) (by omega) (by omega) (by omega) (by omega) (by omega) (by omega) (by omega), f_qs_4]
                have hm_1313 : M_1243 (qs + 5) = some (aI G 24 (nF rbb)) := by rw [hF_1277 (qs + 5) (by omega) (by omega) (by omega) (by omega) (by omega) (by omega) (by omega), f_qs_5]
                have hm_1314 : M_1243 (qs + 6) = some (aI G 24 (nF tbb)) := by rw [hF_1277 (qs + 6) (by omega) (by omega) (by omega) (by omega) (by omega) (by omega) (by omega), f_qs_6]
                have hm_1315 : M_1243 60 = some (cModel ad_1246 tw n jn ao vr sn len pt zs bg fw) := by rw [hF_1277 60 (by decide) (by decide) (by decide) (by decide) (by decide) (by decide) (by decide), f_60]; simp only [cModel, hAd_1276 61 (by decide) (by decide), hAd_1276 62 (by decide) (by decide), hAd_1276 63 (by decide) (by decide), hAd_1276 64 (by decide) (by decide), hAd_1276 65 (by decide) (by decide), hAd_1276 66 (by decide) (by decide), hAd_1276 67 (by decide) (by decide), hAd_1276 68 (by decide) (by decide), hAd_1276 69 (by decide) (by decide), hAd_1276 70 (by decide) (by decide), hAd_1276 71 (by decide) (by decide), hAd_1276 72 (by decide) (by decide), hAd_1276 73 (by decide) (by decide), hAd_1276 74 (by decide) (by decide), hAd_1276 75 (by decide) (by decide), hAd_1276 76 (by decide) (by decide), hAd_1276 77 (by decide) (by decide), hAd_1276 78 (by decide) (by decide), hAd_1276 79 (by decide) (by decide), hAd_1276 80 (by decide) (by decide), hAd_1276 81 (by decide) (by decide), hAd_1276 82 (by decide) (by decide), hAd_1276 83 (by decide) (by decide), hAd_1276 84 (by decide) (by decide), hAd_1276 85 (by decide) (by decide), hAd_1276 86 (by decide) (by decide), hAd_1276 87 (by decide) (by decide)]
                have hm_1316 : M_1243 61 = some (aI G 36 (nF le)) := by rw [hF_1277 61 (by decide) (by decide) (by decide) (by decide) (by decide) (by decide) (by decide), f_61]
                have hm_1317 : M_1243 62 = some (aI G 36 (nF mo)) := by rw [hF_1277 62 (by decide) (by decide) (by decide) (by decide) (by decide) (by decide) (by decide), f_62]
                have hm_1318 : M_1243 63 = some (aI G 36 (nF al)) := by rw [hF_1277 63 (by decide) (by decide) (by decide) (by decide) (by decide) (by decide) (by decide), f_63]
                have hm_1319 : M_1243 64 = some (aZ G 6 (bF ho)) := by rw [hF_1277 64 (by decide) (by decide) (by decide) (by decide) (by decide) (by decide) (by decide), f_64]
                have hm_1320 : M_1243 65 = some (aI G 120 (nF mk)) := by rw [hF_1277 65 (by decide) (by decide) (by decide) (by decide) (by decide) (by decide) (by decide), f_65]
                have hm_1321 : M_1243 66 = some (aI G 120 mf) := by rw [hF_1277 66 (by decide) (by decide) (by decide) (by decide) (by decide) (by decide) (by decide), f_66]
                have hm_1322 : M_1243 67 = some (aI G 120 mu) := by rw [hF_1277 67 (by decide) (by decide) (by decide) (by decide) (by decide) (by decide) (by decide), f_67]
                have hm_1323 : M_1243 68 = some (aI G 121 (nF mz)) := by rw [hF_1277 68 (by decide) (by decide) (by decide) (by decide) (by decide) (by decide) (by decide), f_68]
                have hm_1324 : M_1243 69 = some (aI G 726 (nF rr)) := by rw [hF_1277 69 (by decide) (by decide) (by decide) (by decide) (by decide) (by decide) (by decide), f_69]
                have hm_1325 : M_1243 70 = some (aI G 726 (nF ee)) := by rw [hF_1277 70 (by decide) (by decide) (by decide) (by decide) (by decide) (by decide) (by decide), f_70]
                have hm_1326 : M_1243 71 = some (aI G 40 (nF lst)) := by rw [hF_1277 71 (by decide) (by decide) (by decide) (by decide) (by decide) (by decide) (by decide), f_71]
                have hm_1327 : M_1243 72 = some (aI G 40 (nF oa)) := by rw [hF_1277 72 (by decide) (by decide) (by decide) (by decide) (by decide) (by decide) (by decide), f_72]
                have hm_1328 : M_1243 73 = some (aI G 40 (nF ob)) := by rw [hF_1277 73 (by decide) (by decide) (by decide) (by decide) (by decide) (by decide) (by decide), f_73]
                have hm_1329 : M_1243 74 = some (aI G 120 s74) := by rw [hF_1277 74 (by decide) (by decide) (by decide) (by decide) (by decide) (by decide) (by decide), f_74]
                have hm_1330 : M_1243 75 = some (aI G 12 ak) := by rw [hF_1277 75 (by decide) (by decide) (by decide) (by decide) (by decide) (by decide) (by decide), f_75]
                have hm_1331 : M_1243 76 = some (aZ G 12 (bF nm)) := by rw [hF_1277 76 (by decide) (by decide) (by decide) (by decide) (by decide) (by decide) (by decide), f_76]
                have hm_1332 : M_1243 77 = some (aI G 12 (nF ap)) := by rw [hF_1277 77 (by decide) (by decide) (by decide) (by decide) (by decide) (by decide) (by decide), f_77]
                have hm_1333 : M_1243 78 = some (aI G 48 pr) := by rw [hF_1277 78 (by decide) (by decide) (by decide) (by decide) (by decide) (by decide) (by decide), f_78]
                have hm_1334 : M_1243 79 = some (aI G 48 pf) := by rw [hF_1277 79 (by decide) (by decide) (by decide) (by decide) (by decide) (by decide) (by decide), f_79]
                have hm_1335 : M_1243 80 = some (aB G 400 tf) := by rw [hF_1277 80 (by decide) (by decide) (by decide) (by decide) (by decide) (by decide) (by decide), f_80]
                have hm_1336 : M_1243 81 = some (aI G 5 fv) := by rw [hF_1277 81 (by decide) (by decide) (by decide) (by decide) (by decide) (by decide) (by decide), f_81]
                have hm_1337 : M_1243 82 = some (aZ G 384000 (bF tr)) := by rw [hF_1277 82 (by decide) (by decide) (by decide) (by decide) (by decide) (by decide) (by decide), f_82]
                have hm_1338 : M_1243 83 = some (aI G 3 (oF gv)) := by rw [hF_1277 83 (by decide) (by decide) (by decide) (by decide) (by decide) (by decide) (by decide), f_83]
                have hm_1339 : M_1243 84 = some (aI G 3 fo) := by rw [hF_1277 84 (by decide) (by decide) (by decide) (by decide) (by decide) (by decide) (by decide), f_84]
                have hm_1340 : M_1243 85 = some (aZ G 40 (bF re)) := by rw [hF_1277 85 (by decide) (by decide) (by decide) (by decide) (by decide) (by decide) (by decide), f_85]
                have hm_1341 : M_1243 86 = some (aZ G 120 (bF us)) := by rw [hF_1277 86 (by decide) (by decide) (by decide) (by decide) (by decide) (by decide) (by decide), f_86]
                have hm_1342 : M_1243 87 = some (aZ G 120 (bF nx)) := by rw [hF_1277 87 (by decide) (by decide) (by decide) (by decide) (by decide) (by decide) (by decide), f_87]
                have hm_1343 : M_1243 16 = some (cLines ad_1246 ) := by rw [hF_1277 16 (by decide) (by decide) (by decide) (by decide) (by decide) (by decide) (by decide), h16]; simp only [cLines, hAd_1276 17 (by decide) (by decide), hAd_1276 19 (by decide) (by decide), hAd_1276 20 (by decide) (by decide), hAd_1276 21 (by decide) (by decide)]
                have fr_1344 : M_1243 29 = none := by rw [hF_1277 29 (by decide) (by decide) (by decide) (by decide) (by decide) (by decide) (by decide)]; exact w31
                have hF_1345 : ∀ j : Nat, j ≠ 12 → j ≠ 20 → j ≠ 21 → j ≠ (100 + 5 * n) → j ≠ (100 + 5 * n + 1) → j ≠ (100 + 5 * n + 2) → j ≠ (100 + 5 * n + 3) → j ≠ (100 + 5 * n + 4) → j ≠ 17 → j ≠ 18 → j ≠ 99 → M_1243 j = M j := fun j q0 q1 q2 q3 q4 q5 q6 q7 q8 q9 q10 => (hF_1275 j q0 q1 q2 q3 q4 q5 q6 q7 q8 q9 q10)
                rw [hr_1247]
                clear f_0 f_1 f_2 f_3 f_4 f_5 f_6 f_7 f_8 f_9 f_10 f_11 f_12 f_13 f_14 f_15 f_19 f_20 f_21 f_22 f_23 f_24 f_25 f_26 f_27 f_28 f_qa f_qa_1 f_qa_2 f_qa_3 f_qa_4 f_qa_5 f_qa_6 f_qs f_qs_1 f_qs_2 f_qs_3 f_qs_4 f_qs_5 f_qs_6 f_60 f_61 f_62 f_63 f_64 f_65 f_66 f_67 f_68 f_69 f_70 f_71 f_72 f_73 f_74 f_75 f_76 f_77 f_78 f_79 f_80 f_81 f_82 f_83 f_84 f_85 f_86 f_87 f_99 h16
                refine lv_istore (lv' := [(5, .int (nI 0)), (0, .ref b), (1, .ref (ad 0)), (2, .ref (ad 60)), (3, .ref (ad 99)), (4, .int (nI i))]) hx hb dL_law_576 hl (by decide) rfl (fun ls hl => ?_)
                refine lv_aload_n hx hb dL_law_578 rfl (lv_at hl 3 rfl) ?_
                refine n_eqv (show Value.ref (ad 60) = .ref (ad_1246 60) from by rw [hAd_1276 60 (by decide) (by decide)]) ?_
                refine lv_aload_n hx hb dL_law_579 rfl (lv_at hl 1 rfl) ?_
                refine lv_iload hx hb dL_law_580 (lv_at hl 5 rfl) ?_
                refine lv_iconst (v := nI 1) hx hb dL_law_582 (by decide) ?_
                refine lv_iadd hx hb dL_law_583 ?_
                refine n_eq (nI_add i 1) ?_
                refine va_sld (A := fr z) hx hb hX hbl hbz hI.S (vp_in_nI (n := i + 1) (by omega) (by omega)) dL_law_584 ?_
                rw [nI_clamp (by omega)]
                refine n_eq (show _ = nI t1 from et1) ?_
                refine lv_aload_n hx hb dL_law_585 rfl (lv_at hl 1 rfl) ?_
                refine lv_iload hx hb dL_law_586 (lv_at hl 5 rfl) ?_
                refine lv_iconst (v := nI 2) hx hb dL_law_588 (by decide) ?_
                refine lv_iadd hx hb dL_law_589 ?_
                refine n_eq (nI_add i 2) ?_
                refine va_sld (A := fr z) hx hb hX hbl hbz hI.S (vp_in_nI (n := i + 2) (by omega) (by omega)) dL_law_590 ?_
                rw [nI_clamp (by omega)]
                refine n_eq (show _ = nI a2 from e2) ?_
                refine lv_aload_n hx hb dL_law_591 rfl (lv_at hl 1 rfl) ?_
                refine lv_iload hx hb dL_law_592 (lv_at hl 5 rfl) ?_
                refine lv_iconst (v := nI 3) hx hb dL_law_594 (by decide) ?_
                refine lv_iadd hx hb dL_law_595 ?_
                refine n_eq (nI_add i 3) ?_
                refine va_sld (A := fr z) hx hb hX hbl hbz hI.S (vp_in_nI (n := i + 3) (by omega) (by omega)) dL_law_596 ?_
                rw [nI_clamp (by omega)]
                refine n_eq (show _ = nI a3 from e3) ?_
                refine k_Ni (va_runV (As := [.int (nI t1), .int (nI a2), .int (nI a3)]) (rest := []) ⟨hx, hb, hml, hown, hts⟩ (c_X10_put l G z ad_1246 M_1243 (th := tw) (on := jn) (ao := ao) (vr := vr) (sn := sn) (tp := len) (pt := pt) (zs := zs) (bg := bg) (fa := fw) (n := n) (kd := kd) (fm := fm) (to := to) (sz := sz) (rl := rl) (en := en) (mk := mk) (mf := mf) (mu := mu) (mz := mz) (rr := rr) (ee := ee) (le := le) (mo := mo) (al := al) (lst := lst) (s0 := s0) (r0 := r0) (e0 := e0) (y := t1) (f := a2) (g := a3) hm_1315 hm_1316 hm_1317 hm_1318 hm_1320 hm_1321 hm_1322 hm_1323 hm_1324 hm_1325 hm_1326 w1 w2 w7 w10 w11 w8 hc_328 hc_491 w9 hlst ht1 h23 w14 w15 w16 hwy) (cwV 3 hts (gV (lwg_of t_1164 rfl) (lwg_of t_1165 rfl) (lwg_of t_1166 rfl) (lwg_of t_13 rfl) (lwg_of t_1167 rfl)) rfl rfl rfl (by decide +kernel) ⟨Nat.le_of_ble_eq_true rfl, Nat.le_of_ble_eq_true rfl⟩) (hI.preV hm_1315 rfl) rfl rfl hl.1 rfl (lv_room (Nat.le_of_ble_eq_true rfl)) dL_law_597 ⟨(show _ ≤ (601024 : Nat) from by omega), (show _ ≤ (7293034 : Nat) from by omega)⟩) hI (fun r_1346 M_1348 H_1349 locs_1350 hp_1347 hI => ?_)
                obtain ⟨r2_1361, e2_1362, hr_1351, hm_1352, hm_1353, hm_1354, hm_1355, hm_1356, hm_1357, hm_1358, hF_1359, hP_1360⟩ := hp_1347
                have hm_1363 : M_1348 0 = some (cStore ad_1246 qa qs fw) := by rw [hF_1359 0 (by decide) (by decide) (by decide) (by decide) (by decide) (by decide) (by decide)]; exact hm_1278
                have hm_1364 : M_1348 1 = some (cTape ad_1246 len) := by rw [hF_1359 1 (by decide) (by decide) (by decide) (by decide) (by decide) (by decide) (by decide)]; exact hm_1279
                have hm_1365 : M_1348 2 = some (aI G 400 (nF tb)) := by rw [hF_1359 2 (by decide) (by decide) (by decide) (by decide) (by decide) (by decide) (by decide)]; exact hm_1280
                have hm_1366 : M_1348 3 = some (cLaws ad_1246 ) := by rw [hF_1359 3 (by decide) (by decide) (by decide) (by decide) (by decide) (by decide) (by decide)]; exact hm_1281
                have hm_1367 : M_1348 4 = some (aI G 36 (nF le)) := by rw [hF_1359 4 (by decide) (by decide) (by decide) (by decide) (by decide) (by decide) (by decide)]; exact hm_1282
                have hm_1368 : M_1348 5 = some (aI G 36 (nF mo)) := by rw [hF_1359 5 (by decide) (by decide) (by decide) (by decide) (by decide) (by decide) (by decide)]; exact hm_1283
                have hm_1369 : M_1348 6 = some (aI G 36 (nF al)) := by rw [hF_1359 6 (by decide) (by decide) (by decide) (by decide) (by decide) (by decide) (by decide)]; exact hm_1284
                have hm_1370 : M_1348 7 = some (aZ G 6 (bF ho)) := by rw [hF_1359 7 (by decide) (by decide) (by decide) (by decide) (by decide) (by decide) (by decide)]; exact hm_1285
                have hm_1371 : M_1348 8 = some (cOnes ad_1246 jn) := by rw [hF_1359 8 (by decide) (by decide) (by decide) (by decide) (by decide) (by decide) (by decide)]; exact hm_1286
                have hm_1372 : M_1348 9 = some (aI G 40 (nF hg)) := by rw [hF_1359 9 (by decide) (by decide) (by decide) (by decide) (by decide) (by decide) (by decide)]; exact hm_1287
                have hm_1373 : M_1348 10 = some (aI G 40 (nF lst)) := by rw [hF_1359 10 (by decide) (by decide) (by decide) (by decide) (by decide) (by decide) (by decide)]; exact hm_1288
                have hm_1374 : M_1348 11 = some (aI G 40 (nF jd)) := by rw [hF_1359 11 (by decide) (by decide) (by decide) (by decide) (by decide) (by decide) (by decide)]; exact hm_1289
                have hm_1375 : M_1348 13 = some (aI G 6 (nF r0)) := by rw [hF_1359 13 (by decide) (by decide) (by decide) (by decide) (by decide) (by decide) (by decide)]; exact hm_1290
                have hm_1376 : M_1348 14 = some (aI G 6 (oF th)) := by rw [hF_1359 14 (by decide) (by decide) (by decide) (by decide) (by decide) (by decide) (by decide)]; exact hm_1291
                have hm_1377 : M_1348 15 = some (aI G 6 (oF ol)) := by rw [hF_1359 15 (by decide) (by decide) (by decide) (by decide) (by decide) (by decide) (by decide)]; exact hm_1292
                have hm_1378 : M_1348 19 = some (aZ G 120 (bF mm9)) := by rw [hF_1359 19 (by decide) (by decide) (by decide) (by decide) (by decide) (by decide) (by decide)]; exact hm_1293
                have hm_1379 : M_1348 22 = some (cReader ad_1246 ra rb rt rv) := by rw [hF_1359 22 (by decide) (by decide) (by decide) (by decide) (by decide) (by decide) (by decide)]; exact hm_1294
                have hm_1380 : M_1348 23 = some (cMatcher ad_1246 qm pz) := by rw [hF_1359 23 (by decide) (by decide) (by decide) (by decide) (by decide) (by decide) (by decide)]; exact hm_1295
                have hm_1381 : M_1348 24 = some (aJ G 2160 sx) := by rw [hF_1359 24 (by decide) (by decide) (by decide) (by decide) (by decide) (by decide) (by decide)]; exact hm_1296
                have hm_1382 : M_1348 25 = some (aI G 6 (nF ft)) := by rw [hF_1359 25 (by decide) (by decide) (by decide) (by decide) (by decide) (by decide) (by decide)]; exact hm_1297
                have hm_1383 : M_1348 26 = some (aJ G 240 rx) := by rw [hF_1359 26 (by decide) (by decide) (by decide) (by decide) (by decide) (by decide) (by decide)]; exact hm_1298
                have hm_1384 : M_1348 27 = some (aJ G 3 dm) := by rw [hF_1359 27 (by decide) (by decide) (by decide) (by decide) (by decide) (by decide) (by decide)]; exact hm_1299
                have hm_1385 : M_1348 28 = some (aI G 3 rc) := by rw [hF_1359 28 (by decide) (by decide) (by decide) (by decide) (by decide) (by decide) (by decide)]; exact hm_1300
                have hm_1386 : M_1348 qa = some (cQuestion ad_1246 qa ao vr) := by rw [hF_1359 qa (by omega) (by omega) (by omega) (by omega) (by omega) (by omega) (by omega)]; exact hm_1301
                have hm_1387 : M_1348 (qa + 1) = some (aI G 6 (nF kn)) := by rw [hF_1359 (qa + 1) (by omega) (by omega) (by omega) (by omega) (by omega) (by omega) (by omega)]; exact hm_1302
                have hm_1388 : M_1348 (qa + 2) = some (aZ G 6 (bF nq)) := by rw [hF_1359 (qa + 2) (by omega) (by omega) (by omega) (by omega) (by omega) (by omega) (by omega)]; exact hm_1303
                have hm_1389 : M_1348 (qa + 3) = some (aI G 6 (nF pn)) := by rw [hF_1359 (qa + 3) (by omega) (by omega) (by omega) (by omega) (by omega) (by omega) (by omega)]; exact hm_1304
                have hm_1390 : M_1348 (qa + 4) = some (aI G 6 (nF av)) := by rw [hF_1359 (qa + 4) (by omega) (by omega) (by omega) (by omega) (by omega) (by omega) (by omega)]; exact hm_1305
                have hm_1391 : M_1348 (qa + 5) = some (aI G 24 (nF ro)) := by rw [hF_1359 (qa + 5) (by omega) (by omega) (by omega) (by omega) (by omega) (by omega) (by omega)]; exact hm_1306
                have hm_1392 : M_1348 (qa + 6) = some (aI G 24 (nF te)) := by rw [hF_1359 (qa + 6) (by omega) (by omega) (by omega) (by omega) (by omega) (by omega) (by omega)]; exact hm_1307
                have hm_1393 : M_1348 qs = some (cQuestion ad_1246 qs sq su) := by rw [hF_1359 qs (by omega) (by omega) (by omega) (by omega) (by omega) (by omega) (by omega)]; exact hm_1308
                have hm_1394 : M_1348 (qs + 1) = some (aI G 6 (nF kb)) := by rw [hF_1359 (qs + 1) (by omega) (by omega) (by omega) (by omega) (by omega) (by omega) (by omega)]; exact hm_1309
                have hm_1395 : M_1348 (qs + 2) = some (aZ G 6 (bF nb)) := by rw [hF_1359 (qs + 2) (by omega) (by omega) (by omega) (by omega) (by omega) (by omega) (by omega)]; exact hm_1310
                have hm_1396 : M_1348 (qs + 3) = some (aI G 6 (nF pb)) := by rw [hF_1359 (qs + 3) (by omega) (by omega) (by omega) (by omega) (by omega) (by omega) (by omega)]; exact hm_1311
                have hm_1397 : M_1348 (qs + 4) = some (aI G 6 (nF ab)) := by rw [hF_1359 (qs + 4) (by omega) (by omega) (by omega) (by omega) (by omega) (by omega) (by omega)]; exact hm_1312
                have hm_1398 : M_1348 (qs + 5) = some (aI G 24 (nF rbb)) := by rw [hF_1359 (qs + 5) (by omega) (by omega) (by omega) (by omega) (by omega) (by omega) (by omega)]; exact hm_1313
                have hm_1399 : M_1348 (qs + 6) = some (aI G 24 (nF tbb)) := by rw [hF_1359 (qs + 6) (by omega) (by omega) (by omega) (by omega) (by omega) (by omega) (by omega)]; exact hm_1314
                have hm_1400 : M_1348 61 = some (aI G 36 (nF le)) := by rw [hF_1359 61 (by decide) (by decide) (by decide) (by decide) (by decide) (by decide) (by decide)]; exact hm_1316
                have hm_1401 : M_1348 62 = some (aI G 36 (nF mo)) := by rw [hF_1359 62 (by decide) (by decide) (by decide) (by decide) (by decide) (by decide) (by decide)]; exact hm_1317
                have hm_1402 : M_1348 63 = some (aI G 36 (nF al)) := by rw [hF_1359 63 (by decide) (by decide) (by decide) (by decide) (by decide) (by decide) (by decide)]; exact hm_1318
                have hm_1403 : M_1348 64 = some (aZ G 6 (bF ho)) := by rw [hF_1359 64 (by decide) (by decide) (by decide) (by decide) (by decide) (by decide) (by decide)]; exact hm_1319
                have hm_1404 : M_1348 71 = some (aI G 40 (nF lst)) := by rw [hF_1359 71 (by decide) (by decide) (by decide) (by decide) (by decide) (by decide) (by decide)]; exact hm_1326
                have hm_1405 : M_1348 72 = some (aI G 40 (nF oa)) := by rw [hF_1359 72 (by decide) (by decide) (by decide) (by decide) (by decide) (by decide) (by decide)]; exact hm_1327
                have hm_1406 : M_1348 73 = some (aI G 40 (nF ob)) := by rw [hF_1359 73 (by decide) (by decide) (by decide) (by decide) (by decide) (by decide) (by decide)]; exact hm_1328
                have hm_1407 : M_1348 74 = some (aI G 120 s74) := by rw [hF_1359 74 (by decide) (by decide) (by decide) (by decide) (by decide) (by decide) (by decide)]; exact hm_1329
                have hm_1408 : M_1348 75 = some (aI G 12 ak) := by rw [hF_1359 75 (by decide) (by decide) (by decide) (by decide) (by decide) (by decide) (by decide)]; exact hm_1330
                have hm_1409 : M_1348 76 = some (aZ G 12 (bF nm)) := by rw [hF_1359 76 (by decide) (by decide) (by decide) (by decide) (by decide) (by decide) (by decide)]; exact hm_1331
                have hm_1410 : M_1348 77 = some (aI G 12 (nF ap)) := by rw [hF_1359 77 (by decide) (by decide) (by decide) (by decide) (by decide) (by decide) (by decide)]; exact hm_1332
                have hm_1411 : M_1348 78 = some (aI G 48 pr) := by rw [hF_1359 78 (by decide) (by decide) (by decide) (by decide) (by decide) (by decide) (by decide)]; exact hm_1333
                have hm_1412 : M_1348 79 = some (aI G 48 pf) := by rw [hF_1359 79 (by decide) (by decide) (by decide) (by decide) (by decide) (by decide) (by decide)]; exact hm_1334
                have hm_1413 : M_1348 80 = some (aB G 400 tf) := by rw [hF_1359 80 (by decide) (by decide) (by decide) (by decide) (by decide) (by decide) (by decide)]; exact hm_1335
                have hm_1414 : M_1348 81 = some (aI G 5 fv) := by rw [hF_1359 81 (by decide) (by decide) (by decide) (by decide) (by decide) (by decide) (by decide)]; exact hm_1336
                have hm_1415 : M_1348 82 = some (aZ G 384000 (bF tr)) := by rw [hF_1359 82 (by decide) (by decide) (by decide) (by decide) (by decide) (by decide) (by decide)]; exact hm_1337
                have hm_1416 : M_1348 83 = some (aI G 3 (oF gv)) := by rw [hF_1359 83 (by decide) (by decide) (by decide) (by decide) (by decide) (by decide) (by decide)]; exact hm_1338
                have hm_1417 : M_1348 84 = some (aI G 3 fo) := by rw [hF_1359 84 (by decide) (by decide) (by decide) (by decide) (by decide) (by decide) (by decide)]; exact hm_1339
                have hm_1418 : M_1348 85 = some (aZ G 40 (bF re)) := by rw [hF_1359 85 (by decide) (by decide) (by decide) (by decide) (by decide) (by decide) (by decide)]; exact hm_1340
                have hm_1419 : M_1348 86 = some (aZ G 120 (bF us)) := by rw [hF_1359 86 (by decide) (by decide) (by decide) (by decide) (by decide) (by decide) (by decide)]; exact hm_1341
                have hm_1420 : M_1348 87 = some (aZ G 120 (bF nx)) := by rw [hF_1359 87 (by decide) (by decide) (by decide) (by decide) (by decide) (by decide) (by decide)]; exact hm_1342
                have hm_1421 : M_1348 16 = some (cLines ad_1246 ) := by rw [hF_1359 16 (by decide) (by decide) (by decide) (by decide) (by decide) (by decide) (by decide)]; exact hm_1343
                have hm_1422 : M_1348 12 = some (cEnds ad_1246 12 0) := by rw [hF_1359 12 (by decide) (by decide) (by decide) (by decide) (by decide) (by decide) (by decide)]; exact hm_1263
                have hm_1423 : M_1348 20 = some (aI G 120 ff2_1261) := by rw [hF_1359 20 (by decide) (by decide) (by decide) (by decide) (by decide) (by decide) (by decide)]; exact hm_1264
                have hm_1424 : M_1348 21 = some (aI G 120 lq2_1262) := by rw [hF_1359 21 (by decide) (by decide) (by decide) (by decide) (by decide) (by decide) (by decide)]; exact hm_1265
                have hm_1425 : M_1348 (100 + 5 * n) = some (cLine ad_1246 (100 + 5 * n) t1 (nI a2) (nI a3)) := by rw [hF_1359 (100 + 5 * n) (by omega) (by omega) (by omega) (by omega) (by omega) (by omega) (by omega)]; exact hm_1266
                have hm_1426 : M_1348 (100 + 5 * n + 1) = some (cEnds ad_1246 (100 + 5 * n + 1) s0) := by rw [hF_1359 (100 + 5 * n + 1) (by omega) (by omega) (by omega) (by omega) (by omega) (by omega) (by omega)]; exact hm_1267
                have hm_1427 : M_1348 (100 + 5 * n + 2) = some (aI G 6 (nF (frs s0 r0))) := by rw [hF_1359 (100 + 5 * n + 2) (by omega) (by omega) (by omega) (by omega) (by omega) (by omega) (by omega)]; exact hm_1268
                have hm_1428 : M_1348 (100 + 5 * n + 3) = some (aI G 6 (oF (thE (frsE s0 e0)))) := by rw [hF_1359 (100 + 5 * n + 3) (by omega) (by omega) (by omega) (by omega) (by omega) (by omega) (by omega)]; exact hm_1269
                have hm_1429 : M_1348 (100 + 5 * n + 4) = some (aI G 6 (oF (olE (frsE s0 e0)))) := by rw [hF_1359 (100 + 5 * n + 4) (by omega) (by omega) (by omega) (by omega) (by omega) (by omega) (by omega)]; exact hm_1270
                have hm_1430 : M_1348 17 = some (cList ad_1246 (mcn + nI 1) (ad_1246 18) (n + 1)) := by rw [hF_1359 17 (by decide) (by decide) (by decide) (by decide) (by decide) (by decide) (by decide)]; exact hm_1271
                have hm_1431 : M_1348 18 = some (aO G (n + max 1 (n / 2)) (va_up (va_cpy lf (fun _ => none) 0 0 n) n (some (ad_1246 (100 + 5 * n))))) := by rw [hF_1359 18 (by decide) (by decide) (by decide) (by decide) (by decide) (by decide) (by decide)]; exact hm_1272
                have hm_1432 : M_1348 99 = some (aJ G 1 (vp_updL of 0 ((nI n).toInt64))) := by rw [hF_1359 99 (by decide) (by decide) (by decide) (by decide) (by decide) (by decide) (by decide)]; exact hm_1273
                have fr_1433 : M_1348 29 = none := by rw [hF_1359 29 (by omega) (by omega) (by omega) (by omega) (by omega) (by omega) (by omega)]; exact fr_1344
                have hF_1434 : ∀ j : Nat, j ≠ 12 → j ≠ 20 → j ≠ 21 → j ≠ (100 + 5 * n) → j ≠ (100 + 5 * n + 1) → j ≠ (100 + 5 * n + 2) → j ≠ (100 + 5 * n + 3) → j ≠ (100 + 5 * n + 4) → j ≠ 17 → j ≠ 18 → j ≠ 99 → j ≠ 60 → j ≠ 65 → j ≠ 66 → j ≠ 67 → j ≠ 68 → j ≠ 69 → j ≠ 70 → M_1348 j = M j := fun j q0 q1 q2 q3 q4 q5 q6 q7 q8 q9 q10 q11 q12 q13 q14 q15 q16 q17 => (hF_1359 j q11 q12 q13 q14 q15 q16 q17).trans (hF_1345 j q0 q1 q2 q3 q4 q5 q6 q7 q8 q9 q10)
                rw [hr_1351]
                clear hm_1278 hm_1279 hm_1280 hm_1281 hm_1282 hm_1283 hm_1284 hm_1285 hm_1286 hm_1287 hm_1288 hm_1289 hm_1290 hm_1291 hm_1292 hm_1293 hm_1294 hm_1295 hm_1296 hm_1297 hm_1298 hm_1299 hm_1300 hm_1301 hm_1302 hm_1303 hm_1304 hm_1305 hm_1306 hm_1307 hm_1308 hm_1309 hm_1310 hm_1311 hm_1312 hm_1313 hm_1314 hm_1315 hm_1316 hm_1317 hm_1318 hm_1319 hm_1320 hm_1321 hm_1322 hm_1323 hm_1324 hm_1325 hm_1326 hm_1327 hm_1328 hm_1329 hm_1330 hm_1331 hm_1332 hm_1333 hm_1334 hm_1335 hm_1336 hm_1337 hm_1338 hm_1339 hm_1340 hm_1341 hm_1342 hm_1343 hm_1263 hm_1264 hm_1265 hm_1266 hm_1267 hm_1268 hm_1269 hm_1270 hm_1271 hm_1272 hm_1273
                refine lv_istore (lv' := [(6, .int (nI n)), (5, .int (nI 0)), (0, .ref b), (1, .ref (ad 0)), (2, .ref (ad 60)), (3, .ref (ad 99)), (4, .int (nI i))]) hx hb dL_law_600 hl (by decide) rfl (fun ls hl => ?_)
                refine lv_aload_n hx hb dL_law_602 rfl (lv_at hl 4 rfl) ?_
                refine n_eqv (show Value.ref (ad 60) = .ref (ad_1246 60) from by rw [hAd_1276 60 (by decide) (by decide)]) ?_
                refine k_Ri (va_runV (As := []) (rest := []) ⟨hx, hb, hml, hown, hts⟩ (c_X10_thrown l G z ad_1246 M_1348 (th := 0) (ln := n + 1) (on := jn) (ao := ao) (vr := vr) (sn := sn) (tp := len) (pt := pt) (zs := zs) (bg := bg) (fa := fw) hm_1352) (cwV 0 hts (gV (lwg_of t_997 rfl) (lwg_of t_998 rfl) (lwg_of t_999 rfl) (lwg_of t_13 rfl) (lwg_of t_1000 rfl)) rfl rfl rfl (by decide +kernel) ⟨Nat.le_of_ble_eq_true rfl, Nat.le_of_ble_eq_true rfl⟩) (hI.preV hm_1352 rfl) rfl rfl hl.1 rfl (lv_room (Nat.le_of_ble_eq_true rfl)) dL_law_603 ⟨(show _ ≤ (601024 : Nat) from by omega), (show _ ≤ (7293034 : Nat) from by omega)⟩) (fun _ h => h) (fun r_1435 hp_1436 => ?_)
                rw [hp_1436]
                refine lv_iload hx hb dL_law_606 (lv_at hl 1 rfl) ?_
                refine lv_icmp_eq (tgt := 613) hx hb dL_law_608 (by decide) (fun c_1437 => ?_) (fun c_1437 => ?_)
                · -- 608: nI 0 eq
                  refine lv_iload hx hb dL_law_613 (lv_at hl 1 rfl) ?_
                  refine lv_if_ne (tgt := 630) hx hb dL_law_615 (by decide) (fun c_1438 => ?_) (fun c_1438 => ?_)
                  · -- 615: nI 0 ne
                    exact absurd (by decide) c_1438
                  · -- 615: nI 0 eq
                    refine lv_aload_n hx hb dL_law_618 rfl (lv_at hl 5 rfl) ?_
                    refine n_eqv (show Value.ref (ad 99) = .ref (ad_1246 99) from by rw [hAd_1276 99 (by decide) (by decide)]) ?_
                    refine lv_iconst (v := nI 0) hx hb dL_law_619 (by decide) ?_
                    refine h_lald (i := 0) hx hb hI hm_1432 (by omega) (by decide) dL_law_620 ?_
                    refine lv_iload hx hb dL_law_621 (lv_at hl 0 rfl) ?_
                    refine lv_i2l (v := (nI n).toInt64) hx hb dL_law_623 rfl ?_
                    refine W.lcmp hx hb dL_law_624 ?_
                    refine lv_if_eq (tgt := 630) hx hb dL_law_625 (by decide) (fun c_1439 => ?_) (fun c_1439 => ?_)
                    · -- 625: lg_cmp ((vp_updL of 0 ((nI n).toInt64)) 0) ((nI n).toInt64) eq
                      have c_1439 : (vp_updL of 0 ((nI n).toInt64)) 0 = (nI n).toInt64 := (lg_cmp_eq _ _).mp c_1439
                      refine lv_goto (tgt := 1333) hx hb dL_law_630 (by decide) ?_
                      have hn120 := hc_491
                      have hLF : ∀ i9, i9 < n + 1 → (va_up (va_cpy lf (fun _ => none) 0 0 n) n (some (ad_1246 (100 + 5 * n)))) i9 = some (ad_1246 (100 + 5 * i9)) := (fun i9 h9 => by
                        by_cases e9 : i9 = n
                        · rw [e9]; exact va_up_self _ _ _
                        · rw [va_up_ne _ _ e9, show va_cpy lf (fun _ => none) 0 0 n i9 = lf i9 from by rw [va_cpy, if_pos (by omega)]; exact congrArg lf (by omega), hlf i9 (by omega), hAd_1274 (100 + 5 * i9) (by omega) (by omega) (by omega) (by omega) (by omega) (by omega)])
                      have hNew : LSm G ad_1246 M_1348 (n + 1) (va_up kd n t1) (va_up fm n (nI a2)) (va_up to n (nI a3)) (va_up sz n s0) (va_up rl n (frs s0 r0)) (va_up en n (frsE s0 e0)) := LSm.new (mcn2 := mcn + nI 1) (cap2 := n + max 1 (n / 2)) fL (fun j hj => hF_1434 j (by omega) (by omega) (by omega) (by omega) (by omega) (by omega) (by omega) (by omega) (by omega) (by omega) (by omega) (by omega) (by omega) (by omega) (by omega) (by omega) (by omega) (by omega)) (fun j hj => hAd_1274 j (by omega) (by omega) (by omega) (by omega) (by omega) (by omega)) hm_1430 hm_1431 ⟨by omega, by omega⟩ hLF hm_1425 hm_1426 hm_1427 hm_1428 hm_1429
                      refine W.widen (k := cz + 10) (n := sy + 300) (by omega) (by omega) ?_
                      exact kk ad_1246 M_1348 H_1349 locs_1350 ls (n + 1) (va_up kd n t1) (va_up fm n (nI a2)) (va_up to n (nI a3)) (va_up sz n s0) (va_up rl n (frs s0 r0)) (va_up en n (frsE s0 e0)) qa qs fw len tb le mo al ho jn hg lst jd 0 r0 th ol e0 mm9 ff2_1261 lq2_1262 ra rb rt rv qm pz sx ft rx dm rc ao vr kn nq pn av ro te sq su kb nb pb ab rbb tbb 0 sn pt zs bg (va_up mk n t1) (upd mf n (nI a2)) (upd mu n (nI a3)) (va_up (va_up mz 120 0) n s0) r2_1361 e2_1362 oa ob s74 ak nm ap pr pf tf fv tr gv fo re us nx (vp_updL of 0 ((nI n).toInt64)) hNew (lsw_new w1 hn120 ht1 w7 w10 w11) (mrel_new w2 w1 hn120 w7 w9 hP_1360) w3 w4 w5 w6 (Nat.zero_le _) ((va_up_ne _ _ (by omega)).trans (va_up_self _ _ _)) (fun j9 h9 => absurd h9 (Nat.not_lt_zero j9)) (fun j9 h9 => absurd h9 (Nat.not_lt_zero j9)) (fun j9 h9 => absurd h9 (Nat.not_lt_zero j9)) (fun j9 h9 => absurd h9 (Nat.not_lt_zero j9)) (fun j9 h9 => absurd h9 (Nat.not_lt_zero j9)) w14 w15 w16 (pos_new w17 (by omega)) (ord_new w18 w1 w11 hwy.2.1) w19 w20 w21 w22 w23 w24 w25 w26 w27 w28 w29 (fun h9 => absurd h9 (by omega)) (by rw [hF_1434 29 (by omega) (by omega) (by omega) (by omega) (by omega) (by omega) (by omega) (by omega) (by omega) (by omega) (by omega) (by omega) (by omega) (by omega) (by omega) (by omega) (by omega) (by omega)]; exact w31) (fun j9 h9 => by rw [hF_1434 j9 (by omega) (by omega) (by omega) (by omega) (by omega) (by omega) (by omega) (by omega) (by omega) (by omega) (by omega) (by omega) (by omega) (by omega) (by omega) (by omega) (by omega) (by omega)]; exact w32 j9 (by omega)) hm_1363 hm_1364 hm_1365 hm_1366 hm_1367 hm_1368 hm_1369 hm_1370 hm_1371 hm_1372 hm_1373 hm_1374 hm_1422 hm_1375 hm_1376 hm_1377 hm_1378 hm_1423 hm_1424 hm_1379 hm_1380 hm_1381 hm_1382 hm_1383 hm_1384 hm_1385 hm_1386 hm_1387 hm_1388 hm_1389 hm_1390 hm_1391 hm_1392 hm_1393 hm_1394 hm_1395 hm_1396 hm_1397 hm_1398 hm_1399 hm_1352 hm_1400 hm_1401 hm_1402 hm_1403 hm_1353 hm_1354 hm_1355 hm_1356 hm_1357 hm_1358 hm_1404 hm_1405 hm_1406 hm_1407 hm_1408 hm_1409 hm_1410 hm_1411 hm_1412 hm_1413 hm_1414 hm_1415 hm_1416 hm_1417 hm_1418 hm_1419 hm_1420 hm_1432 hI (by rw [hAd_1274 0 (by omega) (by omega) (by omega) (by omega) (by omega) (by omega), hAd_1274 60 (by omega) (by omega) (by omega) (by omega) (by omega) (by omega), hAd_1274 99 (by omega) (by omega) (by omega) (by omega) (by omega) (by omega)]; exact lv_sub hl [2, 3, 4, 5, 6] rfl)
                    · -- 625: lg_cmp ((vp_updL of 0 ((nI n).toInt64)) 0) ((nI n).toInt64) ne
                      have c_1439 : (vp_updL of 0 ((nI n).toInt64)) 0 ≠ (nI n).toInt64 := (fun h => c_1439 ((lg_cmp_eq _ _).mpr h))
                      exact absurd rfl c_1439
                · -- 608: nI 0 ne
                  exact absurd (by decide) c_1437
