theorem up_lt9 {f : Nat → Nat} {N B k v : Nat} (h : ∀ j, j < N → f j < B) (hv : v < B) : ∀ j, j < N → va_up f k v j < B := fun j hj => by
  by_cases e : j = k
  · subst e; rw [va_up_self]; exact hv
  · rw [va_up_ne _ _ e]; exact h j hj
theorem up_le9 {f : Nat → Nat} {N B k v : Nat} (h : ∀ j, j < N → f j ≤ B) (hv : v ≤ B) : ∀ j, j < N → va_up f k v j ≤ B := fun j hj => by
  by_cases e : j = k
  · subst e; rw [va_up_self]; exact hv
  · rw [va_up_ne _ _ e]; exact h j hj
theorem rng3 (x y : Int32) : (x < 0 ∨ y < x ∨ nI 6 < y) ∨ ∃ a b : Nat, (a ≤ b ∧ b ≤ 6) ∧ x = nI a ∧ y = nI b := by
  by_cases h1 : x < 0
  · exact Or.inl (Or.inl h1)
  · by_cases h2 : y < x
    · exact Or.inl (Or.inr (Or.inl h2))
    · by_cases h3 : nI 6 < y
      · exact Or.inl (Or.inr (Or.inr h3))
      · obtain ⟨a, ha, rfl⟩ := nI_of h1
        have h4 : ¬ y < 0 := fun h => by
          simp only [Int32.lt_iff_toInt_lt, z0I] at *
          omega
        obtain ⟨b, hb, rfl⟩ := nI_of h4
        have e1 := mt (nI_ltI hb ha).mpr h2
        have e2 := mt (nI_ltI (by decide) hb).mpr h3
        exact Or.inr ⟨a, b, ⟨by omega, by omega⟩, rfl, rfl⟩
theorem alo {x : Int32} (h : x < 0 ∨ ¬ x < nI 101) : x < 0 ∨ nI 100 < x := by
  rcases h with h | h
  · exact Or.inl h
  · rw [Int32.lt_iff_toInt_lt, nI_toInt (by decide)] at h
    exact Or.inr (by rw [Int32.lt_iff_toInt_lt, nI_toInt (by decide)]; omega)

set_option maxHeartbeats 8000000 in
set_option maxRecDepth 100000 in
theorem law_2 {p : Program} {l : Launch} {e : Env} {s : State} {m : MethodId} {below : List Frame} {meth : Method} {c : Code} {b L : Nat} {xs : Nat → Int32} {Q : State → Prop} {G : GG} {z : Nat} {ad : Nat → Nat} {M : Mem} {H : Heap} {locs : List Loc} {ls : Array Slot} {i cz sy : Nat} (hst : l.stackTraces = false) (hx : p.tables.exec = Jvm.exec) (hb : c.code = code) (hml : c.maxLocals = 7) (hown : s.vm.findClass RL = some m.cls) {cx : Cond} (hts : ∀ w ∈ cx :: lwg, w.before #[Value.ref b] s = true) (hX : va_X b L xs s s.heap) (hbl : b < s.heap.size) (hbz : ¬ z ≤ b) (hI : Iv G z ad M s H locs) (hl : lv_has ls 7 [(0, .ref b), (1, .ref (ad 0)), (2, .ref (ad 60)), (3, .ref (ad 99)), (4, .int (nI i))]) (hiL : i + 6 ≤ L) (hL : L ≤ 3072) (hcz : cz + 10 ≤ 601024) (hsy : sy + 300 ≤ 7293034) {n : Nat} {kd : Nat → Nat} {fm : Nat → Int32} {to : Nat → Int32} {sz : Nat → Nat} {rl : Nat → Nat → Nat} {en : Nat → Nat → Nat} {qa : Nat} {qs : Nat} {fw : Int32} {len : Nat} {tb : Nat → Nat} {le : Nat → Nat} {mo : Nat → Nat} {al : Nat → Nat} {ho : Nat → Bool} {jn : Nat} {hg : Nat → Nat} {lst : Nat → Nat} {jd : Nat → Nat} {s0 : Nat} {r0 : Nat → Nat} {th : Nat → Option Nat} {ol : Nat → Option Nat} {e0 : Nat → Nat} {mm9 : Nat → Bool} {ff : Nat → Int32} {lq : Nat → Int32} {ra : Nat} {rb : Nat} {rt : Int32} {rv : Int32} {qm : Nat} {pz : Nat} {sx : Nat → Int64} {ft : Nat → Nat} {rx : Nat → Int64} {dm : Nat → Int64} {rc : Nat → Int32} {ao : Nat} {vr : Nat} {kn : Nat → Nat} {nq : Nat → Bool} {pn : Nat → Nat} {av : Nat → Nat} {ro : Nat → Nat} {te : Nat → Nat} {sq : Nat} {su : Nat} {kb : Nat → Nat} {nb : Nat → Bool} {pb : Nat → Nat} {ab : Nat → Nat} {rbb : Nat → Nat} {tbb : Nat → Nat} {tw : Nat} {sn : Nat} {pt : Nat} {zs : Nat} {bg : Nat} {mk : Nat → Nat} {mf : Nat → Int32} {mu : Nat → Int32} {mz : Nat → Nat} {rr : Nat → Nat} {ee : Nat → Nat} {oa : Nat → Nat} {ob : Nat → Nat} {s74 : Nat → Int32} {ak : Nat → Int32} {nm : Nat → Bool} {ap : Nat → Nat} {pr : Nat → Int32} {pf : Nat → Int32} {tf : Nat → Int32} {fv : Nat → Int32} {tr : Nat → Bool} {gv : Nat → Option Nat} {fo : Nat → Int32} {re : Nat → Bool} {us : Nat → Bool} {nx : Nat → Bool} {of : Nat → Int64} (fL : LSm G ad M n kd fm to sz rl en) (w1 : LSw n kd sz rl en) (w2 : MRel n kd fm to sz rl en mk mf mu mz rr ee) (w3 : JI jn hg lst jd oa ob) (w4 : len ≤ 400) (w5 : ∀ j, j < len → tb j < 256) (w6 : ∀ j, j < len → tf j = sB (tb j)) (w7 : s0 ≤ 6) (w8 : mz 120 = s0) (w9 : ∀ j, j < s0 → rr (720 + j) = r0 j ∧ ee (720 + j) = e0 j) (w10 : ∀ j, j < s0 → r0 j < 6) (w11 : ∀ j, j < s0 → e0 j < 40 + n) (w12 : ∀ j, j < s0 → th j = thE e0 j) (w13 : ∀ j, j < s0 → ol j = olE e0 j) (w14 : ∀ j, j < 36 → le j < 100) (w15 : ∀ j, j < 36 → mo j < 100) (w16 : ∀ j, j < 36 → al j ≤ 100) (w17 : ∀ i, i < n → (0 : Int32) ≤ fm i) (w18 : ∀ i, i < n → ∀ k, hgs sz en i k = true → fm k ≤ fm i) (w19 : ao ≤ 6) (w20 : vr < 8) (w21 : ∀ i, i < ao → ap i ≤ 4 ∧ (ak i = nI (kn i) ∧ kn i < 6) ∧ ∀ p8, p8 < ap i → (pr (4 * i + p8) = nI (ro (i * 4 + p8)) ∧ ro (i * 4 + p8) < 6) ∧ te (i * 4 + p8) < 43 ∧ pf (4 * i + p8) = tmI (te (i * 4 + p8))) (w22 : ∀ i, i < ao → nm i = nq i ∧ ap i = pn i) (w23 : ∀ i, i < ao → av i < 8) (w24 : ∀ i, i < ao → (av i).testBit 0 = false → ∀ p9, p9 < pn i → te (i * 4 + p9) ≠ 40) (w25 : ∀ v, v < 3 → vr.testBit v = true → ∃ i, i < ao ∧ nq i = false ∧ ∃ k, k < pn i ∧ te (i * 4 + k) = 40 + v) (w26 : 29 < qa ∧ qa < 38) (w27 : 29 < qs ∧ qs < 38) (w28 : qa + 7 ≤ qs ∨ qs + 7 ≤ qa) (w29 : 29 < qm ∧ qm < 51) (w30 : n = 0 → (∃ mcn : Int32, M 17 = some (cList ad mcn G.2.2.2.2 0)) ∧ M 18 = none) (w31 : M 29 = none) (w32 : ∀ j, 100 + 5 * n ≤ j → M j = none) (f_0 : M 0 = some (cStore ad qa qs fw)) (f_1 : M 1 = some (cTape ad len)) (f_2 : M 2 = some (aI G 400 (nF tb))) (f_3 : M 3 = some (cLaws ad )) (f_4 : M 4 = some (aI G 36 (nF le))) (f_5 : M 5 = some (aI G 36 (nF mo))) (f_6 : M 6 = some (aI G 36 (nF al))) (f_7 : M 7 = some (aZ G 6 (bF ho))) (f_8 : M 8 = some (cOnes ad jn)) (f_9 : M 9 = some (aI G 40 (nF hg))) (f_10 : M 10 = some (aI G 40 (nF lst))) (f_11 : M 11 = some (aI G 40 (nF jd))) (f_12 : M 12 = some (cEnds ad 12 s0)) (f_13 : M 13 = some (aI G 6 (nF r0))) (f_14 : M 14 = some (aI G 6 (oF th))) (f_15 : M 15 = some (aI G 6 (oF ol))) (f_19 : M 19 = some (aZ G 120 (bF mm9))) (f_20 : M 20 = some (aI G 120 ff)) (f_21 : M 21 = some (aI G 120 lq)) (f_22 : M 22 = some (cReader ad ra rb rt rv)) (f_23 : M 23 = some (cMatcher ad qm pz)) (f_24 : M 24 = some (aJ G 2160 sx)) (f_25 : M 25 = some (aI G 6 (nF ft))) (f_26 : M 26 = some (aJ G 240 rx)) (f_27 : M 27 = some (aJ G 3 dm)) (f_28 : M 28 = some (aI G 3 rc)) (f_qa : M qa = some (cQuestion ad qa ao vr)) (f_qa_1 : M (qa + 1) = some (aI G 6 (nF kn))) (f_qa_2 : M (qa + 2) = some (aZ G 6 (bF nq))) (f_qa_3 : M (qa + 3) = some (aI G 6 (nF pn))) (f_qa_4 : M (qa + 4) = some (aI G 6 (nF av))) (f_qa_5 : M (qa + 5) = some (aI G 24 (nF ro))) (f_qa_6 : M (qa + 6) = some (aI G 24 (nF te))) (f_qs : M qs = some (cQuestion ad qs sq su)) (f_qs_1 : M (qs + 1) = some (aI G 6 (nF kb))) (f_qs_2 : M (qs + 2) = some (aZ G 6 (bF nb))) (f_qs_3 : M (qs + 3) = some (aI G 6 (nF pb))) (f_qs_4 : M (qs + 4) = some (aI G 6 (nF ab))) (f_qs_5 : M (qs + 5) = some (aI G 24 (nF rbb))) (f_qs_6 : M (qs + 6) = some (aI G 24 (nF tbb))) (f_60 : M 60 = some (cModel ad tw n jn ao vr sn len pt zs bg fw)) (f_61 : M 61 = some (aI G 36 (nF le))) (f_62 : M 62 = some (aI G 36 (nF mo))) (f_63 : M 63 = some (aI G 36 (nF al))) (f_64 : M 64 = some (aZ G 6 (bF ho))) (f_65 : M 65 = some (aI G 120 (nF mk))) (f_66 : M 66 = some (aI G 120 mf)) (f_67 : M 67 = some (aI G 120 mu)) (f_68 : M 68 = some (aI G 121 (nF mz))) (f_69 : M 69 = some (aI G 726 (nF rr))) (f_70 : M 70 = some (aI G 726 (nF ee))) (f_71 : M 71 = some (aI G 40 (nF lst))) (f_72 : M 72 = some (aI G 40 (nF oa))) (f_73 : M 73 = some (aI G 40 (nF ob))) (f_74 : M 74 = some (aI G 120 s74)) (f_75 : M 75 = some (aI G 12 ak)) (f_76 : M 76 = some (aZ G 12 (bF nm))) (f_77 : M 77 = some (aI G 12 (nF ap))) (f_78 : M 78 = some (aI G 48 pr)) (f_79 : M 79 = some (aI G 48 pf)) (f_80 : M 80 = some (aB G 400 tf)) (f_81 : M 81 = some (aI G 5 fv)) (f_82 : M 82 = some (aZ G 384000 (bF tr))) (f_83 : M 83 = some (aI G 3 (oF gv))) (f_84 : M 84 = some (aI G 3 fo)) (f_85 : M 85 = some (aZ G 40 (bF re))) (f_86 : M 86 = some (aZ G 120 (bF us))) (f_87 : M 87 = some (aZ G 120 (bF nx))) (f_99 : M 99 = some (aJ G 1 of)) (kk : ∀ (ad1 : Nat → Nat) (M1 : Mem) (H1 : Heap) (locs1 : List Loc) (ls1 : Array Slot) (n : Nat) (kd : Nat → Nat) (fm : Nat → Int32) (to : Nat → Int32) (sz : Nat → Nat) (rl : Nat → Nat → Nat) (en : Nat → Nat → Nat) (qa : Nat) (qs : Nat) (fw : Int32) (len : Nat) (tb : Nat → Nat) (le : Nat → Nat) (mo : Nat → Nat) (al : Nat → Nat) (ho : Nat → Bool) (jn : Nat) (hg : Nat → Nat) (lst : Nat → Nat) (jd : Nat → Nat) (s0 : Nat) (r0 : Nat → Nat) (th : Nat → Option Nat) (ol : Nat → Option Nat) (e0 : Nat → Nat) (mm9 : Nat → Bool) (ff : Nat → Int32) (lq : Nat → Int32) (ra : Nat) (rb : Nat) (rt : Int32) (rv : Int32) (qm : Nat) (pz : Nat) (sx : Nat → Int64) (ft : Nat → Nat) (rx : Nat → Int64) (dm : Nat → Int64) (rc : Nat → Int32) (ao : Nat) (vr : Nat) (kn : Nat → Nat) (nq : Nat → Bool) (pn : Nat → Nat) (av : Nat → Nat) (ro : Nat → Nat) (te : Nat → Nat) (sq : Nat) (su : Nat) (kb : Nat → Nat) (nb : Nat → Bool) (pb : Nat → Nat) (ab : Nat → Nat) (rbb : Nat → Nat) (tbb : Nat → Nat) (tw : Nat) (sn : Nat) (pt : Nat) (zs : Nat) (bg : Nat) (mk : Nat → Nat) (mf : Nat → Int32) (mu : Nat → Int32) (mz : Nat → Nat) (rr : Nat → Nat) (ee : Nat → Nat) (oa : Nat → Nat) (ob : Nat → Nat) (s74 : Nat → Int32) (ak : Nat → Int32) (nm : Nat → Bool) (ap : Nat → Nat) (pr : Nat → Int32) (pf : Nat → Int32) (tf : Nat → Int32) (fv : Nat → Int32) (tr : Nat → Bool) (gv : Nat → Option Nat) (fo : Nat → Int32) (re : Nat → Bool) (us : Nat → Bool) (nx : Nat → Bool) (of : Nat → Int64), (LSm G ad1 M1 n kd fm to sz rl en) → (LSw n kd sz rl en) → (MRel n kd fm to sz rl en mk mf mu mz rr ee) → (JI jn hg lst jd oa ob) → (len ≤ 400) → (∀ j, j < len → tb j < 256) → (∀ j, j < len → tf j = sB (tb j)) → (s0 ≤ 6) → (mz 120 = s0) → (∀ j, j < s0 → rr (720 + j) = r0 j ∧ ee (720 + j) = e0 j) → (∀ j, j < s0 → r0 j < 6) → (∀ j, j < s0 → e0 j < 40 + n) → (∀ j, j < s0 → th j = thE e0 j) → (∀ j, j < s0 → ol j = olE e0 j) → (∀ j, j < 36 → le j < 100) → (∀ j, j < 36 → mo j < 100) → (∀ j, j < 36 → al j ≤ 100) → (∀ i, i < n → (0 : Int32) ≤ fm i) → (∀ i, i < n → ∀ k, hgs sz en i k = true → fm k ≤ fm i) → (ao ≤ 6) → (vr < 8) → (∀ i, i < ao → ap i ≤ 4 ∧ (ak i = nI (kn i) ∧ kn i < 6) ∧ ∀ p8, p8 < ap i → (pr (4 * i + p8) = nI (ro (i * 4 + p8)) ∧ ro (i * 4 + p8) < 6) ∧ te (i * 4 + p8) < 43 ∧ pf (4 * i + p8) = tmI (te (i * 4 + p8))) → (∀ i, i < ao → nm i = nq i ∧ ap i = pn i) → (∀ i, i < ao → av i < 8) → (∀ i, i < ao → (av i).testBit 0 = false → ∀ p9, p9 < pn i → te (i * 4 + p9) ≠ 40) → (∀ v, v < 3 → vr.testBit v = true → ∃ i, i < ao ∧ nq i = false ∧ ∃ k, k < pn i ∧ te (i * 4 + k) = 40 + v) → (29 < qa ∧ qa < 38) → (29 < qs ∧ qs < 38) → (qa + 7 ≤ qs ∨ qs + 7 ≤ qa) → (29 < qm ∧ qm < 51) → (n = 0 → (∃ mcn : Int32, M1 17 = some (cList ad1 mcn G.2.2.2.2 0)) ∧ M1 18 = none) → (M1 29 = none) → (∀ j, 100 + 5 * n ≤ j → M1 j = none) → (M1 0 = some (cStore ad1 qa qs fw)) → (M1 1 = some (cTape ad1 len)) → (M1 2 = some (aI G 400 (nF tb))) → (M1 3 = some (cLaws ad1 )) → (M1 4 = some (aI G 36 (nF le))) → (M1 5 = some (aI G 36 (nF mo))) → (M1 6 = some (aI G 36 (nF al))) → (M1 7 = some (aZ G 6 (bF ho))) → (M1 8 = some (cOnes ad1 jn)) → (M1 9 = some (aI G 40 (nF hg))) → (M1 10 = some (aI G 40 (nF lst))) → (M1 11 = some (aI G 40 (nF jd))) → (M1 12 = some (cEnds ad1 12 s0)) → (M1 13 = some (aI G 6 (nF r0))) → (M1 14 = some (aI G 6 (oF th))) → (M1 15 = some (aI G 6 (oF ol))) → (M1 19 = some (aZ G 120 (bF mm9))) → (M1 20 = some (aI G 120 ff)) → (M1 21 = some (aI G 120 lq)) → (M1 22 = some (cReader ad1 ra rb rt rv)) → (M1 23 = some (cMatcher ad1 qm pz)) → (M1 24 = some (aJ G 2160 sx)) → (M1 25 = some (aI G 6 (nF ft))) → (M1 26 = some (aJ G 240 rx)) → (M1 27 = some (aJ G 3 dm)) → (M1 28 = some (aI G 3 rc)) → (M1 qa = some (cQuestion ad1 qa ao vr)) → (M1 (qa + 1) = some (aI G 6 (nF kn))) → (M1 (qa + 2) = some (aZ G 6 (bF nq))) → (M1 (qa + 3) = some (aI G 6 (nF pn))) → (M1 (qa + 4) = some (aI G 6 (nF av))) → (M1 (qa + 5) = some (aI G 24 (nF ro))) → (M1 (qa + 6) = some (aI G 24 (nF te))) → (M1 qs = some (cQuestion ad1 qs sq su)) → (M1 (qs + 1) = some (aI G 6 (nF kb))) → (M1 (qs + 2) = some (aZ G 6 (bF nb))) → (M1 (qs + 3) = some (aI G 6 (nF pb))) → (M1 (qs + 4) = some (aI G 6 (nF ab))) → (M1 (qs + 5) = some (aI G 24 (nF rbb))) → (M1 (qs + 6) = some (aI G 24 (nF tbb))) → (M1 60 = some (cModel ad1 tw n jn ao vr sn len pt zs bg fw)) → (M1 61 = some (aI G 36 (nF le))) → (M1 62 = some (aI G 36 (nF mo))) → (M1 63 = some (aI G 36 (nF al))) → (M1 64 = some (aZ G 6 (bF ho))) → (M1 65 = some (aI G 120 (nF mk))) → (M1 66 = some (aI G 120 mf)) → (M1 67 = some (aI G 120 mu)) → (M1 68 = some (aI G 121 (nF mz))) → (M1 69 = some (aI G 726 (nF rr))) → (M1 70 = some (aI G 726 (nF ee))) → (M1 71 = some (aI G 40 (nF lst))) → (M1 72 = some (aI G 40 (nF oa))) → (M1 73 = some (aI G 40 (nF ob))) → (M1 74 = some (aI G 120 s74)) → (M1 75 = some (aI G 12 ak)) → (M1 76 = some (aZ G 12 (bF nm))) → (M1 77 = some (aI G 12 (nF ap))) → (M1 78 = some (aI G 48 pr)) → (M1 79 = some (aI G 48 pf)) → (M1 80 = some (aB G 400 tf)) → (M1 81 = some (aI G 5 fv)) → (M1 82 = some (aZ G 384000 (bF tr))) → (M1 83 = some (aI G 3 (oF gv))) → (M1 84 = some (aI G 3 fo)) → (M1 85 = some (aZ G 40 (bF re))) → (M1 86 = some (aZ G 120 (bF us))) → (M1 87 = some (aZ G 120 (bF nx))) → (M1 99 = some (aJ G 1 of)) → Iv G z ad1 M1 s H1 locs1 → lv_has ls1 7 [(0, .ref b), (1, .ref (ad1 0)), (2, .ref (ad1 60)), (3, .ref (ad1 99)), (4, .int (nI i))] → W p l e room_1 s m #[Value.ref b] below meth c H1 locs1 (cz + 10) (sy + 300) Q (F0 m 1333 ls1 [])) : W p l e room_1 s m #[Value.ref b] below meth c H locs cz sy Q (F0 m 234 ls []) := by
  have h16 := fL.1
  have hw1 := w1.1
  have hlst := ji_lst w3
  rcases (in_or 6 (xs (i + 1)) (by omega) : (xs (i + 1) < 0 ∨ ¬ xs (i + 1) < nI 6) ∨ (∃ t : Nat, t < 6 ∧ xs (i + 1) = nI t)) with hc_1 | hc_2
  · skip
    refine lv_aload_n hx hb dL_law_234 rfl (lv_at hl 1 rfl) ?_
    refine lv_aload_n hx hb dL_law_235 rfl (lv_at hl 0 rfl) ?_
    refine lv_iload hx hb dL_law_236 (lv_at hl 4 rfl) ?_
    refine lv_iconst (v := nI 1) hx hb dL_law_238 (by decide) ?_
    refine lv_iadd hx hb dL_law_239 ?_
    refine n_eq (nI_add i 1) ?_
    refine va_sld (A := fr z) hx hb hX hbl hbz hI.S (vp_in_nI (n := i + 1) (by omega) (by omega)) dL_law_240 ?_
    rw [nI_clamp (by omega)]
    refine lv_aload_n hx hb dL_law_241 rfl (lv_at hl 0 rfl) ?_
    refine lv_iload hx hb dL_law_242 (lv_at hl 4 rfl) ?_
    refine lv_iconst (v := nI 2) hx hb dL_law_244 (by decide) ?_
    refine lv_iadd hx hb dL_law_245 ?_
    refine n_eq (nI_add i 2) ?_
    refine va_sld (A := fr z) hx hb hX hbl hbz hI.S (vp_in_nI (n := i + 2) (by omega) (by omega)) dL_law_246 ?_
    rw [nI_clamp (by omega)]
    refine lv_aload_n hx hb dL_law_247 rfl (lv_at hl 0 rfl) ?_
    refine lv_iload hx hb dL_law_248 (lv_at hl 4 rfl) ?_
    refine lv_iconst (v := nI 3) hx hb dL_law_250 (by decide) ?_
    refine lv_iadd hx hb dL_law_251 ?_
    refine n_eq (nI_add i 3) ?_
    refine va_sld (A := fr z) hx hb hX hbl hbz hI.S (vp_in_nI (n := i + 3) (by omega) (by omega)) dL_law_252 ?_
    rw [nI_clamp (by omega)]
    refine lv_aload_n hx hb dL_law_253 rfl (lv_at hl 0 rfl) ?_
    refine lv_iload hx hb dL_law_254 (lv_at hl 4 rfl) ?_
    refine lv_iconst (v := nI 4) hx hb dL_law_256 (by decide) ?_
    refine lv_iadd hx hb dL_law_257 ?_
    refine n_eq (nI_add i 4) ?_
    refine va_sld (A := fr z) hx hb hX hbl hbz hI.S (vp_in_nI (n := i + 4) (by omega) (by omega)) dL_law_258 ?_
    rw [nI_clamp (by omega)]
    refine k_Ni (vx_runSW (As := [.ref (ad 0), .int (xs (i + 1)), .int (xs (i + 2)), .int (xs (i + 3)), .int (xs (i + 4))]) (rest := []) ⟨hx, hb, hml, hown, hts⟩ (c_L_ends_a l hst G z ad M (qa := qa) (qs := qs) (fw := fw) (x0 := xs (i + 1)) (x1 := xs (i + 2)) (x2 := xs (i + 3)) (x3 := xs (i + 4)) f_0 hc_1) (vx_cwSW 5 hts (gSW (lwg_of t_468 rfl) (lwg_of t_469 rfl) (lwg_of t_0 rfl) (lwg_of t_470 rfl)) rfl rfl rfl (by decide +kernel) ⟨Nat.le_of_ble_eq_true rfl, Nat.le_of_ble_eq_true rfl⟩) hI.preS rfl rfl hl.1 rfl (lv_room (Nat.le_of_ble_eq_true rfl)) dL_law_259 ⟨(show _ ≤ (601024 : Nat) from by omega), (show _ ≤ (7293034 : Nat) from by omega)⟩) hI (fun r_3 M_5 H_6 locs_7 hp_4 hI => ?_)
    obtain ⟨hr_8, hF_9⟩ := hp_4
    have hm_10 : M_5 0 = some (cStore ad qa qs fw) := by rw [hF_9 0 ]; exact f_0
    have hm_11 : M_5 1 = some (cTape ad len) := by rw [hF_9 1 ]; exact f_1
    have hm_12 : M_5 2 = some (aI G 400 (nF tb)) := by rw [hF_9 2 ]; exact f_2
    have hm_13 : M_5 3 = some (cLaws ad ) := by rw [hF_9 3 ]; exact f_3
    have hm_14 : M_5 4 = some (aI G 36 (nF le)) := by rw [hF_9 4 ]; exact f_4
    have hm_15 : M_5 5 = some (aI G 36 (nF mo)) := by rw [hF_9 5 ]; exact f_5
    have hm_16 : M_5 6 = some (aI G 36 (nF al)) := by rw [hF_9 6 ]; exact f_6
    have hm_17 : M_5 7 = some (aZ G 6 (bF ho)) := by rw [hF_9 7 ]; exact f_7
    have hm_18 : M_5 8 = some (cOnes ad jn) := by rw [hF_9 8 ]; exact f_8
    have hm_19 : M_5 9 = some (aI G 40 (nF hg)) := by rw [hF_9 9 ]; exact f_9
    have hm_20 : M_5 10 = some (aI G 40 (nF lst)) := by rw [hF_9 10 ]; exact f_10
    have hm_21 : M_5 11 = some (aI G 40 (nF jd)) := by rw [hF_9 11 ]; exact f_11
    have hm_22 : M_5 12 = some (cEnds ad 12 s0) := by rw [hF_9 12 ]; exact f_12
    have hm_23 : M_5 13 = some (aI G 6 (nF r0)) := by rw [hF_9 13 ]; exact f_13
    have hm_24 : M_5 14 = some (aI G 6 (oF th)) := by rw [hF_9 14 ]; exact f_14
    have hm_25 : M_5 15 = some (aI G 6 (oF ol)) := by rw [hF_9 15 ]; exact f_15
    have hm_26 : M_5 19 = some (aZ G 120 (bF mm9)) := by rw [hF_9 19 ]; exact f_19
    have hm_27 : M_5 20 = some (aI G 120 ff) := by rw [hF_9 20 ]; exact f_20
    have hm_28 : M_5 21 = some (aI G 120 lq) := by rw [hF_9 21 ]; exact f_21
    have hm_29 : M_5 22 = some (cReader ad ra rb rt rv) := by rw [hF_9 22 ]; exact f_22
    have hm_30 : M_5 23 = some (cMatcher ad qm pz) := by rw [hF_9 23 ]; exact f_23
    have hm_31 : M_5 24 = some (aJ G 2160 sx) := by rw [hF_9 24 ]; exact f_24
    have hm_32 : M_5 25 = some (aI G 6 (nF ft)) := by rw [hF_9 25 ]; exact f_25
    have hm_33 : M_5 26 = some (aJ G 240 rx) := by rw [hF_9 26 ]; exact f_26
    have hm_34 : M_5 27 = some (aJ G 3 dm) := by rw [hF_9 27 ]; exact f_27
    have hm_35 : M_5 28 = some (aI G 3 rc) := by rw [hF_9 28 ]; exact f_28
    have hm_36 : M_5 qa = some (cQuestion ad qa ao vr) := by rw [hF_9 qa ]; exact f_qa
    have hm_37 : M_5 (qa + 1) = some (aI G 6 (nF kn)) := by rw [hF_9 (qa + 1) ]; exact f_qa_1
    have hm_38 : M_5 (qa + 2) = some (aZ G 6 (bF nq)) := by rw [hF_9 (qa + 2) ]; exact f_qa_2
    have hm_39 : M_5 (qa + 3) = some (aI G 6 (nF pn)) := by rw [hF_9 (qa + 3) ]; exact f_qa_3
    have hm_40 : M_5 (qa + 4) = some (aI G 6 (nF av)) := by rw [hF_9 (qa + 4) ]; exact f_qa_4
    have hm_41 : M_5 (qa + 5) = some (aI G 24 (nF ro)) := by rw [hF_9 (qa + 5) ]; exact f_qa_5
    have hm_42 : M_5 (qa + 6) = some (aI G 24 (nF te)) := by rw [hF_9 (qa + 6) ]; exact f_qa_6
    have hm_43 : M_5 qs = some (cQuestion ad qs sq su) := by rw [hF_9 qs ]; exact f_qs
    have hm_44 : M_5 (qs + 1) = some (aI G 6 (nF kb)) := by rw [hF_9 (qs + 1) ]; exact f_qs_1
    have hm_45 : M_5 (qs + 2) = some (aZ G 6 (bF nb)) := by rw [hF_9 (qs + 2) ]; exact f_qs_2
    have hm_46 : M_5 (qs + 3) = some (aI G 6 (nF pb)) := by rw [hF_9 (qs + 3) ]; exact f_qs_3
    have hm_47 : M_5 (qs + 4) = some (aI G 6 (nF ab)) := by rw [hF_9 (qs + 4) ]; exact f_qs_4
    have hm_48 : M_5 (qs + 5) = some (aI G 24 (nF rbb)) := by rw [hF_9 (qs + 5) ]; exact f_qs_5
    have hm_49 : M_5 (qs + 6) = some (aI G 24 (nF tbb)) := by rw [hF_9 (qs + 6) ]; exact f_qs_6
    have hm_50 : M_5 60 = some (cModel ad tw n jn ao vr sn len pt zs bg fw) := by rw [hF_9 60 ]; exact f_60
    have hm_51 : M_5 61 = some (aI G 36 (nF le)) := by rw [hF_9 61 ]; exact f_61
    have hm_52 : M_5 62 = some (aI G 36 (nF mo)) := by rw [hF_9 62 ]; exact f_62
    have hm_53 : M_5 63 = some (aI G 36 (nF al)) := by rw [hF_9 63 ]; exact f_63
    have hm_54 : M_5 64 = some (aZ G 6 (bF ho)) := by rw [hF_9 64 ]; exact f_64
    have hm_55 : M_5 65 = some (aI G 120 (nF mk)) := by rw [hF_9 65 ]; exact f_65
    have hm_56 : M_5 66 = some (aI G 120 mf) := by rw [hF_9 66 ]; exact f_66
    have hm_57 : M_5 67 = some (aI G 120 mu) := by rw [hF_9 67 ]; exact f_67
    have hm_58 : M_5 68 = some (aI G 121 (nF mz)) := by rw [hF_9 68 ]; exact f_68
    have hm_59 : M_5 69 = some (aI G 726 (nF rr)) := by rw [hF_9 69 ]; exact f_69
    have hm_60 : M_5 70 = some (aI G 726 (nF ee)) := by rw [hF_9 70 ]; exact f_70
    have hm_61 : M_5 71 = some (aI G 40 (nF lst)) := by rw [hF_9 71 ]; exact f_71
    have hm_62 : M_5 72 = some (aI G 40 (nF oa)) := by rw [hF_9 72 ]; exact f_72
    have hm_63 : M_5 73 = some (aI G 40 (nF ob)) := by rw [hF_9 73 ]; exact f_73
    have hm_64 : M_5 74 = some (aI G 120 s74) := by rw [hF_9 74 ]; exact f_74
    have hm_65 : M_5 75 = some (aI G 12 ak) := by rw [hF_9 75 ]; exact f_75
    have hm_66 : M_5 76 = some (aZ G 12 (bF nm)) := by rw [hF_9 76 ]; exact f_76
    have hm_67 : M_5 77 = some (aI G 12 (nF ap)) := by rw [hF_9 77 ]; exact f_77
    have hm_68 : M_5 78 = some (aI G 48 pr) := by rw [hF_9 78 ]; exact f_78
    have hm_69 : M_5 79 = some (aI G 48 pf) := by rw [hF_9 79 ]; exact f_79
    have hm_70 : M_5 80 = some (aB G 400 tf) := by rw [hF_9 80 ]; exact f_80
    have hm_71 : M_5 81 = some (aI G 5 fv) := by rw [hF_9 81 ]; exact f_81
    have hm_72 : M_5 82 = some (aZ G 384000 (bF tr)) := by rw [hF_9 82 ]; exact f_82
    have hm_73 : M_5 83 = some (aI G 3 (oF gv)) := by rw [hF_9 83 ]; exact f_83
    have hm_74 : M_5 84 = some (aI G 3 fo) := by rw [hF_9 84 ]; exact f_84
    have hm_75 : M_5 85 = some (aZ G 40 (bF re)) := by rw [hF_9 85 ]; exact f_85
    have hm_76 : M_5 86 = some (aZ G 120 (bF us)) := by rw [hF_9 86 ]; exact f_86
    have hm_77 : M_5 87 = some (aZ G 120 (bF nx)) := by rw [hF_9 87 ]; exact f_87
    have hm_78 : M_5 99 = some (aJ G 1 of) := by rw [hF_9 99 ]; exact f_99
    have hm_79 : M_5 16 = some (cLines ad ) := by rw [hF_9 16 ]; exact h16
    have hL_80 : LSm G ad M_5 n kd fm to sz rl en := fL.keep (fun j hj => hF_9 j )
    rw [hr_8]
    refine lv_istore (lv' := [(5, .int (nI 1)), (0, .ref b), (1, .ref (ad 0)), (2, .ref (ad 60)), (3, .ref (ad 99)), (4, .int (nI i))]) hx hb dL_law_262 hl (by decide) rfl (fun ls hl => ?_)
    refine lv_aload_n hx hb dL_law_264 rfl (lv_at hl 3 rfl) ?_
    refine lv_aload_n hx hb dL_law_265 rfl (lv_at hl 1 rfl) ?_
    refine lv_iload hx hb dL_law_266 (lv_at hl 5 rfl) ?_
    refine lv_iconst (v := nI 1) hx hb dL_law_268 (by decide) ?_
    refine lv_iadd hx hb dL_law_269 ?_
    refine n_eq (nI_add i 1) ?_
    refine va_sld (A := fr z) hx hb hX hbl hbz hI.S (vp_in_nI (n := i + 1) (by omega) (by omega)) dL_law_270 ?_
    rw [nI_clamp (by omega)]
    refine lv_aload_n hx hb dL_law_271 rfl (lv_at hl 1 rfl) ?_
    refine lv_iload hx hb dL_law_272 (lv_at hl 5 rfl) ?_
    refine lv_iconst (v := nI 2) hx hb dL_law_274 (by decide) ?_
    refine lv_iadd hx hb dL_law_275 ?_
    refine n_eq (nI_add i 2) ?_
    refine va_sld (A := fr z) hx hb hX hbl hbz hI.S (vp_in_nI (n := i + 2) (by omega) (by omega)) dL_law_276 ?_
    rw [nI_clamp (by omega)]
    refine lv_aload_n hx hb dL_law_277 rfl (lv_at hl 1 rfl) ?_
    refine lv_iload hx hb dL_law_278 (lv_at hl 5 rfl) ?_
    refine lv_iconst (v := nI 3) hx hb dL_law_280 (by decide) ?_
    refine lv_iadd hx hb dL_law_281 ?_
    refine n_eq (nI_add i 3) ?_
    refine va_sld (A := fr z) hx hb hX hbl hbz hI.S (vp_in_nI (n := i + 3) (by omega) (by omega)) dL_law_282 ?_
    rw [nI_clamp (by omega)]
    refine lv_aload_n hx hb dL_law_283 rfl (lv_at hl 1 rfl) ?_
    refine lv_iload hx hb dL_law_284 (lv_at hl 5 rfl) ?_
    refine lv_iconst (v := nI 4) hx hb dL_law_286 (by decide) ?_
    refine lv_iadd hx hb dL_law_287 ?_
    refine n_eq (nI_add i 4) ?_
    refine va_sld (A := fr z) hx hb hX hbl hbz hI.S (vp_in_nI (n := i + 4) (by omega) (by omega)) dL_law_288 ?_
    rw [nI_clamp (by omega)]
    refine k_Nv (va_runV (As := [.int (xs (i + 1)), .int (xs (i + 2)), .int (xs (i + 3)), .int (xs (i + 4))]) (rest := []) ⟨hx, hb, hml, hown, hts⟩ (c_X10_ends_a l G z ad M_5 (th := tw) (ln := n) (on := jn) (ao := ao) (vr := vr) (sn := sn) (tp := len) (pt := pt) (zs := zs) (bg := bg) (fa := fw) (x0 := xs (i + 1)) (x1 := xs (i + 2)) (x2 := xs (i + 3)) (x3 := xs (i + 4)) hm_50 hc_1) (cwV 4 hts (gV (lwg_of t_1128 rfl) (lwg_of t_1129 rfl) (lwg_of t_1130 rfl) (lwg_of t_13 rfl) (lwg_of t_1131 rfl)) rfl rfl rfl (by decide +kernel) ⟨Nat.le_of_ble_eq_true rfl, Nat.le_of_ble_eq_true rfl⟩) (hI.preV hm_50 rfl) rfl rfl hl.1 rfl (lv_room (Nat.le_of_ble_eq_true rfl)) dL_law_289 ⟨(show _ ≤ (601024 : Nat) from by omega), (show _ ≤ (7293034 : Nat) from by omega)⟩) hI (fun M_83 H_84 locs_85 hp_82 hI => ?_)
    obtain ⟨hm_86, hF_87⟩ := hp_82
    have hm_88 : M_83 0 = some (cStore ad qa qs fw) := by rw [hF_87 0 (by omega)]; exact hm_10
    have hm_89 : M_83 1 = some (cTape ad len) := by rw [hF_87 1 (by omega)]; exact hm_11
    have hm_90 : M_83 2 = some (aI G 400 (nF tb)) := by rw [hF_87 2 (by omega)]; exact hm_12
    have hm_91 : M_83 3 = some (cLaws ad ) := by rw [hF_87 3 (by omega)]; exact hm_13
    have hm_92 : M_83 4 = some (aI G 36 (nF le)) := by rw [hF_87 4 (by omega)]; exact hm_14
    have hm_93 : M_83 5 = some (aI G 36 (nF mo)) := by rw [hF_87 5 (by omega)]; exact hm_15
    have hm_94 : M_83 6 = some (aI G 36 (nF al)) := by rw [hF_87 6 (by omega)]; exact hm_16
    have hm_95 : M_83 7 = some (aZ G 6 (bF ho)) := by rw [hF_87 7 (by omega)]; exact hm_17
    have hm_96 : M_83 8 = some (cOnes ad jn) := by rw [hF_87 8 (by omega)]; exact hm_18
    have hm_97 : M_83 9 = some (aI G 40 (nF hg)) := by rw [hF_87 9 (by omega)]; exact hm_19
    have hm_98 : M_83 10 = some (aI G 40 (nF lst)) := by rw [hF_87 10 (by omega)]; exact hm_20
    have hm_99 : M_83 11 = some (aI G 40 (nF jd)) := by rw [hF_87 11 (by omega)]; exact hm_21
    have hm_100 : M_83 12 = some (cEnds ad 12 s0) := by rw [hF_87 12 (by omega)]; exact hm_22
    have hm_101 : M_83 13 = some (aI G 6 (nF r0)) := by rw [hF_87 13 (by omega)]; exact hm_23
    have hm_102 : M_83 14 = some (aI G 6 (oF th)) := by rw [hF_87 14 (by omega)]; exact hm_24
    have hm_103 : M_83 15 = some (aI G 6 (oF ol)) := by rw [hF_87 15 (by omega)]; exact hm_25
    have hm_104 : M_83 19 = some (aZ G 120 (bF mm9)) := by rw [hF_87 19 (by omega)]; exact hm_26
    have hm_105 : M_83 20 = some (aI G 120 ff) := by rw [hF_87 20 (by omega)]; exact hm_27
    have hm_106 : M_83 21 = some (aI G 120 lq) := by rw [hF_87 21 (by omega)]; exact hm_28
    have hm_107 : M_83 22 = some (cReader ad ra rb rt rv) := by rw [hF_87 22 (by omega)]; exact hm_29
    have hm_108 : M_83 23 = some (cMatcher ad qm pz) := by rw [hF_87 23 (by omega)]; exact hm_30
    have hm_109 : M_83 24 = some (aJ G 2160 sx) := by rw [hF_87 24 (by omega)]; exact hm_31
    have hm_110 : M_83 25 = some (aI G 6 (nF ft)) := by rw [hF_87 25 (by omega)]; exact hm_32
    have hm_111 : M_83 26 = some (aJ G 240 rx) := by rw [hF_87 26 (by omega)]; exact hm_33
    have hm_112 : M_83 27 = some (aJ G 3 dm) := by rw [hF_87 27 (by omega)]; exact hm_34
    have hm_113 : M_83 28 = some (aI G 3 rc) := by rw [hF_87 28 (by omega)]; exact hm_35
    have hm_114 : M_83 qa = some (cQuestion ad qa ao vr) := by rw [hF_87 qa (by omega)]; exact hm_36
    have hm_115 : M_83 (qa + 1) = some (aI G 6 (nF kn)) := by rw [hF_87 (qa + 1) (by omega)]; exact hm_37
    have hm_116 : M_83 (qa + 2) = some (aZ G 6 (bF nq)) := by rw [hF_87 (qa + 2) (by omega)]; exact hm_38
    have hm_117 : M_83 (qa + 3) = some (aI G 6 (nF pn)) := by rw [hF_87 (qa + 3) (by omega)]; exact hm_39
    have hm_118 : M_83 (qa + 4) = some (aI G 6 (nF av)) := by rw [hF_87 (qa + 4) (by omega)]; exact hm_40
    have hm_119 : M_83 (qa + 5) = some (aI G 24 (nF ro)) := by rw [hF_87 (qa + 5) (by omega)]; exact hm_41
    have hm_120 : M_83 (qa + 6) = some (aI G 24 (nF te)) := by rw [hF_87 (qa + 6) (by omega)]; exact hm_42
    have hm_121 : M_83 qs = some (cQuestion ad qs sq su) := by rw [hF_87 qs (by omega)]; exact hm_43
    have hm_122 : M_83 (qs + 1) = some (aI G 6 (nF kb)) := by rw [hF_87 (qs + 1) (by omega)]; exact hm_44
    have hm_123 : M_83 (qs + 2) = some (aZ G 6 (bF nb)) := by rw [hF_87 (qs + 2) (by omega)]; exact hm_45
    have hm_124 : M_83 (qs + 3) = some (aI G 6 (nF pb)) := by rw [hF_87 (qs + 3) (by omega)]; exact hm_46
    have hm_125 : M_83 (qs + 4) = some (aI G 6 (nF ab)) := by rw [hF_87 (qs + 4) (by omega)]; exact hm_47
    have hm_126 : M_83 (qs + 5) = some (aI G 24 (nF rbb)) := by rw [hF_87 (qs + 5) (by omega)]; exact hm_48
    have hm_127 : M_83 (qs + 6) = some (aI G 24 (nF tbb)) := by rw [hF_87 (qs + 6) (by omega)]; exact hm_49
    have hm_128 : M_83 61 = some (aI G 36 (nF le)) := by rw [hF_87 61 (by omega)]; exact hm_51
    have hm_129 : M_83 62 = some (aI G 36 (nF mo)) := by rw [hF_87 62 (by omega)]; exact hm_52
    have hm_130 : M_83 63 = some (aI G 36 (nF al)) := by rw [hF_87 63 (by omega)]; exact hm_53
    have hm_131 : M_83 64 = some (aZ G 6 (bF ho)) := by rw [hF_87 64 (by omega)]; exact hm_54
    have hm_132 : M_83 65 = some (aI G 120 (nF mk)) := by rw [hF_87 65 (by omega)]; exact hm_55
    have hm_133 : M_83 66 = some (aI G 120 mf) := by rw [hF_87 66 (by omega)]; exact hm_56
    have hm_134 : M_83 67 = some (aI G 120 mu) := by rw [hF_87 67 (by omega)]; exact hm_57
    have hm_135 : M_83 68 = some (aI G 121 (nF mz)) := by rw [hF_87 68 (by omega)]; exact hm_58
    have hm_136 : M_83 69 = some (aI G 726 (nF rr)) := by rw [hF_87 69 (by omega)]; exact hm_59
    have hm_137 : M_83 70 = some (aI G 726 (nF ee)) := by rw [hF_87 70 (by omega)]; exact hm_60
    have hm_138 : M_83 71 = some (aI G 40 (nF lst)) := by rw [hF_87 71 (by omega)]; exact hm_61
    have hm_139 : M_83 72 = some (aI G 40 (nF oa)) := by rw [hF_87 72 (by omega)]; exact hm_62
    have hm_140 : M_83 73 = some (aI G 40 (nF ob)) := by rw [hF_87 73 (by omega)]; exact hm_63
    have hm_141 : M_83 74 = some (aI G 120 s74) := by rw [hF_87 74 (by omega)]; exact hm_64
    have hm_142 : M_83 75 = some (aI G 12 ak) := by rw [hF_87 75 (by omega)]; exact hm_65
    have hm_143 : M_83 76 = some (aZ G 12 (bF nm)) := by rw [hF_87 76 (by omega)]; exact hm_66
    have hm_144 : M_83 77 = some (aI G 12 (nF ap)) := by rw [hF_87 77 (by omega)]; exact hm_67
    have hm_145 : M_83 78 = some (aI G 48 pr) := by rw [hF_87 78 (by omega)]; exact hm_68
    have hm_146 : M_83 79 = some (aI G 48 pf) := by rw [hF_87 79 (by omega)]; exact hm_69
    have hm_147 : M_83 80 = some (aB G 400 tf) := by rw [hF_87 80 (by omega)]; exact hm_70
    have hm_148 : M_83 81 = some (aI G 5 fv) := by rw [hF_87 81 (by omega)]; exact hm_71
    have hm_149 : M_83 82 = some (aZ G 384000 (bF tr)) := by rw [hF_87 82 (by omega)]; exact hm_72
    have hm_150 : M_83 83 = some (aI G 3 (oF gv)) := by rw [hF_87 83 (by omega)]; exact hm_73
    have hm_151 : M_83 84 = some (aI G 3 fo) := by rw [hF_87 84 (by omega)]; exact hm_74
    have hm_152 : M_83 85 = some (aZ G 40 (bF re)) := by rw [hF_87 85 (by omega)]; exact hm_75
    have hm_153 : M_83 86 = some (aZ G 120 (bF us)) := by rw [hF_87 86 (by omega)]; exact hm_76
    have hm_154 : M_83 87 = some (aZ G 120 (bF nx)) := by rw [hF_87 87 (by omega)]; exact hm_77
    have hm_155 : M_83 99 = some (aJ G 1 of) := by rw [hF_87 99 (by omega)]; exact hm_78
    have hm_156 : M_83 16 = some (cLines ad ) := by rw [hF_87 16 (by omega)]; exact hm_79
    have hL_157 : LSm G ad M_83 n kd fm to sz rl en := hL_80.keep (fun j hj => hF_87 j (by omega))
    have hF_158 : ∀ j : Nat, j ≠ 60 → M_83 j = M j := fun j q0 => (hF_87 j q0).trans (hF_9 j )
    refine lv_aload_n hx hb dL_law_292 rfl (lv_at hl 3 rfl) ?_
    refine k_Ri (va_runV (As := []) (rest := []) ⟨hx, hb, hml, hown, hts⟩ (c_X10_thrown l G z ad M_83 (th := 1) (ln := n) (on := jn) (ao := ao) (vr := vr) (sn := sn) (tp := len) (pt := pt) (zs := zs) (bg := bg) (fa := fw) hm_86) (cwV 0 hts (gV (lwg_of t_997 rfl) (lwg_of t_998 rfl) (lwg_of t_999 rfl) (lwg_of t_13 rfl) (lwg_of t_1000 rfl)) rfl rfl rfl (by decide +kernel) ⟨Nat.le_of_ble_eq_true rfl, Nat.le_of_ble_eq_true rfl⟩) (hI.preV hm_86 rfl) rfl rfl hl.1 rfl (lv_room (Nat.le_of_ble_eq_true rfl)) dL_law_293 ⟨(show _ ≤ (601024 : Nat) from by omega), (show _ ≤ (7293034 : Nat) from by omega)⟩) (fun _ h => h) (fun r_159 hp_160 => ?_)
    rw [hp_160]
    refine lv_iload hx hb dL_law_296 (lv_at hl 0 rfl) ?_
    refine lv_icmp_eq (tgt := 303) hx hb dL_law_298 (by decide) (fun c_161 => ?_) (fun c_161 => ?_)
    · -- 298: nI 1 eq
      refine lv_goto (tgt := 1333) hx hb dL_law_303 (by decide) ?_
      refine W.widen (k := cz + 10) (n := sy + 300) (by omega) (by omega) ?_
      exact kk ad M_83 H_84 locs_85 ls n kd fm to sz rl en qa qs fw len tb le mo al ho jn hg lst jd s0 r0 th ol e0 mm9 ff lq ra rb rt rv qm pz sx ft rx dm rc ao vr kn nq pn av ro te sq su kb nb pb ab rbb tbb 1 sn pt zs bg mk mf mu mz rr ee oa ob s74 ak nm ap pr pf tf fv tr gv fo re us nx of hL_157 w1 w2 w3 w4 w5 w6 w7 w8 w9 w10 w11 w12 w13 w14 w15 w16 w17 w18 w19 w20 w21 w22 w23 w24 w25 w26 w27 w28 w29 (fun h9 => by rw [hF_158 17 (by omega), hF_158 18 (by omega)]; exact w30 h9) (by rw [hF_158 29 (by omega)]; exact w31) (fun j9 h9 => by rw [hF_158 j9 (by omega)]; exact w32 j9 h9) hm_88 hm_89 hm_90 hm_91 hm_92 hm_93 hm_94 hm_95 hm_96 hm_97 hm_98 hm_99 hm_100 hm_101 hm_102 hm_103 hm_104 hm_105 hm_106 hm_107 hm_108 hm_109 hm_110 hm_111 hm_112 hm_113 hm_114 hm_115 hm_116 hm_117 hm_118 hm_119 hm_120 hm_121 hm_122 hm_123 hm_124 hm_125 hm_126 hm_127 hm_86 hm_128 hm_129 hm_130 hm_131 hm_132 hm_133 hm_134 hm_135 hm_136 hm_137 hm_138 hm_139 hm_140 hm_141 hm_142 hm_143 hm_144 hm_145 hm_146 hm_147 hm_148 hm_149 hm_150 hm_151 hm_152 hm_153 hm_154 hm_155 hI (lv_sub hl [1, 2, 3, 4, 5] rfl)
    · -- 298: nI 1 ne
      exact absurd (by decide) c_161
  · skip
    refine lv_aload_n hx hb dL_law_234 rfl (lv_at hl 1 rfl) ?_
    obtain ⟨t1, ht1, et1⟩ := hc_2
    rcases (in_or 6 (xs (i + 2)) (by omega) : (xs (i + 2) < 0 ∨ ¬ xs (i + 2) < nI 6) ∨ (∃ t : Nat, t < 6 ∧ xs (i + 2) = nI t)) with hc_162 | hc_163
    · skip
      refine lv_aload_n hx hb dL_law_235 rfl (lv_at hl 0 rfl) ?_
      refine lv_iload hx hb dL_law_236 (lv_at hl 4 rfl) ?_
      refine lv_iconst (v := nI 1) hx hb dL_law_238 (by decide) ?_
      refine lv_iadd hx hb dL_law_239 ?_
      refine n_eq (nI_add i 1) ?_
      refine va_sld (A := fr z) hx hb hX hbl hbz hI.S (vp_in_nI (n := i + 1) (by omega) (by omega)) dL_law_240 ?_
      rw [nI_clamp (by omega)]
      refine n_eq (show _ = nI t1 from et1) ?_
      refine lv_aload_n hx hb dL_law_241 rfl (lv_at hl 0 rfl) ?_
      refine lv_iload hx hb dL_law_242 (lv_at hl 4 rfl) ?_
      refine lv_iconst (v := nI 2) hx hb dL_law_244 (by decide) ?_
      refine lv_iadd hx hb dL_law_245 ?_
      refine n_eq (nI_add i 2) ?_
      refine va_sld (A := fr z) hx hb hX hbl hbz hI.S (vp_in_nI (n := i + 2) (by omega) (by omega)) dL_law_246 ?_
      rw [nI_clamp (by omega)]
      refine lv_aload_n hx hb dL_law_247 rfl (lv_at hl 0 rfl) ?_
      refine lv_iload hx hb dL_law_248 (lv_at hl 4 rfl) ?_
      refine lv_iconst (v := nI 3) hx hb dL_law_250 (by decide) ?_
      refine lv_iadd hx hb dL_law_251 ?_
      refine n_eq (nI_add i 3) ?_
      refine va_sld (A := fr z) hx hb hX hbl hbz hI.S (vp_in_nI (n := i + 3) (by omega) (by omega)) dL_law_252 ?_
      rw [nI_clamp (by omega)]
      refine lv_aload_n hx hb dL_law_253 rfl (lv_at hl 0 rfl) ?_
      refine lv_iload hx hb dL_law_254 (lv_at hl 4 rfl) ?_
      refine lv_iconst (v := nI 4) hx hb dL_law_256 (by decide) ?_
      refine lv_iadd hx hb dL_law_257 ?_
      refine n_eq (nI_add i 4) ?_
      refine va_sld (A := fr z) hx hb hX hbl hbz hI.S (vp_in_nI (n := i + 4) (by omega) (by omega)) dL_law_258 ?_
      rw [nI_clamp (by omega)]
      refine k_Ni (vx_runSW (As := [.ref (ad 0), .int (nI t1), .int (xs (i + 2)), .int (xs (i + 3)), .int (xs (i + 4))]) (rest := []) ⟨hx, hb, hml, hown, hts⟩ (c_L_ends_b l hst G z ad M (qa := qa) (qs := qs) (fw := fw) (kd := t1) (x1 := xs (i + 2)) (x2 := xs (i + 3)) (x3 := xs (i + 4)) f_0 ht1 hc_162) (vx_cwSW 5 hts (gSW (lwg_of t_468 rfl) (lwg_of t_469 rfl) (lwg_of t_0 rfl) (lwg_of t_470 rfl)) rfl rfl rfl (by decide +kernel) ⟨Nat.le_of_ble_eq_true rfl, Nat.le_of_ble_eq_true rfl⟩) hI.preS rfl rfl hl.1 rfl (lv_room (Nat.le_of_ble_eq_true rfl)) dL_law_259 ⟨(show _ ≤ (601024 : Nat) from by omega), (show _ ≤ (7293034 : Nat) from by omega)⟩) hI (fun r_164 M_166 H_167 locs_168 hp_165 hI => ?_)
      obtain ⟨hr_169, hF_170⟩ := hp_165
      have hm_171 : M_166 0 = some (cStore ad qa qs fw) := by rw [hF_170 0 ]; exact f_0
      have hm_172 : M_166 1 = some (cTape ad len) := by rw [hF_170 1 ]; exact f_1
      have hm_173 : M_166 2 = some (aI G 400 (nF tb)) := by rw [hF_170 2 ]; exact f_2
      have hm_174 : M_166 3 = some (cLaws ad ) := by rw [hF_170 3 ]; exact f_3
      have hm_175 : M_166 4 = some (aI G 36 (nF le)) := by rw [hF_170 4 ]; exact f_4
      have hm_176 : M_166 5 = some (aI G 36 (nF mo)) := by rw [hF_170 5 ]; exact f_5
      have hm_177 : M_166 6 = some (aI G 36 (nF al)) := by rw [hF_170 6 ]; exact f_6
      have hm_178 : M_166 7 = some (aZ G 6 (bF ho)) := by rw [hF_170 7 ]; exact f_7
      have hm_179 : M_166 8 = some (cOnes ad jn) := by rw [hF_170 8 ]; exact f_8
      have hm_180 : M_166 9 = some (aI G 40 (nF hg)) := by rw [hF_170 9 ]; exact f_9
      have hm_181 : M_166 10 = some (aI G 40 (nF lst)) := by rw [hF_170 10 ]; exact f_10
      have hm_182 : M_166 11 = some (aI G 40 (nF jd)) := by rw [hF_170 11 ]; exact f_11
      have hm_183 : M_166 12 = some (cEnds ad 12 s0) := by rw [hF_170 12 ]; exact f_12
      have hm_184 : M_166 13 = some (aI G 6 (nF r0)) := by rw [hF_170 13 ]; exact f_13
      have hm_185 : M_166 14 = some (aI G 6 (oF th)) := by rw [hF_170 14 ]; exact f_14
      have hm_186 : M_166 15 = some (aI G 6 (oF ol)) := by rw [hF_170 15 ]; exact f_15
      have hm_187 : M_166 19 = some (aZ G 120 (bF mm9)) := by rw [hF_170 19 ]; exact f_19
      have hm_188 : M_166 20 = some (aI G 120 ff) := by rw [hF_170 20 ]; exact f_20
      have hm_189 : M_166 21 = some (aI G 120 lq) := by rw [hF_170 21 ]; exact f_21
      have hm_190 : M_166 22 = some (cReader ad ra rb rt rv) := by rw [hF_170 22 ]; exact f_22
      have hm_191 : M_166 23 = some (cMatcher ad qm pz) := by rw [hF_170 23 ]; exact f_23
      have hm_192 : M_166 24 = some (aJ G 2160 sx) := by rw [hF_170 24 ]; exact f_24
      have hm_193 : M_166 25 = some (aI G 6 (nF ft)) := by rw [hF_170 25 ]; exact f_25
      have hm_194 : M_166 26 = some (aJ G 240 rx) := by rw [hF_170 26 ]; exact f_26
      have hm_195 : M_166 27 = some (aJ G 3 dm) := by rw [hF_170 27 ]; exact f_27
      have hm_196 : M_166 28 = some (aI G 3 rc) := by rw [hF_170 28 ]; exact f_28
      have hm_197 : M_166 qa = some (cQuestion ad qa ao vr) := by rw [hF_170 qa ]; exact f_qa
      have hm_198 : M_166 (qa + 1) = some (aI G 6 (nF kn)) := by rw [hF_170 (qa + 1) ]; exact f_qa_1
      have hm_199 : M_166 (qa + 2) = some (aZ G 6 (bF nq)) := by rw [hF_170 (qa + 2) ]; exact f_qa_2
      have hm_200 : M_166 (qa + 3) = some (aI G 6 (nF pn)) := by rw [hF_170 (qa + 3) ]; exact f_qa_3
      have hm_201 : M_166 (qa + 4) = some (aI G 6 (nF av)) := by rw [hF_170 (qa + 4) ]; exact f_qa_4
      have hm_202 : M_166 (qa + 5) = some (aI G 24 (nF ro)) := by rw [hF_170 (qa + 5) ]; exact f_qa_5
      have hm_203 : M_166 (qa + 6) = some (aI G 24 (nF te)) := by rw [hF_170 (qa + 6) ]; exact f_qa_6
      have hm_204 : M_166 qs = some (cQuestion ad qs sq su) := by rw [hF_170 qs ]; exact f_qs
      have hm_205 : M_166 (qs + 1) = some (aI G 6 (nF kb)) := by rw [hF_170 (qs + 1) ]; exact f_qs_1
      have hm_206 : M_166 (qs + 2) = some (aZ G 6 (bF nb)) := by rw [hF_170 (qs + 2) ]; exact f_qs_2
      have hm_207 : M_166 (qs + 3) = some (aI G 6 (nF pb)) := by rw [hF_170 (qs + 3) ]; exact f_qs_3
      have hm_208 : M_166 (qs + 4) = some (aI G 6 (nF ab)) := by rw [hF_170 (qs + 4) ]; exact f_qs_4
      have hm_209 : M_166 (qs + 5) = some (aI G 24 (nF rbb)) := by rw [hF_170 (qs + 5) ]; exact f_qs_5
      have hm_210 : M_166 (qs + 6) = some (aI G 24 (nF tbb)) := by rw [hF_170 (qs + 6) ]; exact f_qs_6
      have hm_211 : M_166 60 = some (cModel ad tw n jn ao vr sn len pt zs bg fw) := by rw [hF_170 60 ]; exact f_60
      have hm_212 : M_166 61 = some (aI G 36 (nF le)) := by rw [hF_170 61 ]; exact f_61
      have hm_213 : M_166 62 = some (aI G 36 (nF mo)) := by rw [hF_170 62 ]; exact f_62
      have hm_214 : M_166 63 = some (aI G 36 (nF al)) := by rw [hF_170 63 ]; exact f_63
      have hm_215 : M_166 64 = some (aZ G 6 (bF ho)) := by rw [hF_170 64 ]; exact f_64
      have hm_216 : M_166 65 = some (aI G 120 (nF mk)) := by rw [hF_170 65 ]; exact f_65
      have hm_217 : M_166 66 = some (aI G 120 mf) := by rw [hF_170 66 ]; exact f_66
      have hm_218 : M_166 67 = some (aI G 120 mu) := by rw [hF_170 67 ]; exact f_67
      have hm_219 : M_166 68 = some (aI G 121 (nF mz)) := by rw [hF_170 68 ]; exact f_68
      have hm_220 : M_166 69 = some (aI G 726 (nF rr)) := by rw [hF_170 69 ]; exact f_69
      have hm_221 : M_166 70 = some (aI G 726 (nF ee)) := by rw [hF_170 70 ]; exact f_70
      have hm_222 : M_166 71 = some (aI G 40 (nF lst)) := by rw [hF_170 71 ]; exact f_71
      have hm_223 : M_166 72 = some (aI G 40 (nF oa)) := by rw [hF_170 72 ]; exact f_72
      have hm_224 : M_166 73 = some (aI G 40 (nF ob)) := by rw [hF_170 73 ]; exact f_73
      have hm_225 : M_166 74 = some (aI G 120 s74) := by rw [hF_170 74 ]; exact f_74
      have hm_226 : M_166 75 = some (aI G 12 ak) := by rw [hF_170 75 ]; exact f_75
      have hm_227 : M_166 76 = some (aZ G 12 (bF nm)) := by rw [hF_170 76 ]; exact f_76
      have hm_228 : M_166 77 = some (aI G 12 (nF ap)) := by rw [hF_170 77 ]; exact f_77
      have hm_229 : M_166 78 = some (aI G 48 pr) := by rw [hF_170 78 ]; exact f_78
      have hm_230 : M_166 79 = some (aI G 48 pf) := by rw [hF_170 79 ]; exact f_79
      have hm_231 : M_166 80 = some (aB G 400 tf) := by rw [hF_170 80 ]; exact f_80
      have hm_232 : M_166 81 = some (aI G 5 fv) := by rw [hF_170 81 ]; exact f_81
      have hm_233 : M_166 82 = some (aZ G 384000 (bF tr)) := by rw [hF_170 82 ]; exact f_82
      have hm_234 : M_166 83 = some (aI G 3 (oF gv)) := by rw [hF_170 83 ]; exact f_83
      have hm_235 : M_166 84 = some (aI G 3 fo) := by rw [hF_170 84 ]; exact f_84
      have hm_236 : M_166 85 = some (aZ G 40 (bF re)) := by rw [hF_170 85 ]; exact f_85
      have hm_237 : M_166 86 = some (aZ G 120 (bF us)) := by rw [hF_170 86 ]; exact f_86
      have hm_238 : M_166 87 = some (aZ G 120 (bF nx)) := by rw [hF_170 87 ]; exact f_87
      have hm_239 : M_166 99 = some (aJ G 1 of) := by rw [hF_170 99 ]; exact f_99
      have hm_240 : M_166 16 = some (cLines ad ) := by rw [hF_170 16 ]; exact h16
      have hL_241 : LSm G ad M_166 n kd fm to sz rl en := fL.keep (fun j hj => hF_170 j )
      rw [hr_169]
      refine lv_istore (lv' := [(5, .int (nI 1)), (0, .ref b), (1, .ref (ad 0)), (2, .ref (ad 60)), (3, .ref (ad 99)), (4, .int (nI i))]) hx hb dL_law_262 hl (by decide) rfl (fun ls hl => ?_)
      refine lv_aload_n hx hb dL_law_264 rfl (lv_at hl 3 rfl) ?_
      refine lv_aload_n hx hb dL_law_265 rfl (lv_at hl 1 rfl) ?_
      refine lv_iload hx hb dL_law_266 (lv_at hl 5 rfl) ?_
      refine lv_iconst (v := nI 1) hx hb dL_law_268 (by decide) ?_
      refine lv_iadd hx hb dL_law_269 ?_
      refine n_eq (nI_add i 1) ?_
      refine va_sld (A := fr z) hx hb hX hbl hbz hI.S (vp_in_nI (n := i + 1) (by omega) (by omega)) dL_law_270 ?_
      rw [nI_clamp (by omega)]
      refine n_eq (show _ = nI t1 from et1) ?_
      refine lv_aload_n hx hb dL_law_271 rfl (lv_at hl 1 rfl) ?_
      refine lv_iload hx hb dL_law_272 (lv_at hl 5 rfl) ?_
      refine lv_iconst (v := nI 2) hx hb dL_law_274 (by decide) ?_
      refine lv_iadd hx hb dL_law_275 ?_
      refine n_eq (nI_add i 2) ?_
      refine va_sld (A := fr z) hx hb hX hbl hbz hI.S (vp_in_nI (n := i + 2) (by omega) (by omega)) dL_law_276 ?_
      rw [nI_clamp (by omega)]
      refine lv_aload_n hx hb dL_law_277 rfl (lv_at hl 1 rfl) ?_
      refine lv_iload hx hb dL_law_278 (lv_at hl 5 rfl) ?_
      refine lv_iconst (v := nI 3) hx hb dL_law_280 (by decide) ?_
      refine lv_iadd hx hb dL_law_281 ?_
      refine n_eq (nI_add i 3) ?_
      refine va_sld (A := fr z) hx hb hX hbl hbz hI.S (vp_in_nI (n := i + 3) (by omega) (by omega)) dL_law_282 ?_
      rw [nI_clamp (by omega)]
      refine lv_aload_n hx hb dL_law_283 rfl (lv_at hl 1 rfl) ?_
      refine lv_iload hx hb dL_law_284 (lv_at hl 5 rfl) ?_
      refine lv_iconst (v := nI 4) hx hb dL_law_286 (by decide) ?_
      refine lv_iadd hx hb dL_law_287 ?_
      refine n_eq (nI_add i 4) ?_
      refine va_sld (A := fr z) hx hb hX hbl hbz hI.S (vp_in_nI (n := i + 4) (by omega) (by omega)) dL_law_288 ?_
      rw [nI_clamp (by omega)]
      refine k_Nv (va_runV (As := [.int (nI t1), .int (xs (i + 2)), .int (xs (i + 3)), .int (xs (i + 4))]) (rest := []) ⟨hx, hb, hml, hown, hts⟩ (c_X10_ends_b l G z ad M_166 (th := tw) (ln := n) (on := jn) (ao := ao) (vr := vr) (sn := sn) (tp := len) (pt := pt) (zs := zs) (bg := bg) (fa := fw) (kd := t1) (x1 := xs (i + 2)) (x2 := xs (i + 3)) (x3 := xs (i + 4)) hm_211 ht1 hc_162) (cwV 4 hts (gV (lwg_of t_1128 rfl) (lwg_of t_1129 rfl) (lwg_of t_1130 rfl) (lwg_of t_13 rfl) (lwg_of t_1131 rfl)) rfl rfl rfl (by decide +kernel) ⟨Nat.le_of_ble_eq_true rfl, Nat.le_of_ble_eq_true rfl⟩) (hI.preV hm_211 rfl) rfl rfl hl.1 rfl (lv_room (Nat.le_of_ble_eq_true rfl)) dL_law_289 ⟨(show _ ≤ (601024 : Nat) from by omega), (show _ ≤ (7293034 : Nat) from by omega)⟩) hI (fun M_244 H_245 locs_246 hp_243 hI => ?_)
      obtain ⟨hm_247, hF_248⟩ := hp_243
      have hm_249 : M_244 0 = some (cStore ad qa qs fw) := by rw [hF_248 0 (by omega)]; exact hm_171
      have hm_250 : M_244 1 = some (cTape ad len) := by rw [hF_248 1 (by omega)]; exact hm_172
      have hm_251 : M_244 2 = some (aI G 400 (nF tb)) := by rw [hF_248 2 (by omega)]; exact hm_173
      have hm_252 : M_244 3 = some (cLaws ad ) := by rw [hF_248 3 (by omega)]; exact hm_174
      have hm_253 : M_244 4 = some (aI G 36 (nF le)) := by rw [hF_248 4 (by omega)]; exact hm_175
      have hm_254 : M_244 5 = some (aI G 36 (nF mo)) := by rw [hF_248 5 (by omega)]; exact hm_176
      have hm_255 : M_244 6 = some (aI G 36 (nF al)) := by rw [hF_248 6 (by omega)]; exact hm_177
      have hm_256 : M_244 7 = some (aZ G 6 (bF ho)) := by rw [hF_248 7 (by omega)]; exact hm_178
      have hm_257 : M_244 8 = some (cOnes ad jn) := by rw [hF_248 8 (by omega)]; exact hm_179
      have hm_258 : M_244 9 = some (aI G 40 (nF hg)) := by rw [hF_248 9 (by omega)]; exact hm_180
      have hm_259 : M_244 10 = some (aI G 40 (nF lst)) := by rw [hF_248 10 (by omega)]; exact hm_181
      have hm_260 : M_244 11 = some (aI G 40 (nF jd)) := by rw [hF_248 11 (by omega)]; exact hm_182
      have hm_261 : M_244 12 = some (cEnds ad 12 s0) := by rw [hF_248 12 (by omega)]; exact hm_183
      have hm_262 : M_244 13 = some (aI G 6 (nF r0)) := by rw [hF_248 13 (by omega)]; exact hm_184
      have hm_263 : M_244 14 = some (aI G 6 (oF th)) := by rw [hF_248 14 (by omega)]; exact hm_185
      have hm_264 : M_244 15 = some (aI G 6 (oF ol)) := by rw [hF_248 15 (by omega)]; exact hm_186
      have hm_265 : M_244 19 = some (aZ G 120 (bF mm9)) := by rw [hF_248 19 (by omega)]; exact hm_187
      have hm_266 : M_244 20 = some (aI G 120 ff) := by rw [hF_248 20 (by omega)]; exact hm_188
      have hm_267 : M_244 21 = some (aI G 120 lq) := by rw [hF_248 21 (by omega)]; exact hm_189
      have hm_268 : M_244 22 = some (cReader ad ra rb rt rv) := by rw [hF_248 22 (by omega)]; exact hm_190
      have hm_269 : M_244 23 = some (cMatcher ad qm pz) := by rw [hF_248 23 (by omega)]; exact hm_191
      have hm_270 : M_244 24 = some (aJ G 2160 sx) := by rw [hF_248 24 (by omega)]; exact hm_192
      have hm_271 : M_244 25 = some (aI G 6 (nF ft)) := by rw [hF_248 25 (by omega)]; exact hm_193
      have hm_272 : M_244 26 = some (aJ G 240 rx) := by rw [hF_248 26 (by omega)]; exact hm_194
      have hm_273 : M_244 27 = some (aJ G 3 dm) := by rw [hF_248 27 (by omega)]; exact hm_195
      have hm_274 : M_244 28 = some (aI G 3 rc) := by rw [hF_248 28 (by omega)]; exact hm_196
      have hm_275 : M_244 qa = some (cQuestion ad qa ao vr) := by rw [hF_248 qa (by omega)]; exact hm_197
      have hm_276 : M_244 (qa + 1) = some (aI G 6 (nF kn)) := by rw [hF_248 (qa + 1) (by omega)]; exact hm_198
      have hm_277 : M_244 (qa + 2) = some (aZ G 6 (bF nq)) := by rw [hF_248 (qa + 2) (by omega)]; exact hm_199
      have hm_278 : M_244 (qa + 3) = some (aI G 6 (nF pn)) := by rw [hF_248 (qa + 3) (by omega)]; exact hm_200
      have hm_279 : M_244 (qa + 4) = some (aI G 6 (nF av)) := by rw [hF_248 (qa + 4) (by omega)]; exact hm_201
      have hm_280 : M_244 (qa + 5) = some (aI G 24 (nF ro)) := by rw [hF_248 (qa + 5) (by omega)]; exact hm_202
      have hm_281 : M_244 (qa + 6) = some (aI G 24 (nF te)) := by rw [hF_248 (qa + 6) (by omega)]; exact hm_203
      have hm_282 : M_244 qs = some (cQuestion ad qs sq su) := by rw [hF_248 qs (by omega)]; exact hm_204
      have hm_283 : M_244 (qs + 1) = some (aI G 6 (nF kb)) := by rw [hF_248 (qs + 1) (by omega)]; exact hm_205
      have hm_284 : M_244 (qs + 2) = some (aZ G 6 (bF nb)) := by rw [hF_248 (qs + 2) (by omega)]; exact hm_206
      have hm_285 : M_244 (qs + 3) = some (aI G 6 (nF pb)) := by rw [hF_248 (qs + 3) (by omega)]; exact hm_207
      have hm_286 : M_244 (qs + 4) = some (aI G 6 (nF ab)) := by rw [hF_248 (qs + 4) (by omega)]; exact hm_208
      have hm_287 : M_244 (qs + 5) = some (aI G 24 (nF rbb)) := by rw [hF_248 (qs + 5) (by omega)]; exact hm_209
      have hm_288 : M_244 (qs + 6) = some (aI G 24 (nF tbb)) := by rw [hF_248 (qs + 6) (by omega)]; exact hm_210
      have hm_289 : M_244 61 = some (aI G 36 (nF le)) := by rw [hF_248 61 (by omega)]; exact hm_212
      have hm_290 : M_244 62 = some (aI G 36 (nF mo)) := by rw [hF_248 62 (by omega)]; exact hm_213
      have hm_291 : M_244 63 = some (aI G 36 (nF al)) := by rw [hF_248 63 (by omega)]; exact hm_214
      have hm_292 : M_244 64 = some (aZ G 6 (bF ho)) := by rw [hF_248 64 (by omega)]; exact hm_215
      have hm_293 : M_244 65 = some (aI G 120 (nF mk)) := by rw [hF_248 65 (by omega)]; exact hm_216
      have hm_294 : M_244 66 = some (aI G 120 mf) := by rw [hF_248 66 (by omega)]; exact hm_217
      have hm_295 : M_244 67 = some (aI G 120 mu) := by rw [hF_248 67 (by omega)]; exact hm_218
      have hm_296 : M_244 68 = some (aI G 121 (nF mz)) := by rw [hF_248 68 (by omega)]; exact hm_219
      have hm_297 : M_244 69 = some (aI G 726 (nF rr)) := by rw [hF_248 69 (by omega)]; exact hm_220
      have hm_298 : M_244 70 = some (aI G 726 (nF ee)) := by rw [hF_248 70 (by omega)]; exact hm_221
      have hm_299 : M_244 71 = some (aI G 40 (nF lst)) := by rw [hF_248 71 (by omega)]; exact hm_222
      have hm_300 : M_244 72 = some (aI G 40 (nF oa)) := by rw [hF_248 72 (by omega)]; exact hm_223
      have hm_301 : M_244 73 = some (aI G 40 (nF ob)) := by rw [hF_248 73 (by omega)]; exact hm_224
      have hm_302 : M_244 74 = some (aI G 120 s74) := by rw [hF_248 74 (by omega)]; exact hm_225
      have hm_303 : M_244 75 = some (aI G 12 ak) := by rw [hF_248 75 (by omega)]; exact hm_226
      have hm_304 : M_244 76 = some (aZ G 12 (bF nm)) := by rw [hF_248 76 (by omega)]; exact hm_227
      have hm_305 : M_244 77 = some (aI G 12 (nF ap)) := by rw [hF_248 77 (by omega)]; exact hm_228
      have hm_306 : M_244 78 = some (aI G 48 pr) := by rw [hF_248 78 (by omega)]; exact hm_229
      have hm_307 : M_244 79 = some (aI G 48 pf) := by rw [hF_248 79 (by omega)]; exact hm_230
      have hm_308 : M_244 80 = some (aB G 400 tf) := by rw [hF_248 80 (by omega)]; exact hm_231
      have hm_309 : M_244 81 = some (aI G 5 fv) := by rw [hF_248 81 (by omega)]; exact hm_232
      have hm_310 : M_244 82 = some (aZ G 384000 (bF tr)) := by rw [hF_248 82 (by omega)]; exact hm_233
      have hm_311 : M_244 83 = some (aI G 3 (oF gv)) := by rw [hF_248 83 (by omega)]; exact hm_234
      have hm_312 : M_244 84 = some (aI G 3 fo) := by rw [hF_248 84 (by omega)]; exact hm_235
      have hm_313 : M_244 85 = some (aZ G 40 (bF re)) := by rw [hF_248 85 (by omega)]; exact hm_236
      have hm_314 : M_244 86 = some (aZ G 120 (bF us)) := by rw [hF_248 86 (by omega)]; exact hm_237
      have hm_315 : M_244 87 = some (aZ G 120 (bF nx)) := by rw [hF_248 87 (by omega)]; exact hm_238
      have hm_316 : M_244 99 = some (aJ G 1 of) := by rw [hF_248 99 (by omega)]; exact hm_239
      have hm_317 : M_244 16 = some (cLines ad ) := by rw [hF_248 16 (by omega)]; exact hm_240
      have hL_318 : LSm G ad M_244 n kd fm to sz rl en := hL_241.keep (fun j hj => hF_248 j (by omega))
      have hF_319 : ∀ j : Nat, j ≠ 60 → M_244 j = M j := fun j q0 => (hF_248 j q0).trans (hF_170 j )
      refine lv_aload_n hx hb dL_law_292 rfl (lv_at hl 3 rfl) ?_
      refine k_Ri (va_runV (As := []) (rest := []) ⟨hx, hb, hml, hown, hts⟩ (c_X10_thrown l G z ad M_244 (th := 1) (ln := n) (on := jn) (ao := ao) (vr := vr) (sn := sn) (tp := len) (pt := pt) (zs := zs) (bg := bg) (fa := fw) hm_247) (cwV 0 hts (gV (lwg_of t_997 rfl) (lwg_of t_998 rfl) (lwg_of t_999 rfl) (lwg_of t_13 rfl) (lwg_of t_1000 rfl)) rfl rfl rfl (by decide +kernel) ⟨Nat.le_of_ble_eq_true rfl, Nat.le_of_ble_eq_true rfl⟩) (hI.preV hm_247 rfl) rfl rfl hl.1 rfl (lv_room (Nat.le_of_ble_eq_true rfl)) dL_law_293 ⟨(show _ ≤ (601024 : Nat) from by omega), (show _ ≤ (7293034 : Nat) from by omega)⟩) (fun _ h => h) (fun r_320 hp_321 => ?_)
      rw [hp_321]
      refine lv_iload hx hb dL_law_296 (lv_at hl 0 rfl) ?_
      refine lv_icmp_eq (tgt := 303) hx hb dL_law_298 (by decide) (fun c_322 => ?_) (fun c_322 => ?_)
      · -- 298: nI 1 eq
        refine lv_goto (tgt := 1333) hx hb dL_law_303 (by decide) ?_
        refine W.widen (k := cz + 10) (n := sy + 300) (by omega) (by omega) ?_
        exact kk ad M_244 H_245 locs_246 ls n kd fm to sz rl en qa qs fw len tb le mo al ho jn hg lst jd s0 r0 th ol e0 mm9 ff lq ra rb rt rv qm pz sx ft rx dm rc ao vr kn nq pn av ro te sq su kb nb pb ab rbb tbb 1 sn pt zs bg mk mf mu mz rr ee oa ob s74 ak nm ap pr pf tf fv tr gv fo re us nx of hL_318 w1 w2 w3 w4 w5 w6 w7 w8 w9 w10 w11 w12 w13 w14 w15 w16 w17 w18 w19 w20 w21 w22 w23 w24 w25 w26 w27 w28 w29 (fun h9 => by rw [hF_319 17 (by omega), hF_319 18 (by omega)]; exact w30 h9) (by rw [hF_319 29 (by omega)]; exact w31) (fun j9 h9 => by rw [hF_319 j9 (by omega)]; exact w32 j9 h9) hm_249 hm_250 hm_251 hm_252 hm_253 hm_254 hm_255 hm_256 hm_257 hm_258 hm_259 hm_260 hm_261 hm_262 hm_263 hm_264 hm_265 hm_266 hm_267 hm_268 hm_269 hm_270 hm_271 hm_272 hm_273 hm_274 hm_275 hm_276 hm_277 hm_278 hm_279 hm_280 hm_281 hm_282 hm_283 hm_284 hm_285 hm_286 hm_287 hm_288 hm_247 hm_289 hm_290 hm_291 hm_292 hm_293 hm_294 hm_295 hm_296 hm_297 hm_298 hm_299 hm_300 hm_301 hm_302 hm_303 hm_304 hm_305 hm_306 hm_307 hm_308 hm_309 hm_310 hm_311 hm_312 hm_313 hm_314 hm_315 hm_316 hI (lv_sub hl [1, 2, 3, 4, 5] rfl)
      · -- 298: nI 1 ne
        exact absurd (by decide) c_322
    · skip
      refine lv_aload_n hx hb dL_law_235 rfl (lv_at hl 0 rfl) ?_
      obtain ⟨t2, ht2, et2⟩ := hc_163
      rcases (rng3 (xs (i + 3)) (xs (i + 4)) : (xs (i + 3) < 0 ∨ xs (i + 4) < xs (i + 3) ∨ nI 6 < xs (i + 4)) ∨ (∃ a b : Nat, (a ≤ b ∧ b ≤ 6) ∧ xs (i + 3) = nI a ∧ xs (i + 4) = nI b)) with hc_323 | hc_324
      · skip
        refine lv_iload hx hb dL_law_236 (lv_at hl 4 rfl) ?_
        refine lv_iconst (v := nI 1) hx hb dL_law_238 (by decide) ?_
        refine lv_iadd hx hb dL_law_239 ?_
        refine n_eq (nI_add i 1) ?_
        refine va_sld (A := fr z) hx hb hX hbl hbz hI.S (vp_in_nI (n := i + 1) (by omega) (by omega)) dL_law_240 ?_
        rw [nI_clamp (by omega)]
        refine n_eq (show _ = nI t1 from et1) ?_
        refine lv_aload_n hx hb dL_law_241 rfl (lv_at hl 0 rfl) ?_
        refine lv_iload hx hb dL_law_242 (lv_at hl 4 rfl) ?_
        refine lv_iconst (v := nI 2) hx hb dL_law_244 (by decide) ?_
        refine lv_iadd hx hb dL_law_245 ?_
        refine n_eq (nI_add i 2) ?_
        refine va_sld (A := fr z) hx hb hX hbl hbz hI.S (vp_in_nI (n := i + 2) (by omega) (by omega)) dL_law_246 ?_
        rw [nI_clamp (by omega)]
        refine n_eq (show _ = nI t2 from et2) ?_
        refine lv_aload_n hx hb dL_law_247 rfl (lv_at hl 0 rfl) ?_
        refine lv_iload hx hb dL_law_248 (lv_at hl 4 rfl) ?_
        refine lv_iconst (v := nI 3) hx hb dL_law_250 (by decide) ?_
        refine lv_iadd hx hb dL_law_251 ?_
        refine n_eq (nI_add i 3) ?_
        refine va_sld (A := fr z) hx hb hX hbl hbz hI.S (vp_in_nI (n := i + 3) (by omega) (by omega)) dL_law_252 ?_
        rw [nI_clamp (by omega)]
        refine lv_aload_n hx hb dL_law_253 rfl (lv_at hl 0 rfl) ?_
        refine lv_iload hx hb dL_law_254 (lv_at hl 4 rfl) ?_
        refine lv_iconst (v := nI 4) hx hb dL_law_256 (by decide) ?_
        refine lv_iadd hx hb dL_law_257 ?_
        refine n_eq (nI_add i 4) ?_
        refine va_sld (A := fr z) hx hb hX hbl hbz hI.S (vp_in_nI (n := i + 4) (by omega) (by omega)) dL_law_258 ?_
        rw [nI_clamp (by omega)]
        refine k_Ni (vx_runSW (As := [.ref (ad 0), .int (nI t1), .int (nI t2), .int (xs (i + 3)), .int (xs (i + 4))]) (rest := []) ⟨hx, hb, hml, hown, hts⟩ (c_L_ends_c l hst G z ad M (qa := qa) (qs := qs) (fw := fw) (kd := t1) (ro := t2) (x2 := xs (i + 3)) (x3 := xs (i + 4)) f_0 ht1 ht2 hc_323) (vx_cwSW 5 hts (gSW (lwg_of t_468 rfl) (lwg_of t_469 rfl) (lwg_of t_0 rfl) (lwg_of t_470 rfl)) rfl rfl rfl (by decide +kernel) ⟨Nat.le_of_ble_eq_true rfl, Nat.le_of_ble_eq_true rfl⟩) hI.preS rfl rfl hl.1 rfl (lv_room (Nat.le_of_ble_eq_true rfl)) dL_law_259 ⟨(show _ ≤ (601024 : Nat) from by omega), (show _ ≤ (7293034 : Nat) from by omega)⟩) hI (fun r_325 M_327 H_328 locs_329 hp_326 hI => ?_)
        obtain ⟨hr_330, hF_331⟩ := hp_326
        have hm_332 : M_327 0 = some (cStore ad qa qs fw) := by rw [hF_331 0 ]; exact f_0
        have hm_333 : M_327 1 = some (cTape ad len) := by rw [hF_331 1 ]; exact f_1
        have hm_334 : M_327 2 = some (aI G 400 (nF tb)) := by rw [hF_331 2 ]; exact f_2
        have hm_335 : M_327 3 = some (cLaws ad ) := by rw [hF_331 3 ]; exact f_3
        have hm_336 : M_327 4 = some (aI G 36 (nF le)) := by rw [hF_331 4 ]; exact f_4
        have hm_337 : M_327 5 = some (aI G 36 (nF mo)) := by rw [hF_331 5 ]; exact f_5
        have hm_338 : M_327 6 = some (aI G 36 (nF al)) := by rw [hF_331 6 ]; exact f_6
        have hm_339 : M_327 7 = some (aZ G 6 (bF ho)) := by rw [hF_331 7 ]; exact f_7
        have hm_340 : M_327 8 = some (cOnes ad jn) := by rw [hF_331 8 ]; exact f_8
        have hm_341 : M_327 9 = some (aI G 40 (nF hg)) := by rw [hF_331 9 ]; exact f_9
        have hm_342 : M_327 10 = some (aI G 40 (nF lst)) := by rw [hF_331 10 ]; exact f_10
        have hm_343 : M_327 11 = some (aI G 40 (nF jd)) := by rw [hF_331 11 ]; exact f_11
        have hm_344 : M_327 12 = some (cEnds ad 12 s0) := by rw [hF_331 12 ]; exact f_12
        have hm_345 : M_327 13 = some (aI G 6 (nF r0)) := by rw [hF_331 13 ]; exact f_13
        have hm_346 : M_327 14 = some (aI G 6 (oF th)) := by rw [hF_331 14 ]; exact f_14
        have hm_347 : M_327 15 = some (aI G 6 (oF ol)) := by rw [hF_331 15 ]; exact f_15
        have hm_348 : M_327 19 = some (aZ G 120 (bF mm9)) := by rw [hF_331 19 ]; exact f_19
        have hm_349 : M_327 20 = some (aI G 120 ff) := by rw [hF_331 20 ]; exact f_20
        have hm_350 : M_327 21 = some (aI G 120 lq) := by rw [hF_331 21 ]; exact f_21
        have hm_351 : M_327 22 = some (cReader ad ra rb rt rv) := by rw [hF_331 22 ]; exact f_22
        have hm_352 : M_327 23 = some (cMatcher ad qm pz) := by rw [hF_331 23 ]; exact f_23
        have hm_353 : M_327 24 = some (aJ G 2160 sx) := by rw [hF_331 24 ]; exact f_24
        have hm_354 : M_327 25 = some (aI G 6 (nF ft)) := by rw [hF_331 25 ]; exact f_25
        have hm_355 : M_327 26 = some (aJ G 240 rx) := by rw [hF_331 26 ]; exact f_26
        have hm_356 : M_327 27 = some (aJ G 3 dm) := by rw [hF_331 27 ]; exact f_27
        have hm_357 : M_327 28 = some (aI G 3 rc) := by rw [hF_331 28 ]; exact f_28
        have hm_358 : M_327 qa = some (cQuestion ad qa ao vr) := by rw [hF_331 qa ]; exact f_qa
        have hm_359 : M_327 (qa + 1) = some (aI G 6 (nF kn)) := by rw [hF_331 (qa + 1) ]; exact f_qa_1
        have hm_360 : M_327 (qa + 2) = some (aZ G 6 (bF nq)) := by rw [hF_331 (qa + 2) ]; exact f_qa_2
        have hm_361 : M_327 (qa + 3) = some (aI G 6 (nF pn)) := by rw [hF_331 (qa + 3) ]; exact f_qa_3
        have hm_362 : M_327 (qa + 4) = some (aI G 6 (nF av)) := by rw [hF_331 (qa + 4) ]; exact f_qa_4
        have hm_363 : M_327 (qa + 5) = some (aI G 24 (nF ro)) := by rw [hF_331 (qa + 5) ]; exact f_qa_5
        have hm_364 : M_327 (qa + 6) = some (aI G 24 (nF te)) := by rw [hF_331 (qa + 6) ]; exact f_qa_6
        have hm_365 : M_327 qs = some (cQuestion ad qs sq su) := by rw [hF_331 qs ]; exact f_qs
        have hm_366 : M_327 (qs + 1) = some (aI G 6 (nF kb)) := by rw [hF_331 (qs + 1) ]; exact f_qs_1
        have hm_367 : M_327 (qs + 2) = some (aZ G 6 (bF nb)) := by rw [hF_331 (qs + 2) ]; exact f_qs_2
        have hm_368 : M_327 (qs + 3) = some (aI G 6 (nF pb)) := by rw [hF_331 (qs + 3) ]; exact f_qs_3
        have hm_369 : M_327 (qs + 4) = some (aI G 6 (nF ab)) := by rw [hF_331 (qs + 4) ]; exact f_qs_4
        have hm_370 : M_327 (qs + 5) = some (aI G 24 (nF rbb)) := by rw [hF_331 (qs + 5) ]; exact f_qs_5
        have hm_371 : M_327 (qs + 6) = some (aI G 24 (nF tbb)) := by rw [hF_331 (qs + 6) ]; exact f_qs_6
        have hm_372 : M_327 60 = some (cModel ad tw n jn ao vr sn len pt zs bg fw) := by rw [hF_331 60 ]; exact f_60
        have hm_373 : M_327 61 = some (aI G 36 (nF le)) := by rw [hF_331 61 ]; exact f_61
        have hm_374 : M_327 62 = some (aI G 36 (nF mo)) := by rw [hF_331 62 ]; exact f_62
        have hm_375 : M_327 63 = some (aI G 36 (nF al)) := by rw [hF_331 63 ]; exact f_63
        have hm_376 : M_327 64 = some (aZ G 6 (bF ho)) := by rw [hF_331 64 ]; exact f_64
        have hm_377 : M_327 65 = some (aI G 120 (nF mk)) := by rw [hF_331 65 ]; exact f_65
        have hm_378 : M_327 66 = some (aI G 120 mf) := by rw [hF_331 66 ]; exact f_66
        have hm_379 : M_327 67 = some (aI G 120 mu) := by rw [hF_331 67 ]; exact f_67
        have hm_380 : M_327 68 = some (aI G 121 (nF mz)) := by rw [hF_331 68 ]; exact f_68
        have hm_381 : M_327 69 = some (aI G 726 (nF rr)) := by rw [hF_331 69 ]; exact f_69
        have hm_382 : M_327 70 = some (aI G 726 (nF ee)) := by rw [hF_331 70 ]; exact f_70
        have hm_383 : M_327 71 = some (aI G 40 (nF lst)) := by rw [hF_331 71 ]; exact f_71
        have hm_384 : M_327 72 = some (aI G 40 (nF oa)) := by rw [hF_331 72 ]; exact f_72
        have hm_385 : M_327 73 = some (aI G 40 (nF ob)) := by rw [hF_331 73 ]; exact f_73
        have hm_386 : M_327 74 = some (aI G 120 s74) := by rw [hF_331 74 ]; exact f_74
        have hm_387 : M_327 75 = some (aI G 12 ak) := by rw [hF_331 75 ]; exact f_75
        have hm_388 : M_327 76 = some (aZ G 12 (bF nm)) := by rw [hF_331 76 ]; exact f_76
        have hm_389 : M_327 77 = some (aI G 12 (nF ap)) := by rw [hF_331 77 ]; exact f_77
        have hm_390 : M_327 78 = some (aI G 48 pr) := by rw [hF_331 78 ]; exact f_78
        have hm_391 : M_327 79 = some (aI G 48 pf) := by rw [hF_331 79 ]; exact f_79
        have hm_392 : M_327 80 = some (aB G 400 tf) := by rw [hF_331 80 ]; exact f_80
        have hm_393 : M_327 81 = some (aI G 5 fv) := by rw [hF_331 81 ]; exact f_81
        have hm_394 : M_327 82 = some (aZ G 384000 (bF tr)) := by rw [hF_331 82 ]; exact f_82
        have hm_395 : M_327 83 = some (aI G 3 (oF gv)) := by rw [hF_331 83 ]; exact f_83
        have hm_396 : M_327 84 = some (aI G 3 fo) := by rw [hF_331 84 ]; exact f_84
        have hm_397 : M_327 85 = some (aZ G 40 (bF re)) := by rw [hF_331 85 ]; exact f_85
        have hm_398 : M_327 86 = some (aZ G 120 (bF us)) := by rw [hF_331 86 ]; exact f_86
        have hm_399 : M_327 87 = some (aZ G 120 (bF nx)) := by rw [hF_331 87 ]; exact f_87
        have hm_400 : M_327 99 = some (aJ G 1 of) := by rw [hF_331 99 ]; exact f_99
        have hm_401 : M_327 16 = some (cLines ad ) := by rw [hF_331 16 ]; exact h16
        have hL_402 : LSm G ad M_327 n kd fm to sz rl en := fL.keep (fun j hj => hF_331 j )
        rw [hr_330]
        refine lv_istore (lv' := [(5, .int (nI 2)), (0, .ref b), (1, .ref (ad 0)), (2, .ref (ad 60)), (3, .ref (ad 99)), (4, .int (nI i))]) hx hb dL_law_262 hl (by decide) rfl (fun ls hl => ?_)
        refine lv_aload_n hx hb dL_law_264 rfl (lv_at hl 3 rfl) ?_
        refine lv_aload_n hx hb dL_law_265 rfl (lv_at hl 1 rfl) ?_
        refine lv_iload hx hb dL_law_266 (lv_at hl 5 rfl) ?_
        refine lv_iconst (v := nI 1) hx hb dL_law_268 (by decide) ?_
        refine lv_iadd hx hb dL_law_269 ?_
        refine n_eq (nI_add i 1) ?_
        refine va_sld (A := fr z) hx hb hX hbl hbz hI.S (vp_in_nI (n := i + 1) (by omega) (by omega)) dL_law_270 ?_
        rw [nI_clamp (by omega)]
        refine n_eq (show _ = nI t1 from et1) ?_
        refine lv_aload_n hx hb dL_law_271 rfl (lv_at hl 1 rfl) ?_
        refine lv_iload hx hb dL_law_272 (lv_at hl 5 rfl) ?_
        refine lv_iconst (v := nI 2) hx hb dL_law_274 (by decide) ?_
        refine lv_iadd hx hb dL_law_275 ?_
        refine n_eq (nI_add i 2) ?_
        refine va_sld (A := fr z) hx hb hX hbl hbz hI.S (vp_in_nI (n := i + 2) (by omega) (by omega)) dL_law_276 ?_
        rw [nI_clamp (by omega)]
        refine n_eq (show _ = nI t2 from et2) ?_
        refine lv_aload_n hx hb dL_law_277 rfl (lv_at hl 1 rfl) ?_
        refine lv_iload hx hb dL_law_278 (lv_at hl 5 rfl) ?_
        refine lv_iconst (v := nI 3) hx hb dL_law_280 (by decide) ?_
        refine lv_iadd hx hb dL_law_281 ?_
        refine n_eq (nI_add i 3) ?_
        refine va_sld (A := fr z) hx hb hX hbl hbz hI.S (vp_in_nI (n := i + 3) (by omega) (by omega)) dL_law_282 ?_
        rw [nI_clamp (by omega)]
        refine lv_aload_n hx hb dL_law_283 rfl (lv_at hl 1 rfl) ?_
        refine lv_iload hx hb dL_law_284 (lv_at hl 5 rfl) ?_
        refine lv_iconst (v := nI 4) hx hb dL_law_286 (by decide) ?_
        refine lv_iadd hx hb dL_law_287 ?_
        refine n_eq (nI_add i 4) ?_
        refine va_sld (A := fr z) hx hb hX hbl hbz hI.S (vp_in_nI (n := i + 4) (by omega) (by omega)) dL_law_288 ?_
        rw [nI_clamp (by omega)]
        refine k_Nv (va_runV (As := [.int (nI t1), .int (nI t2), .int (xs (i + 3)), .int (xs (i + 4))]) (rest := []) ⟨hx, hb, hml, hown, hts⟩ (c_X10_ends_c l G z ad M_327 (th := tw) (ln := n) (on := jn) (ao := ao) (vr := vr) (sn := sn) (tp := len) (pt := pt) (zs := zs) (bg := bg) (fa := fw) (kd := t1) (ro := t2) (x2 := xs (i + 3)) (x3 := xs (i + 4)) hm_372 ht1 ht2 hc_323) (cwV 4 hts (gV (lwg_of t_1128 rfl) (lwg_of t_1129 rfl) (lwg_of t_1130 rfl) (lwg_of t_13 rfl) (lwg_of t_1131 rfl)) rfl rfl rfl (by decide +kernel) ⟨Nat.le_of_ble_eq_true rfl, Nat.le_of_ble_eq_true rfl⟩) (hI.preV hm_372 rfl) rfl rfl hl.1 rfl (lv_room (Nat.le_of_ble_eq_true rfl)) dL_law_289 ⟨(show _ ≤ (601024 : Nat) from by omega), (show _ ≤ (7293034 : Nat) from by omega)⟩) hI (fun M_405 H_406 locs_407 hp_404 hI => ?_)
        obtain ⟨hm_408, hF_409⟩ := hp_404
        have hm_410 : M_405 0 = some (cStore ad qa qs fw) := by rw [hF_409 0 (by omega)]; exact hm_332
        have hm_411 : M_405 1 = some (cTape ad len) := by rw [hF_409 1 (by omega)]; exact hm_333
        have hm_412 : M_405 2 = some (aI G 400 (nF tb)) := by rw [hF_409 2 (by omega)]; exact hm_334
        have hm_413 : M_405 3 = some (cLaws ad ) := by rw [hF_409 3 (by omega)]; exact hm_335
        have hm_414 : M_405 4 = some (aI G 36 (nF le)) := by rw [hF_409 4 (by omega)]; exact hm_336
        have hm_415 : M_405 5 = some (aI G 36 (nF mo)) := by rw [hF_409 5 (by omega)]; exact hm_337
        have hm_416 : M_405 6 = some (aI G 36 (nF al)) := by rw [hF_409 6 (by omega)]; exact hm_338
        have hm_417 : M_405 7 = some (aZ G 6 (bF ho)) := by rw [hF_409 7 (by omega)]; exact hm_339
        have hm_418 : M_405 8 = some (cOnes ad jn) := by rw [hF_409 8 (by omega)]; exact hm_340
        have hm_419 : M_405 9 = some (aI G 40 (nF hg)) := by rw [hF_409 9 (by omega)]; exact hm_341
        have hm_420 : M_405 10 = some (aI G 40 (nF lst)) := by rw [hF_409 10 (by omega)]; exact hm_342
        have hm_421 : M_405 11 = some (aI G 40 (nF jd)) := by rw [hF_409 11 (by omega)]; exact hm_343
        have hm_422 : M_405 12 = some (cEnds ad 12 s0) := by rw [hF_409 12 (by omega)]; exact hm_344
        have hm_423 : M_405 13 = some (aI G 6 (nF r0)) := by rw [hF_409 13 (by omega)]; exact hm_345
        have hm_424 : M_405 14 = some (aI G 6 (oF th)) := by rw [hF_409 14 (by omega)]; exact hm_346
        have hm_425 : M_405 15 = some (aI G 6 (oF ol)) := by rw [hF_409 15 (by omega)]; exact hm_347
        have hm_426 : M_405 19 = some (aZ G 120 (bF mm9)) := by rw [hF_409 19 (by omega)]; exact hm_348
        have hm_427 : M_405 20 = some (aI G 120 ff) := by rw [hF_409 20 (by omega)]; exact hm_349
        have hm_428 : M_405 21 = some (aI G 120 lq) := by rw [hF_409 21 (by omega)]; exact hm_350
        have hm_429 : M_405 22 = some (cReader ad ra rb rt rv) := by rw [hF_409 22 (by omega)]; exact hm_351
        have hm_430 : M_405 23 = some (cMatcher ad qm pz) := by rw [hF_409 23 (by omega)]; exact hm_352
        have hm_431 : M_405 24 = some (aJ G 2160 sx) := by rw [hF_409 24 (by omega)]; exact hm_353
        have hm_432 : M_405 25 = some (aI G 6 (nF ft)) := by rw [hF_409 25 (by omega)]; exact hm_354
        have hm_433 : M_405 26 = some (aJ G 240 rx) := by rw [hF_409 26 (by omega)]; exact hm_355
        have hm_434 : M_405 27 = some (aJ G 3 dm) := by rw [hF_409 27 (by omega)]; exact hm_356
        have hm_435 : M_405 28 = some (aI G 3 rc) := by rw [hF_409 28 (by omega)]; exact hm_357
        have hm_436 : M_405 qa = some (cQuestion ad qa ao vr) := by rw [hF_409 qa (by omega)]; exact hm_358
        have hm_437 : M_405 (qa + 1) = some (aI G 6 (nF kn)) := by rw [hF_409 (qa + 1) (by omega)]; exact hm_359
        have hm_438 : M_405 (qa + 2) = some (aZ G 6 (bF nq)) := by rw [hF_409 (qa + 2) (by omega)]; exact hm_360
        have hm_439 : M_405 (qa + 3) = some (aI G 6 (nF pn)) := by rw [hF_409 (qa + 3) (by omega)]; exact hm_361
        have hm_440 : M_405 (qa + 4) = some (aI G 6 (nF av)) := by rw [hF_409 (qa + 4) (by omega)]; exact hm_362
        have hm_441 : M_405 (qa + 5) = some (aI G 24 (nF ro)) := by rw [hF_409 (qa + 5) (by omega)]; exact hm_363
        have hm_442 : M_405 (qa + 6) = some (aI G 24 (nF te)) := by rw [hF_409 (qa + 6) (by omega)]; exact hm_364
        have hm_443 : M_405 qs = some (cQuestion ad qs sq su) := by rw [hF_409 qs (by omega)]; exact hm_365
        have hm_444 : M_405 (qs + 1) = some (aI G 6 (nF kb)) := by rw [hF_409 (qs + 1) (by omega)]; exact hm_366
        have hm_445 : M_405 (qs + 2) = some (aZ G 6 (bF nb)) := by rw [hF_409 (qs + 2) (by omega)]; exact hm_367
        have hm_446 : M_405 (qs + 3) = some (aI G 6 (nF pb)) := by rw [hF_409 (qs + 3) (by omega)]; exact hm_368
        have hm_447 : M_405 (qs + 4) = some (aI G 6 (nF ab)) := by rw [hF_409 (qs + 4) (by omega)]; exact hm_369
        have hm_448 : M_405 (qs + 5) = some (aI G 24 (nF rbb)) := by rw [hF_409 (qs + 5) (by omega)]; exact hm_370
        have hm_449 : M_405 (qs + 6) = some (aI G 24 (nF tbb)) := by rw [hF_409 (qs + 6) (by omega)]; exact hm_371
        have hm_450 : M_405 61 = some (aI G 36 (nF le)) := by rw [hF_409 61 (by omega)]; exact hm_373
        have hm_451 : M_405 62 = some (aI G 36 (nF mo)) := by rw [hF_409 62 (by omega)]; exact hm_374
        have hm_452 : M_405 63 = some (aI G 36 (nF al)) := by rw [hF_409 63 (by omega)]; exact hm_375
        have hm_453 : M_405 64 = some (aZ G 6 (bF ho)) := by rw [hF_409 64 (by omega)]; exact hm_376
        have hm_454 : M_405 65 = some (aI G 120 (nF mk)) := by rw [hF_409 65 (by omega)]; exact hm_377
        have hm_455 : M_405 66 = some (aI G 120 mf) := by rw [hF_409 66 (by omega)]; exact hm_378
        have hm_456 : M_405 67 = some (aI G 120 mu) := by rw [hF_409 67 (by omega)]; exact hm_379
        have hm_457 : M_405 68 = some (aI G 121 (nF mz)) := by rw [hF_409 68 (by omega)]; exact hm_380
        have hm_458 : M_405 69 = some (aI G 726 (nF rr)) := by rw [hF_409 69 (by omega)]; exact hm_381
        have hm_459 : M_405 70 = some (aI G 726 (nF ee)) := by rw [hF_409 70 (by omega)]; exact hm_382
        have hm_460 : M_405 71 = some (aI G 40 (nF lst)) := by rw [hF_409 71 (by omega)]; exact hm_383
        have hm_461 : M_405 72 = some (aI G 40 (nF oa)) := by rw [hF_409 72 (by omega)]; exact hm_384
        have hm_462 : M_405 73 = some (aI G 40 (nF ob)) := by rw [hF_409 73 (by omega)]; exact hm_385
        have hm_463 : M_405 74 = some (aI G 120 s74) := by rw [hF_409 74 (by omega)]; exact hm_386
        have hm_464 : M_405 75 = some (aI G 12 ak) := by rw [hF_409 75 (by omega)]; exact hm_387
        have hm_465 : M_405 76 = some (aZ G 12 (bF nm)) := by rw [hF_409 76 (by omega)]; exact hm_388
        have hm_466 : M_405 77 = some (aI G 12 (nF ap)) := by rw [hF_409 77 (by omega)]; exact hm_389
        have hm_467 : M_405 78 = some (aI G 48 pr) := by rw [hF_409 78 (by omega)]; exact hm_390
        have hm_468 : M_405 79 = some (aI G 48 pf) := by rw [hF_409 79 (by omega)]; exact hm_391
        have hm_469 : M_405 80 = some (aB G 400 tf) := by rw [hF_409 80 (by omega)]; exact hm_392
        have hm_470 : M_405 81 = some (aI G 5 fv) := by rw [hF_409 81 (by omega)]; exact hm_393
        have hm_471 : M_405 82 = some (aZ G 384000 (bF tr)) := by rw [hF_409 82 (by omega)]; exact hm_394
        have hm_472 : M_405 83 = some (aI G 3 (oF gv)) := by rw [hF_409 83 (by omega)]; exact hm_395
        have hm_473 : M_405 84 = some (aI G 3 fo) := by rw [hF_409 84 (by omega)]; exact hm_396
        have hm_474 : M_405 85 = some (aZ G 40 (bF re)) := by rw [hF_409 85 (by omega)]; exact hm_397
        have hm_475 : M_405 86 = some (aZ G 120 (bF us)) := by rw [hF_409 86 (by omega)]; exact hm_398
        have hm_476 : M_405 87 = some (aZ G 120 (bF nx)) := by rw [hF_409 87 (by omega)]; exact hm_399
        have hm_477 : M_405 99 = some (aJ G 1 of) := by rw [hF_409 99 (by omega)]; exact hm_400
        have hm_478 : M_405 16 = some (cLines ad ) := by rw [hF_409 16 (by omega)]; exact hm_401
        have hL_479 : LSm G ad M_405 n kd fm to sz rl en := hL_402.keep (fun j hj => hF_409 j (by omega))
        have hF_480 : ∀ j : Nat, j ≠ 60 → M_405 j = M j := fun j q0 => (hF_409 j q0).trans (hF_331 j )
        refine lv_aload_n hx hb dL_law_292 rfl (lv_at hl 3 rfl) ?_
        refine k_Ri (va_runV (As := []) (rest := []) ⟨hx, hb, hml, hown, hts⟩ (c_X10_thrown l G z ad M_405 (th := 2) (ln := n) (on := jn) (ao := ao) (vr := vr) (sn := sn) (tp := len) (pt := pt) (zs := zs) (bg := bg) (fa := fw) hm_408) (cwV 0 hts (gV (lwg_of t_997 rfl) (lwg_of t_998 rfl) (lwg_of t_999 rfl) (lwg_of t_13 rfl) (lwg_of t_1000 rfl)) rfl rfl rfl (by decide +kernel) ⟨Nat.le_of_ble_eq_true rfl, Nat.le_of_ble_eq_true rfl⟩) (hI.preV hm_408 rfl) rfl rfl hl.1 rfl (lv_room (Nat.le_of_ble_eq_true rfl)) dL_law_293 ⟨(show _ ≤ (601024 : Nat) from by omega), (show _ ≤ (7293034 : Nat) from by omega)⟩) (fun _ h => h) (fun r_481 hp_482 => ?_)
        rw [hp_482]
        refine lv_iload hx hb dL_law_296 (lv_at hl 0 rfl) ?_
        refine lv_icmp_eq (tgt := 303) hx hb dL_law_298 (by decide) (fun c_483 => ?_) (fun c_483 => ?_)
        · -- 298: nI 2 eq
          refine lv_goto (tgt := 1333) hx hb dL_law_303 (by decide) ?_
          refine W.widen (k := cz + 10) (n := sy + 300) (by omega) (by omega) ?_
          exact kk ad M_405 H_406 locs_407 ls n kd fm to sz rl en qa qs fw len tb le mo al ho jn hg lst jd s0 r0 th ol e0 mm9 ff lq ra rb rt rv qm pz sx ft rx dm rc ao vr kn nq pn av ro te sq su kb nb pb ab rbb tbb 2 sn pt zs bg mk mf mu mz rr ee oa ob s74 ak nm ap pr pf tf fv tr gv fo re us nx of hL_479 w1 w2 w3 w4 w5 w6 w7 w8 w9 w10 w11 w12 w13 w14 w15 w16 w17 w18 w19 w20 w21 w22 w23 w24 w25 w26 w27 w28 w29 (fun h9 => by rw [hF_480 17 (by omega), hF_480 18 (by omega)]; exact w30 h9) (by rw [hF_480 29 (by omega)]; exact w31) (fun j9 h9 => by rw [hF_480 j9 (by omega)]; exact w32 j9 h9) hm_410 hm_411 hm_412 hm_413 hm_414 hm_415 hm_416 hm_417 hm_418 hm_419 hm_420 hm_421 hm_422 hm_423 hm_424 hm_425 hm_426 hm_427 hm_428 hm_429 hm_430 hm_431 hm_432 hm_433 hm_434 hm_435 hm_436 hm_437 hm_438 hm_439 hm_440 hm_441 hm_442 hm_443 hm_444 hm_445 hm_446 hm_447 hm_448 hm_449 hm_408 hm_450 hm_451 hm_452 hm_453 hm_454 hm_455 hm_456 hm_457 hm_458 hm_459 hm_460 hm_461 hm_462 hm_463 hm_464 hm_465 hm_466 hm_467 hm_468 hm_469 hm_470 hm_471 hm_472 hm_473 hm_474 hm_475 hm_476 hm_477 hI (lv_sub hl [1, 2, 3, 4, 5] rfl)
        · -- 298: nI 2 ne
          exact absurd (by decide) c_483
      · skip
        refine lv_iload hx hb dL_law_236 (lv_at hl 4 rfl) ?_
        obtain ⟨a3, a4, h34, e3, e4⟩ := hc_324
        refine lv_iconst (v := nI 1) hx hb dL_law_238 (by decide) ?_
        refine lv_iadd hx hb dL_law_239 ?_
        refine n_eq (nI_add i 1) ?_
        refine va_sld (A := fr z) hx hb hX hbl hbz hI.S (vp_in_nI (n := i + 1) (by omega) (by omega)) dL_law_240 ?_
        rw [nI_clamp (by omega)]
        refine n_eq (show _ = nI t1 from et1) ?_
        refine lv_aload_n hx hb dL_law_241 rfl (lv_at hl 0 rfl) ?_
        refine lv_iload hx hb dL_law_242 (lv_at hl 4 rfl) ?_
        refine lv_iconst (v := nI 2) hx hb dL_law_244 (by decide) ?_
        refine lv_iadd hx hb dL_law_245 ?_
        refine n_eq (nI_add i 2) ?_
        refine va_sld (A := fr z) hx hb hX hbl hbz hI.S (vp_in_nI (n := i + 2) (by omega) (by omega)) dL_law_246 ?_
        rw [nI_clamp (by omega)]
        refine n_eq (show _ = nI t2 from et2) ?_
        refine lv_aload_n hx hb dL_law_247 rfl (lv_at hl 0 rfl) ?_
        refine lv_iload hx hb dL_law_248 (lv_at hl 4 rfl) ?_
        refine lv_iconst (v := nI 3) hx hb dL_law_250 (by decide) ?_
        refine lv_iadd hx hb dL_law_251 ?_
        refine n_eq (nI_add i 3) ?_
        refine va_sld (A := fr z) hx hb hX hbl hbz hI.S (vp_in_nI (n := i + 3) (by omega) (by omega)) dL_law_252 ?_
        rw [nI_clamp (by omega)]
        refine n_eq (show _ = nI a3 from e3) ?_
        refine lv_aload_n hx hb dL_law_253 rfl (lv_at hl 0 rfl) ?_
        refine lv_iload hx hb dL_law_254 (lv_at hl 4 rfl) ?_
        refine lv_iconst (v := nI 4) hx hb dL_law_256 (by decide) ?_
        refine lv_iadd hx hb dL_law_257 ?_
        refine n_eq (nI_add i 4) ?_
        refine va_sld (A := fr z) hx hb hX hbl hbz hI.S (vp_in_nI (n := i + 4) (by omega) (by omega)) dL_law_258 ?_
        rw [nI_clamp (by omega)]
        refine n_eq (show _ = nI a4 from e4) ?_
        refine k_Ni (vx_runSW (As := [.ref (ad 0), .int (nI t1), .int (nI t2), .int (nI a3), .int (nI a4)]) (rest := []) ⟨hx, hb, hml, hown, hts⟩ (c_L_ends l hst G z ad M (qa := qa) (qs := qs) (fw := fw) (le := le) (mo := mo) (kd := t1) (x := t2) (a := a3) (b := a4) f_0 f_3 f_4 f_5 ht1 ht2 h34) (vx_cwSW 5 hts (gSW (lwg_of t_468 rfl) (lwg_of t_469 rfl) (lwg_of t_0 rfl) (lwg_of t_470 rfl)) rfl rfl rfl (by decide +kernel) ⟨Nat.le_of_ble_eq_true rfl, Nat.le_of_ble_eq_true rfl⟩) hI.preS rfl rfl hl.1 rfl (lv_room (Nat.le_of_ble_eq_true rfl)) dL_law_259 ⟨(show _ ≤ (601024 : Nat) from by omega), (show _ ≤ (7293034 : Nat) from by omega)⟩) hI (fun r_484 M_486 H_487 locs_488 hp_485 hI => ?_)
        obtain ⟨hr_489, hm_490, hm_491, hF_492⟩ := hp_485
        have hm_493 : M_486 0 = some (cStore ad qa qs fw) := by rw [hF_492 0 (by omega) (by omega)]; exact f_0
        have hm_494 : M_486 1 = some (cTape ad len) := by rw [hF_492 1 (by omega) (by omega)]; exact f_1
        have hm_495 : M_486 2 = some (aI G 400 (nF tb)) := by rw [hF_492 2 (by omega) (by omega)]; exact f_2
        have hm_496 : M_486 3 = some (cLaws ad ) := by rw [hF_492 3 (by omega) (by omega)]; exact f_3
        have hm_497 : M_486 6 = some (aI G 36 (nF al)) := by rw [hF_492 6 (by omega) (by omega)]; exact f_6
        have hm_498 : M_486 7 = some (aZ G 6 (bF ho)) := by rw [hF_492 7 (by omega) (by omega)]; exact f_7
        have hm_499 : M_486 8 = some (cOnes ad jn) := by rw [hF_492 8 (by omega) (by omega)]; exact f_8
        have hm_500 : M_486 9 = some (aI G 40 (nF hg)) := by rw [hF_492 9 (by omega) (by omega)]; exact f_9
        have hm_501 : M_486 10 = some (aI G 40 (nF lst)) := by rw [hF_492 10 (by omega) (by omega)]; exact f_10
        have hm_502 : M_486 11 = some (aI G 40 (nF jd)) := by rw [hF_492 11 (by omega) (by omega)]; exact f_11
        have hm_503 : M_486 12 = some (cEnds ad 12 s0) := by rw [hF_492 12 (by omega) (by omega)]; exact f_12
        have hm_504 : M_486 13 = some (aI G 6 (nF r0)) := by rw [hF_492 13 (by omega) (by omega)]; exact f_13
        have hm_505 : M_486 14 = some (aI G 6 (oF th)) := by rw [hF_492 14 (by omega) (by omega)]; exact f_14
        have hm_506 : M_486 15 = some (aI G 6 (oF ol)) := by rw [hF_492 15 (by omega) (by omega)]; exact f_15
        have hm_507 : M_486 19 = some (aZ G 120 (bF mm9)) := by rw [hF_492 19 (by omega) (by omega)]; exact f_19
        have hm_508 : M_486 20 = some (aI G 120 ff) := by rw [hF_492 20 (by omega) (by omega)]; exact f_20
        have hm_509 : M_486 21 = some (aI G 120 lq) := by rw [hF_492 21 (by omega) (by omega)]; exact f_21
        have hm_510 : M_486 22 = some (cReader ad ra rb rt rv) := by rw [hF_492 22 (by omega) (by omega)]; exact f_22
        have hm_511 : M_486 23 = some (cMatcher ad qm pz) := by rw [hF_492 23 (by omega) (by omega)]; exact f_23
        have hm_512 : M_486 24 = some (aJ G 2160 sx) := by rw [hF_492 24 (by omega) (by omega)]; exact f_24
        have hm_513 : M_486 25 = some (aI G 6 (nF ft)) := by rw [hF_492 25 (by omega) (by omega)]; exact f_25
        have hm_514 : M_486 26 = some (aJ G 240 rx) := by rw [hF_492 26 (by omega) (by omega)]; exact f_26
        have hm_515 : M_486 27 = some (aJ G 3 dm) := by rw [hF_492 27 (by omega) (by omega)]; exact f_27
        have hm_516 : M_486 28 = some (aI G 3 rc) := by rw [hF_492 28 (by omega) (by omega)]; exact f_28
        have hm_517 : M_486 qa = some (cQuestion ad qa ao vr) := by rw [hF_492 qa (by omega) (by omega)]; exact f_qa
        have hm_518 : M_486 (qa + 1) = some (aI G 6 (nF kn)) := by rw [hF_492 (qa + 1) (by omega) (by omega)]; exact f_qa_1
        have hm_519 : M_486 (qa + 2) = some (aZ G 6 (bF nq)) := by rw [hF_492 (qa + 2) (by omega) (by omega)]; exact f_qa_2
        have hm_520 : M_486 (qa + 3) = some (aI G 6 (nF pn)) := by rw [hF_492 (qa + 3) (by omega) (by omega)]; exact f_qa_3
        have hm_521 : M_486 (qa + 4) = some (aI G 6 (nF av)) := by rw [hF_492 (qa + 4) (by omega) (by omega)]; exact f_qa_4
        have hm_522 : M_486 (qa + 5) = some (aI G 24 (nF ro)) := by rw [hF_492 (qa + 5) (by omega) (by omega)]; exact f_qa_5
        have hm_523 : M_486 (qa + 6) = some (aI G 24 (nF te)) := by rw [hF_492 (qa + 6) (by omega) (by omega)]; exact f_qa_6
        have hm_524 : M_486 qs = some (cQuestion ad qs sq su) := by rw [hF_492 qs (by omega) (by omega)]; exact f_qs
        have hm_525 : M_486 (qs + 1) = some (aI G 6 (nF kb)) := by rw [hF_492 (qs + 1) (by omega) (by omega)]; exact f_qs_1
        have hm_526 : M_486 (qs + 2) = some (aZ G 6 (bF nb)) := by rw [hF_492 (qs + 2) (by omega) (by omega)]; exact f_qs_2
        have hm_527 : M_486 (qs + 3) = some (aI G 6 (nF pb)) := by rw [hF_492 (qs + 3) (by omega) (by omega)]; exact f_qs_3
        have hm_528 : M_486 (qs + 4) = some (aI G 6 (nF ab)) := by rw [hF_492 (qs + 4) (by omega) (by omega)]; exact f_qs_4
        have hm_529 : M_486 (qs + 5) = some (aI G 24 (nF rbb)) := by rw [hF_492 (qs + 5) (by omega) (by omega)]; exact f_qs_5
        have hm_530 : M_486 (qs + 6) = some (aI G 24 (nF tbb)) := by rw [hF_492 (qs + 6) (by omega) (by omega)]; exact f_qs_6
        have hm_531 : M_486 60 = some (cModel ad tw n jn ao vr sn len pt zs bg fw) := by rw [hF_492 60 (by omega) (by omega)]; exact f_60
        have hm_532 : M_486 61 = some (aI G 36 (nF le)) := by rw [hF_492 61 (by omega) (by omega)]; exact f_61
        have hm_533 : M_486 62 = some (aI G 36 (nF mo)) := by rw [hF_492 62 (by omega) (by omega)]; exact f_62
        have hm_534 : M_486 63 = some (aI G 36 (nF al)) := by rw [hF_492 63 (by omega) (by omega)]; exact f_63
        have hm_535 : M_486 64 = some (aZ G 6 (bF ho)) := by rw [hF_492 64 (by omega) (by omega)]; exact f_64
        have hm_536 : M_486 65 = some (aI G 120 (nF mk)) := by rw [hF_492 65 (by omega) (by omega)]; exact f_65
        have hm_537 : M_486 66 = some (aI G 120 mf) := by rw [hF_492 66 (by omega) (by omega)]; exact f_66
        have hm_538 : M_486 67 = some (aI G 120 mu) := by rw [hF_492 67 (by omega) (by omega)]; exact f_67
        have hm_539 : M_486 68 = some (aI G 121 (nF mz)) := by rw [hF_492 68 (by omega) (by omega)]; exact f_68
        have hm_540 : M_486 69 = some (aI G 726 (nF rr)) := by rw [hF_492 69 (by omega) (by omega)]; exact f_69
        have hm_541 : M_486 70 = some (aI G 726 (nF ee)) := by rw [hF_492 70 (by omega) (by omega)]; exact f_70
        have hm_542 : M_486 71 = some (aI G 40 (nF lst)) := by rw [hF_492 71 (by omega) (by omega)]; exact f_71
        have hm_543 : M_486 72 = some (aI G 40 (nF oa)) := by rw [hF_492 72 (by omega) (by omega)]; exact f_72
        have hm_544 : M_486 73 = some (aI G 40 (nF ob)) := by rw [hF_492 73 (by omega) (by omega)]; exact f_73
        have hm_545 : M_486 74 = some (aI G 120 s74) := by rw [hF_492 74 (by omega) (by omega)]; exact f_74
        have hm_546 : M_486 75 = some (aI G 12 ak) := by rw [hF_492 75 (by omega) (by omega)]; exact f_75
        have hm_547 : M_486 76 = some (aZ G 12 (bF nm)) := by rw [hF_492 76 (by omega) (by omega)]; exact f_76
        have hm_548 : M_486 77 = some (aI G 12 (nF ap)) := by rw [hF_492 77 (by omega) (by omega)]; exact f_77
        have hm_549 : M_486 78 = some (aI G 48 pr) := by rw [hF_492 78 (by omega) (by omega)]; exact f_78
        have hm_550 : M_486 79 = some (aI G 48 pf) := by rw [hF_492 79 (by omega) (by omega)]; exact f_79
        have hm_551 : M_486 80 = some (aB G 400 tf) := by rw [hF_492 80 (by omega) (by omega)]; exact f_80
        have hm_552 : M_486 81 = some (aI G 5 fv) := by rw [hF_492 81 (by omega) (by omega)]; exact f_81
        have hm_553 : M_486 82 = some (aZ G 384000 (bF tr)) := by rw [hF_492 82 (by omega) (by omega)]; exact f_82
        have hm_554 : M_486 83 = some (aI G 3 (oF gv)) := by rw [hF_492 83 (by omega) (by omega)]; exact f_83
        have hm_555 : M_486 84 = some (aI G 3 fo) := by rw [hF_492 84 (by omega) (by omega)]; exact f_84
        have hm_556 : M_486 85 = some (aZ G 40 (bF re)) := by rw [hF_492 85 (by omega) (by omega)]; exact f_85
        have hm_557 : M_486 86 = some (aZ G 120 (bF us)) := by rw [hF_492 86 (by omega) (by omega)]; exact f_86
        have hm_558 : M_486 87 = some (aZ G 120 (bF nx)) := by rw [hF_492 87 (by omega) (by omega)]; exact f_87
        have hm_559 : M_486 99 = some (aJ G 1 of) := by rw [hF_492 99 (by omega) (by omega)]; exact f_99
        have hm_560 : M_486 16 = some (cLines ad ) := by rw [hF_492 16 (by omega) (by omega)]; exact h16
        have hL_561 : LSm G ad M_486 n kd fm to sz rl en := fL.keep (fun j hj => hF_492 j (by omega) (by omega))
        have hF_562 : ∀ j : Nat, j ≠ 4 → j ≠ 5 → M_486 j = M j := fun j q0 q1 => (hF_492 j q0 q1)
        rw [hr_489]
        refine lv_istore (lv' := [(5, .int (nI 0)), (0, .ref b), (1, .ref (ad 0)), (2, .ref (ad 60)), (3, .ref (ad 99)), (4, .int (nI i))]) hx hb dL_law_262 hl (by decide) rfl (fun ls hl => ?_)
        refine lv_aload_n hx hb dL_law_264 rfl (lv_at hl 3 rfl) ?_
        refine lv_aload_n hx hb dL_law_265 rfl (lv_at hl 1 rfl) ?_
        refine lv_iload hx hb dL_law_266 (lv_at hl 5 rfl) ?_
        refine lv_iconst (v := nI 1) hx hb dL_law_268 (by decide) ?_
        refine lv_iadd hx hb dL_law_269 ?_
        refine n_eq (nI_add i 1) ?_
        refine va_sld (A := fr z) hx hb hX hbl hbz hI.S (vp_in_nI (n := i + 1) (by omega) (by omega)) dL_law_270 ?_
        rw [nI_clamp (by omega)]
        refine n_eq (show _ = nI t1 from et1) ?_
        refine lv_aload_n hx hb dL_law_271 rfl (lv_at hl 1 rfl) ?_
        refine lv_iload hx hb dL_law_272 (lv_at hl 5 rfl) ?_
        refine lv_iconst (v := nI 2) hx hb dL_law_274 (by decide) ?_
        refine lv_iadd hx hb dL_law_275 ?_
        refine n_eq (nI_add i 2) ?_
        refine va_sld (A := fr z) hx hb hX hbl hbz hI.S (vp_in_nI (n := i + 2) (by omega) (by omega)) dL_law_276 ?_
        rw [nI_clamp (by omega)]
        refine n_eq (show _ = nI t2 from et2) ?_
        refine lv_aload_n hx hb dL_law_277 rfl (lv_at hl 1 rfl) ?_
        refine lv_iload hx hb dL_law_278 (lv_at hl 5 rfl) ?_
        refine lv_iconst (v := nI 3) hx hb dL_law_280 (by decide) ?_
        refine lv_iadd hx hb dL_law_281 ?_
        refine n_eq (nI_add i 3) ?_
        refine va_sld (A := fr z) hx hb hX hbl hbz hI.S (vp_in_nI (n := i + 3) (by omega) (by omega)) dL_law_282 ?_
        rw [nI_clamp (by omega)]
        refine n_eq (show _ = nI a3 from e3) ?_
        refine lv_aload_n hx hb dL_law_283 rfl (lv_at hl 1 rfl) ?_
        refine lv_iload hx hb dL_law_284 (lv_at hl 5 rfl) ?_
        refine lv_iconst (v := nI 4) hx hb dL_law_286 (by decide) ?_
        refine lv_iadd hx hb dL_law_287 ?_
        refine n_eq (nI_add i 4) ?_
        refine va_sld (A := fr z) hx hb hX hbl hbz hI.S (vp_in_nI (n := i + 4) (by omega) (by omega)) dL_law_288 ?_
        rw [nI_clamp (by omega)]
        refine n_eq (show _ = nI a4 from e4) ?_
        refine k_Nv (va_runV (As := [.int (nI t1), .int (nI t2), .int (nI a3), .int (nI a4)]) (rest := []) ⟨hx, hb, hml, hown, hts⟩ (c_X10_ends l G z ad M_486 (th := tw) (ln := n) (on := jn) (ao := ao) (vr := vr) (sn := sn) (tp := len) (pt := pt) (zs := zs) (bg := bg) (fa := fw) (le := le) (mo := mo) (kd := t1) (x := t2) (a := a3) (b := a4) hm_531 hm_532 hm_533 ht1 ht2 h34) (cwV 4 hts (gV (lwg_of t_1128 rfl) (lwg_of t_1129 rfl) (lwg_of t_1130 rfl) (lwg_of t_13 rfl) (lwg_of t_1131 rfl)) rfl rfl rfl (by decide +kernel) ⟨Nat.le_of_ble_eq_true rfl, Nat.le_of_ble_eq_true rfl⟩) (hI.preV hm_531 rfl) rfl rfl hl.1 rfl (lv_room (Nat.le_of_ble_eq_true rfl)) dL_law_289 ⟨(show _ ≤ (601024 : Nat) from by omega), (show _ ≤ (7293034 : Nat) from by omega)⟩) hI (fun M_565 H_566 locs_567 hp_564 hI => ?_)
        obtain ⟨hm_568, hm_569, hm_570, hF_571⟩ := hp_564
        have hm_572 : M_565 0 = some (cStore ad qa qs fw) := by rw [hF_571 0 (by omega) (by omega) (by omega)]; exact hm_493
        have hm_573 : M_565 1 = some (cTape ad len) := by rw [hF_571 1 (by omega) (by omega) (by omega)]; exact hm_494
        have hm_574 : M_565 2 = some (aI G 400 (nF tb)) := by rw [hF_571 2 (by omega) (by omega) (by omega)]; exact hm_495
        have hm_575 : M_565 3 = some (cLaws ad ) := by rw [hF_571 3 (by omega) (by omega) (by omega)]; exact hm_496
        have hm_576 : M_565 4 = some (aI G 36 (nF (va_up le (t1 * 6 + t2) a3))) := by rw [hF_571 4 (by omega) (by omega) (by omega)]; exact hm_490
        have hm_577 : M_565 5 = some (aI G 36 (nF (va_up mo (t1 * 6 + t2) a4))) := by rw [hF_571 5 (by omega) (by omega) (by omega)]; exact hm_491
        have hm_578 : M_565 6 = some (aI G 36 (nF al)) := by rw [hF_571 6 (by omega) (by omega) (by omega)]; exact hm_497
        have hm_579 : M_565 7 = some (aZ G 6 (bF ho)) := by rw [hF_571 7 (by omega) (by omega) (by omega)]; exact hm_498
        have hm_580 : M_565 8 = some (cOnes ad jn) := by rw [hF_571 8 (by omega) (by omega) (by omega)]; exact hm_499
        have hm_581 : M_565 9 = some (aI G 40 (nF hg)) := by rw [hF_571 9 (by omega) (by omega) (by omega)]; exact hm_500
        have hm_582 : M_565 10 = some (aI G 40 (nF lst)) := by rw [hF_571 10 (by omega) (by omega) (by omega)]; exact hm_501
        have hm_583 : M_565 11 = some (aI G 40 (nF jd)) := by rw [hF_571 11 (by omega) (by omega) (by omega)]; exact hm_502
        have hm_584 : M_565 12 = some (cEnds ad 12 s0) := by rw [hF_571 12 (by omega) (by omega) (by omega)]; exact hm_503
        have hm_585 : M_565 13 = some (aI G 6 (nF r0)) := by rw [hF_571 13 (by omega) (by omega) (by omega)]; exact hm_504
        have hm_586 : M_565 14 = some (aI G 6 (oF th)) := by rw [hF_571 14 (by omega) (by omega) (by omega)]; exact hm_505
        have hm_587 : M_565 15 = some (aI G 6 (oF ol)) := by rw [hF_571 15 (by omega) (by omega) (by omega)]; exact hm_506
        have hm_588 : M_565 19 = some (aZ G 120 (bF mm9)) := by rw [hF_571 19 (by omega) (by omega) (by omega)]; exact hm_507
        have hm_589 : M_565 20 = some (aI G 120 ff) := by rw [hF_571 20 (by omega) (by omega) (by omega)]; exact hm_508
        have hm_590 : M_565 21 = some (aI G 120 lq) := by rw [hF_571 21 (by omega) (by omega) (by omega)]; exact hm_509
        have hm_591 : M_565 22 = some (cReader ad ra rb rt rv) := by rw [hF_571 22 (by omega) (by omega) (by omega)]; exact hm_510
        have hm_592 : M_565 23 = some (cMatcher ad qm pz) := by rw [hF_571 23 (by omega) (by omega) (by omega)]; exact hm_511
        have hm_593 : M_565 24 = some (aJ G 2160 sx) := by rw [hF_571 24 (by omega) (by omega) (by omega)]; exact hm_512
        have hm_594 : M_565 25 = some (aI G 6 (nF ft)) := by rw [hF_571 25 (by omega) (by omega) (by omega)]; exact hm_513
        have hm_595 : M_565 26 = some (aJ G 240 rx) := by rw [hF_571 26 (by omega) (by omega) (by omega)]; exact hm_514
        have hm_596 : M_565 27 = some (aJ G 3 dm) := by rw [hF_571 27 (by omega) (by omega) (by omega)]; exact hm_515
        have hm_597 : M_565 28 = some (aI G 3 rc) := by rw [hF_571 28 (by omega) (by omega) (by omega)]; exact hm_516
        have hm_598 : M_565 qa = some (cQuestion ad qa ao vr) := by rw [hF_571 qa (by omega) (by omega) (by omega)]; exact hm_517
        have hm_599 : M_565 (qa + 1) = some (aI G 6 (nF kn)) := by rw [hF_571 (qa + 1) (by omega) (by omega) (by omega)]; exact hm_518
        have hm_600 : M_565 (qa + 2) = some (aZ G 6 (bF nq)) := by rw [hF_571 (qa + 2) (by omega) (by omega) (by omega)]; exact hm_519
        have hm_601 : M_565 (qa + 3) = some (aI G 6 (nF pn)) := by rw [hF_571 (qa + 3) (by omega) (by omega) (by omega)]; exact hm_520
        have hm_602 : M_565 (qa + 4) = some (aI G 6 (nF av)) := by rw [hF_571 (qa + 4) (by omega) (by omega) (by omega)]; exact hm_521
        have hm_603 : M_565 (qa + 5) = some (aI G 24 (nF ro)) := by rw [hF_571 (qa + 5) (by omega) (by omega) (by omega)]; exact hm_522
        have hm_604 : M_565 (qa + 6) = some (aI G 24 (nF te)) := by rw [hF_571 (qa + 6) (by omega) (by omega) (by omega)]; exact hm_523
        have hm_605 : M_565 qs = some (cQuestion ad qs sq su) := by rw [hF_571 qs (by omega) (by omega) (by omega)]; exact hm_524
        have hm_606 : M_565 (qs + 1) = some (aI G 6 (nF kb)) := by rw [hF_571 (qs + 1) (by omega) (by omega) (by omega)]; exact hm_525
        have hm_607 : M_565 (qs + 2) = some (aZ G 6 (bF nb)) := by rw [hF_571 (qs + 2) (by omega) (by omega) (by omega)]; exact hm_526
        have hm_608 : M_565 (qs + 3) = some (aI G 6 (nF pb)) := by rw [hF_571 (qs + 3) (by omega) (by omega) (by omega)]; exact hm_527
        have hm_609 : M_565 (qs + 4) = some (aI G 6 (nF ab)) := by rw [hF_571 (qs + 4) (by omega) (by omega) (by omega)]; exact hm_528
        have hm_610 : M_565 (qs + 5) = some (aI G 24 (nF rbb)) := by rw [hF_571 (qs + 5) (by omega) (by omega) (by omega)]; exact hm_529
        have hm_611 : M_565 (qs + 6) = some (aI G 24 (nF tbb)) := by rw [hF_571 (qs + 6) (by omega) (by omega) (by omega)]; exact hm_530
        have hm_612 : M_565 63 = some (aI G 36 (nF al)) := by rw [hF_571 63 (by omega) (by omega) (by omega)]; exact hm_534
        have hm_613 : M_565 64 = some (aZ G 6 (bF ho)) := by rw [hF_571 64 (by omega) (by omega) (by omega)]; exact hm_535
        have hm_614 : M_565 65 = some (aI G 120 (nF mk)) := by rw [hF_571 65 (by omega) (by omega) (by omega)]; exact hm_536
        have hm_615 : M_565 66 = some (aI G 120 mf) := by rw [hF_571 66 (by omega) (by omega) (by omega)]; exact hm_537
        have hm_616 : M_565 67 = some (aI G 120 mu) := by rw [hF_571 67 (by omega) (by omega) (by omega)]; exact hm_538
        have hm_617 : M_565 68 = some (aI G 121 (nF mz)) := by rw [hF_571 68 (by omega) (by omega) (by omega)]; exact hm_539
        have hm_618 : M_565 69 = some (aI G 726 (nF rr)) := by rw [hF_571 69 (by omega) (by omega) (by omega)]; exact hm_540
        have hm_619 : M_565 70 = some (aI G 726 (nF ee)) := by rw [hF_571 70 (by omega) (by omega) (by omega)]; exact hm_541
        have hm_620 : M_565 71 = some (aI G 40 (nF lst)) := by rw [hF_571 71 (by omega) (by omega) (by omega)]; exact hm_542
        have hm_621 : M_565 72 = some (aI G 40 (nF oa)) := by rw [hF_571 72 (by omega) (by omega) (by omega)]; exact hm_543
        have hm_622 : M_565 73 = some (aI G 40 (nF ob)) := by rw [hF_571 73 (by omega) (by omega) (by omega)]; exact hm_544
        have hm_623 : M_565 74 = some (aI G 120 s74) := by rw [hF_571 74 (by omega) (by omega) (by omega)]; exact hm_545
        have hm_624 : M_565 75 = some (aI G 12 ak) := by rw [hF_571 75 (by omega) (by omega) (by omega)]; exact hm_546
        have hm_625 : M_565 76 = some (aZ G 12 (bF nm)) := by rw [hF_571 76 (by omega) (by omega) (by omega)]; exact hm_547
        have hm_626 : M_565 77 = some (aI G 12 (nF ap)) := by rw [hF_571 77 (by omega) (by omega) (by omega)]; exact hm_548
        have hm_627 : M_565 78 = some (aI G 48 pr) := by rw [hF_571 78 (by omega) (by omega) (by omega)]; exact hm_549
        have hm_628 : M_565 79 = some (aI G 48 pf) := by rw [hF_571 79 (by omega) (by omega) (by omega)]; exact hm_550
        have hm_629 : M_565 80 = some (aB G 400 tf) := by rw [hF_571 80 (by omega) (by omega) (by omega)]; exact hm_551
        have hm_630 : M_565 81 = some (aI G 5 fv) := by rw [hF_571 81 (by omega) (by omega) (by omega)]; exact hm_552
        have hm_631 : M_565 82 = some (aZ G 384000 (bF tr)) := by rw [hF_571 82 (by omega) (by omega) (by omega)]; exact hm_553
        have hm_632 : M_565 83 = some (aI G 3 (oF gv)) := by rw [hF_571 83 (by omega) (by omega) (by omega)]; exact hm_554
        have hm_633 : M_565 84 = some (aI G 3 fo) := by rw [hF_571 84 (by omega) (by omega) (by omega)]; exact hm_555
        have hm_634 : M_565 85 = some (aZ G 40 (bF re)) := by rw [hF_571 85 (by omega) (by omega) (by omega)]; exact hm_556
        have hm_635 : M_565 86 = some (aZ G 120 (bF us)) := by rw [hF_571 86 (by omega) (by omega) (by omega)]; exact hm_557
        have hm_636 : M_565 87 = some (aZ G 120 (bF nx)) := by rw [hF_571 87 (by omega) (by omega) (by omega)]; exact hm_558
        have hm_637 : M_565 99 = some (aJ G 1 of) := by rw [hF_571 99 (by omega) (by omega) (by omega)]; exact hm_559
        have hm_638 : M_565 16 = some (cLines ad ) := by rw [hF_571 16 (by omega) (by omega) (by omega)]; exact hm_560
        have hL_639 : LSm G ad M_565 n kd fm to sz rl en := hL_561.keep (fun j hj => hF_571 j (by omega) (by omega) (by omega))
        have hF_640 : ∀ j : Nat, j ≠ 4 → j ≠ 5 → j ≠ 60 → j ≠ 61 → j ≠ 62 → M_565 j = M j := fun j q0 q1 q2 q3 q4 => (hF_571 j q2 q3 q4).trans (hF_562 j q0 q1)
        refine lv_aload_n hx hb dL_law_292 rfl (lv_at hl 3 rfl) ?_
        refine k_Ri (va_runV (As := []) (rest := []) ⟨hx, hb, hml, hown, hts⟩ (c_X10_thrown l G z ad M_565 (th := 0) (ln := n) (on := jn) (ao := ao) (vr := vr) (sn := sn) (tp := len) (pt := pt) (zs := zs) (bg := bg) (fa := fw) hm_568) (cwV 0 hts (gV (lwg_of t_997 rfl) (lwg_of t_998 rfl) (lwg_of t_999 rfl) (lwg_of t_13 rfl) (lwg_of t_1000 rfl)) rfl rfl rfl (by decide +kernel) ⟨Nat.le_of_ble_eq_true rfl, Nat.le_of_ble_eq_true rfl⟩) (hI.preV hm_568 rfl) rfl rfl hl.1 rfl (lv_room (Nat.le_of_ble_eq_true rfl)) dL_law_293 ⟨(show _ ≤ (601024 : Nat) from by omega), (show _ ≤ (7293034 : Nat) from by omega)⟩) (fun _ h => h) (fun r_641 hp_642 => ?_)
        rw [hp_642]
        refine lv_iload hx hb dL_law_296 (lv_at hl 0 rfl) ?_
        refine lv_icmp_eq (tgt := 303) hx hb dL_law_298 (by decide) (fun c_643 => ?_) (fun c_643 => ?_)
        · -- 298: nI 0 eq
          refine lv_goto (tgt := 1333) hx hb dL_law_303 (by decide) ?_
          refine W.widen (k := cz + 10) (n := sy + 300) (by omega) (by omega) ?_
          exact kk ad M_565 H_566 locs_567 ls n kd fm to sz rl en qa qs fw len tb (va_up le (t1 * 6 + t2) a3) (va_up mo (t1 * 6 + t2) a4) al ho jn hg lst jd s0 r0 th ol e0 mm9 ff lq ra rb rt rv qm pz sx ft rx dm rc ao vr kn nq pn av ro te sq su kb nb pb ab rbb tbb 0 sn pt zs bg mk mf mu mz rr ee oa ob s74 ak nm ap pr pf tf fv tr gv fo re us nx of hL_639 w1 w2 w3 w4 w5 w6 w7 w8 w9 w10 w11 w12 w13 (up_lt9 w14 (by omega)) (up_lt9 w15 (by omega)) w16 w17 w18 w19 w20 w21 w22 w23 w24 w25 w26 w27 w28 w29 (fun h9 => by rw [hF_640 17 (by omega) (by omega) (by omega) (by omega) (by omega), hF_640 18 (by omega) (by omega) (by omega) (by omega) (by omega)]; exact w30 h9) (by rw [hF_640 29 (by omega) (by omega) (by omega) (by omega) (by omega)]; exact w31) (fun j9 h9 => by rw [hF_640 j9 (by omega) (by omega) (by omega) (by omega) (by omega)]; exact w32 j9 h9) hm_572 hm_573 hm_574 hm_575 hm_576 hm_577 hm_578 hm_579 hm_580 hm_581 hm_582 hm_583 hm_584 hm_585 hm_586 hm_587 hm_588 hm_589 hm_590 hm_591 hm_592 hm_593 hm_594 hm_595 hm_596 hm_597 hm_598 hm_599 hm_600 hm_601 hm_602 hm_603 hm_604 hm_605 hm_606 hm_607 hm_608 hm_609 hm_610 hm_611 hm_568 (by rw [show t1 * 6 + t2 = 6 * t1 + t2 by omega]; exact hm_569) (by rw [show t1 * 6 + t2 = 6 * t1 + t2 by omega]; exact hm_570) hm_612 hm_613 hm_614 hm_615 hm_616 hm_617 hm_618 hm_619 hm_620 hm_621 hm_622 hm_623 hm_624 hm_625 hm_626 hm_627 hm_628 hm_629 hm_630 hm_631 hm_632 hm_633 hm_634 hm_635 hm_636 hm_637 hI (lv_sub hl [1, 2, 3, 4, 5] rfl)
        · -- 298: nI 0 ne
          exact absurd (by decide) c_643

set_option maxHeartbeats 8000000 in
set_option maxRecDepth 100000 in
theorem law_3 {p : Program} {l : Launch} {e : Env} {s : State} {m : MethodId} {below : List Frame} {meth : Method} {c : Code} {b L : Nat} {xs : Nat → Int32} {Q : State → Prop} {G : GG} {z : Nat} {ad : Nat → Nat} {M : Mem} {H : Heap} {locs : List Loc} {ls : Array Slot} {i cz sy : Nat} (hst : l.stackTraces = false) (hx : p.tables.exec = Jvm.exec) (hb : c.code = code) (hml : c.maxLocals = 7) (hown : s.vm.findClass RL = some m.cls) {cx : Cond} (hts : ∀ w ∈ cx :: lwg, w.before #[Value.ref b] s = true) (hX : va_X b L xs s s.heap) (hbl : b < s.heap.size) (hbz : ¬ z ≤ b) (hI : Iv G z ad M s H locs) (hl : lv_has ls 7 [(0, .ref b), (1, .ref (ad 0)), (2, .ref (ad 60)), (3, .ref (ad 99)), (4, .int (nI i))]) (hiL : i + 6 ≤ L) (hL : L ≤ 3072) (hcz : cz + 10 ≤ 601024) (hsy : sy + 300 ≤ 7293034) {n : Nat} {kd : Nat → Nat} {fm : Nat → Int32} {to : Nat → Int32} {sz : Nat → Nat} {rl : Nat → Nat → Nat} {en : Nat → Nat → Nat} {qa : Nat} {qs : Nat} {fw : Int32} {len : Nat} {tb : Nat → Nat} {le : Nat → Nat} {mo : Nat → Nat} {al : Nat → Nat} {ho : Nat → Bool} {jn : Nat} {hg : Nat → Nat} {lst : Nat → Nat} {jd : Nat → Nat} {s0 : Nat} {r0 : Nat → Nat} {th : Nat → Option Nat} {ol : Nat → Option Nat} {e0 : Nat → Nat} {mm9 : Nat → Bool} {ff : Nat → Int32} {lq : Nat → Int32} {ra : Nat} {rb : Nat} {rt : Int32} {rv : Int32} {qm : Nat} {pz : Nat} {sx : Nat → Int64} {ft : Nat → Nat} {rx : Nat → Int64} {dm : Nat → Int64} {rc : Nat → Int32} {ao : Nat} {vr : Nat} {kn : Nat → Nat} {nq : Nat → Bool} {pn : Nat → Nat} {av : Nat → Nat} {ro : Nat → Nat} {te : Nat → Nat} {sq : Nat} {su : Nat} {kb : Nat → Nat} {nb : Nat → Bool} {pb : Nat → Nat} {ab : Nat → Nat} {rbb : Nat → Nat} {tbb : Nat → Nat} {tw : Nat} {sn : Nat} {pt : Nat} {zs : Nat} {bg : Nat} {mk : Nat → Nat} {mf : Nat → Int32} {mu : Nat → Int32} {mz : Nat → Nat} {rr : Nat → Nat} {ee : Nat → Nat} {oa : Nat → Nat} {ob : Nat → Nat} {s74 : Nat → Int32} {ak : Nat → Int32} {nm : Nat → Bool} {ap : Nat → Nat} {pr : Nat → Int32} {pf : Nat → Int32} {tf : Nat → Int32} {fv : Nat → Int32} {tr : Nat → Bool} {gv : Nat → Option Nat} {fo : Nat → Int32} {re : Nat → Bool} {us : Nat → Bool} {nx : Nat → Bool} {of : Nat → Int64} (fL : LSm G ad M n kd fm to sz rl en) (w1 : LSw n kd sz rl en) (w2 : MRel n kd fm to sz rl en mk mf mu mz rr ee) (w3 : JI jn hg lst jd oa ob) (w4 : len ≤ 400) (w5 : ∀ j, j < len → tb j < 256) (w6 : ∀ j, j < len → tf j = sB (tb j)) (w7 : s0 ≤ 6) (w8 : mz 120 = s0) (w9 : ∀ j, j < s0 → rr (720 + j) = r0 j ∧ ee (720 + j) = e0 j) (w10 : ∀ j, j < s0 → r0 j < 6) (w11 : ∀ j, j < s0 → e0 j < 40 + n) (w12 : ∀ j, j < s0 → th j = thE e0 j) (w13 : ∀ j, j < s0 → ol j = olE e0 j) (w14 : ∀ j, j < 36 → le j < 100) (w15 : ∀ j, j < 36 → mo j < 100) (w16 : ∀ j, j < 36 → al j ≤ 100) (w17 : ∀ i, i < n → (0 : Int32) ≤ fm i) (w18 : ∀ i, i < n → ∀ k, hgs sz en i k = true → fm k ≤ fm i) (w19 : ao ≤ 6) (w20 : vr < 8) (w21 : ∀ i, i < ao → ap i ≤ 4 ∧ (ak i = nI (kn i) ∧ kn i < 6) ∧ ∀ p8, p8 < ap i → (pr (4 * i + p8) = nI (ro (i * 4 + p8)) ∧ ro (i * 4 + p8) < 6) ∧ te (i * 4 + p8) < 43 ∧ pf (4 * i + p8) = tmI (te (i * 4 + p8))) (w22 : ∀ i, i < ao → nm i = nq i ∧ ap i = pn i) (w23 : ∀ i, i < ao → av i < 8) (w24 : ∀ i, i < ao → (av i).testBit 0 = false → ∀ p9, p9 < pn i → te (i * 4 + p9) ≠ 40) (w25 : ∀ v, v < 3 → vr.testBit v = true → ∃ i, i < ao ∧ nq i = false ∧ ∃ k, k < pn i ∧ te (i * 4 + k) = 40 + v) (w26 : 29 < qa ∧ qa < 38) (w27 : 29 < qs ∧ qs < 38) (w28 : qa + 7 ≤ qs ∨ qs + 7 ≤ qa) (w29 : 29 < qm ∧ qm < 51) (w30 : n = 0 → (∃ mcn : Int32, M 17 = some (cList ad mcn G.2.2.2.2 0)) ∧ M 18 = none) (w31 : M 29 = none) (w32 : ∀ j, 100 + 5 * n ≤ j → M j = none) (f_0 : M 0 = some (cStore ad qa qs fw)) (f_1 : M 1 = some (cTape ad len)) (f_2 : M 2 = some (aI G 400 (nF tb))) (f_3 : M 3 = some (cLaws ad )) (f_4 : M 4 = some (aI G 36 (nF le))) (f_5 : M 5 = some (aI G 36 (nF mo))) (f_6 : M 6 = some (aI G 36 (nF al))) (f_7 : M 7 = some (aZ G 6 (bF ho))) (f_8 : M 8 = some (cOnes ad jn)) (f_9 : M 9 = some (aI G 40 (nF hg))) (f_10 : M 10 = some (aI G 40 (nF lst))) (f_11 : M 11 = some (aI G 40 (nF jd))) (f_12 : M 12 = some (cEnds ad 12 s0)) (f_13 : M 13 = some (aI G 6 (nF r0))) (f_14 : M 14 = some (aI G 6 (oF th))) (f_15 : M 15 = some (aI G 6 (oF ol))) (f_19 : M 19 = some (aZ G 120 (bF mm9))) (f_20 : M 20 = some (aI G 120 ff)) (f_21 : M 21 = some (aI G 120 lq)) (f_22 : M 22 = some (cReader ad ra rb rt rv)) (f_23 : M 23 = some (cMatcher ad qm pz)) (f_24 : M 24 = some (aJ G 2160 sx)) (f_25 : M 25 = some (aI G 6 (nF ft))) (f_26 : M 26 = some (aJ G 240 rx)) (f_27 : M 27 = some (aJ G 3 dm)) (f_28 : M 28 = some (aI G 3 rc)) (f_qa : M qa = some (cQuestion ad qa ao vr)) (f_qa_1 : M (qa + 1) = some (aI G 6 (nF kn))) (f_qa_2 : M (qa + 2) = some (aZ G 6 (bF nq))) (f_qa_3 : M (qa + 3) = some (aI G 6 (nF pn))) (f_qa_4 : M (qa + 4) = some (aI G 6 (nF av))) (f_qa_5 : M (qa + 5) = some (aI G 24 (nF ro))) (f_qa_6 : M (qa + 6) = some (aI G 24 (nF te))) (f_qs : M qs = some (cQuestion ad qs sq su)) (f_qs_1 : M (qs + 1) = some (aI G 6 (nF kb))) (f_qs_2 : M (qs + 2) = some (aZ G 6 (bF nb))) (f_qs_3 : M (qs + 3) = some (aI G 6 (nF pb))) (f_qs_4 : M (qs + 4) = some (aI G 6 (nF ab))) (f_qs_5 : M (qs + 5) = some (aI G 24 (nF rbb))) (f_qs_6 : M (qs + 6) = some (aI G 24 (nF tbb))) (f_60 : M 60 = some (cModel ad tw n jn ao vr sn len pt zs bg fw)) (f_61 : M 61 = some (aI G 36 (nF le))) (f_62 : M 62 = some (aI G 36 (nF mo))) (f_63 : M 63 = some (aI G 36 (nF al))) (f_64 : M 64 = some (aZ G 6 (bF ho))) (f_65 : M 65 = some (aI G 120 (nF mk))) (f_66 : M 66 = some (aI G 120 mf)) (f_67 : M 67 = some (aI G 120 mu)) (f_68 : M 68 = some (aI G 121 (nF mz))) (f_69 : M 69 = some (aI G 726 (nF rr))) (f_70 : M 70 = some (aI G 726 (nF ee))) (f_71 : M 71 = some (aI G 40 (nF lst))) (f_72 : M 72 = some (aI G 40 (nF oa))) (f_73 : M 73 = some (aI G 40 (nF ob))) (f_74 : M 74 = some (aI G 120 s74)) (f_75 : M 75 = some (aI G 12 ak)) (f_76 : M 76 = some (aZ G 12 (bF nm))) (f_77 : M 77 = some (aI G 12 (nF ap))) (f_78 : M 78 = some (aI G 48 pr)) (f_79 : M 79 = some (aI G 48 pf)) (f_80 : M 80 = some (aB G 400 tf)) (f_81 : M 81 = some (aI G 5 fv)) (f_82 : M 82 = some (aZ G 384000 (bF tr))) (f_83 : M 83 = some (aI G 3 (oF gv))) (f_84 : M 84 = some (aI G 3 fo)) (f_85 : M 85 = some (aZ G 40 (bF re))) (f_86 : M 86 = some (aZ G 120 (bF us))) (f_87 : M 87 = some (aZ G 120 (bF nx))) (f_99 : M 99 = some (aJ G 1 of)) (kk : ∀ (ad1 : Nat → Nat) (M1 : Mem) (H1 : Heap) (locs1 : List Loc) (ls1 : Array Slot) (n : Nat) (kd : Nat → Nat) (fm : Nat → Int32) (to : Nat → Int32) (sz : Nat → Nat) (rl : Nat → Nat → Nat) (en : Nat → Nat → Nat) (qa : Nat) (qs : Nat) (fw : Int32) (len : Nat) (tb : Nat → Nat) (le : Nat → Nat) (mo : Nat → Nat) (al : Nat → Nat) (ho : Nat → Bool) (jn : Nat) (hg : Nat → Nat) (lst : Nat → Nat) (jd : Nat → Nat) (s0 : Nat) (r0 : Nat → Nat) (th : Nat → Option Nat) (ol : Nat → Option Nat) (e0 : Nat → Nat) (mm9 : Nat → Bool) (ff : Nat → Int32) (lq : Nat → Int32) (ra : Nat) (rb : Nat) (rt : Int32) (rv : Int32) (qm : Nat) (pz : Nat) (sx : Nat → Int64) (ft : Nat → Nat) (rx : Nat → Int64) (dm : Nat → Int64) (rc : Nat → Int32) (ao : Nat) (vr : Nat) (kn : Nat → Nat) (nq : Nat → Bool) (pn : Nat → Nat) (av : Nat → Nat) (ro : Nat → Nat) (te : Nat → Nat) (sq : Nat) (su : Nat) (kb : Nat → Nat) (nb : Nat → Bool) (pb : Nat → Nat) (ab : Nat → Nat) (rbb : Nat → Nat) (tbb : Nat → Nat) (tw : Nat) (sn : Nat) (pt : Nat) (zs : Nat) (bg : Nat) (mk : Nat → Nat) (mf : Nat → Int32) (mu : Nat → Int32) (mz : Nat → Nat) (rr : Nat → Nat) (ee : Nat → Nat) (oa : Nat → Nat) (ob : Nat → Nat) (s74 : Nat → Int32) (ak : Nat → Int32) (nm : Nat → Bool) (ap : Nat → Nat) (pr : Nat → Int32) (pf : Nat → Int32) (tf : Nat → Int32) (fv : Nat → Int32) (tr : Nat → Bool) (gv : Nat → Option Nat) (fo : Nat → Int32) (re : Nat → Bool) (us : Nat → Bool) (nx : Nat → Bool) (of : Nat → Int64), (LSm G ad1 M1 n kd fm to sz rl en) → (LSw n kd sz rl en) → (MRel n kd fm to sz rl en mk mf mu mz rr ee) → (JI jn hg lst jd oa ob) → (len ≤ 400) → (∀ j, j < len → tb j < 256) → (∀ j, j < len → tf j = sB (tb j)) → (s0 ≤ 6) → (mz 120 = s0) → (∀ j, j < s0 → rr (720 + j) = r0 j ∧ ee (720 + j) = e0 j) → (∀ j, j < s0 → r0 j < 6) → (∀ j, j < s0 → e0 j < 40 + n) → (∀ j, j < s0 → th j = thE e0 j) → (∀ j, j < s0 → ol j = olE e0 j) → (∀ j, j < 36 → le j < 100) → (∀ j, j < 36 → mo j < 100) → (∀ j, j < 36 → al j ≤ 100) → (∀ i, i < n → (0 : Int32) ≤ fm i) → (∀ i, i < n → ∀ k, hgs sz en i k = true → fm k ≤ fm i) → (ao ≤ 6) → (vr < 8) → (∀ i, i < ao → ap i ≤ 4 ∧ (ak i = nI (kn i) ∧ kn i < 6) ∧ ∀ p8, p8 < ap i → (pr (4 * i + p8) = nI (ro (i * 4 + p8)) ∧ ro (i * 4 + p8) < 6) ∧ te (i * 4 + p8) < 43 ∧ pf (4 * i + p8) = tmI (te (i * 4 + p8))) → (∀ i, i < ao → nm i = nq i ∧ ap i = pn i) → (∀ i, i < ao → av i < 8) → (∀ i, i < ao → (av i).testBit 0 = false → ∀ p9, p9 < pn i → te (i * 4 + p9) ≠ 40) → (∀ v, v < 3 → vr.testBit v = true → ∃ i, i < ao ∧ nq i = false ∧ ∃ k, k < pn i ∧ te (i * 4 + k) = 40 + v) → (29 < qa ∧ qa < 38) → (29 < qs ∧ qs < 38) → (qa + 7 ≤ qs ∨ qs + 7 ≤ qa) → (29 < qm ∧ qm < 51) → (n = 0 → (∃ mcn : Int32, M1 17 = some (cList ad1 mcn G.2.2.2.2 0)) ∧ M1 18 = none) → (M1 29 = none) → (∀ j, 100 + 5 * n ≤ j → M1 j = none) → (M1 0 = some (cStore ad1 qa qs fw)) → (M1 1 = some (cTape ad1 len)) → (M1 2 = some (aI G 400 (nF tb))) → (M1 3 = some (cLaws ad1 )) → (M1 4 = some (aI G 36 (nF le))) → (M1 5 = some (aI G 36 (nF mo))) → (M1 6 = some (aI G 36 (nF al))) → (M1 7 = some (aZ G 6 (bF ho))) → (M1 8 = some (cOnes ad1 jn)) → (M1 9 = some (aI G 40 (nF hg))) → (M1 10 = some (aI G 40 (nF lst))) → (M1 11 = some (aI G 40 (nF jd))) → (M1 12 = some (cEnds ad1 12 s0)) → (M1 13 = some (aI G 6 (nF r0))) → (M1 14 = some (aI G 6 (oF th))) → (M1 15 = some (aI G 6 (oF ol))) → (M1 19 = some (aZ G 120 (bF mm9))) → (M1 20 = some (aI G 120 ff)) → (M1 21 = some (aI G 120 lq)) → (M1 22 = some (cReader ad1 ra rb rt rv)) → (M1 23 = some (cMatcher ad1 qm pz)) → (M1 24 = some (aJ G 2160 sx)) → (M1 25 = some (aI G 6 (nF ft))) → (M1 26 = some (aJ G 240 rx)) → (M1 27 = some (aJ G 3 dm)) → (M1 28 = some (aI G 3 rc)) → (M1 qa = some (cQuestion ad1 qa ao vr)) → (M1 (qa + 1) = some (aI G 6 (nF kn))) → (M1 (qa + 2) = some (aZ G 6 (bF nq))) → (M1 (qa + 3) = some (aI G 6 (nF pn))) → (M1 (qa + 4) = some (aI G 6 (nF av))) → (M1 (qa + 5) = some (aI G 24 (nF ro))) → (M1 (qa + 6) = some (aI G 24 (nF te))) → (M1 qs = some (cQuestion ad1 qs sq su)) → (M1 (qs + 1) = some (aI G 6 (nF kb))) → (M1 (qs + 2) = some (aZ G 6 (bF nb))) → (M1 (qs + 3) = some (aI G 6 (nF pb))) → (M1 (qs + 4) = some (aI G 6 (nF ab))) → (M1 (qs + 5) = some (aI G 24 (nF rbb))) → (M1 (qs + 6) = some (aI G 24 (nF tbb))) → (M1 60 = some (cModel ad1 tw n jn ao vr sn len pt zs bg fw)) → (M1 61 = some (aI G 36 (nF le))) → (M1 62 = some (aI G 36 (nF mo))) → (M1 63 = some (aI G 36 (nF al))) → (M1 64 = some (aZ G 6 (bF ho))) → (M1 65 = some (aI G 120 (nF mk))) → (M1 66 = some (aI G 120 mf)) → (M1 67 = some (aI G 120 mu)) → (M1 68 = some (aI G 121 (nF mz))) → (M1 69 = some (aI G 726 (nF rr))) → (M1 70 = some (aI G 726 (nF ee))) → (M1 71 = some (aI G 40 (nF lst))) → (M1 72 = some (aI G 40 (nF oa))) → (M1 73 = some (aI G 40 (nF ob))) → (M1 74 = some (aI G 120 s74)) → (M1 75 = some (aI G 12 ak)) → (M1 76 = some (aZ G 12 (bF nm))) → (M1 77 = some (aI G 12 (nF ap))) → (M1 78 = some (aI G 48 pr)) → (M1 79 = some (aI G 48 pf)) → (M1 80 = some (aB G 400 tf)) → (M1 81 = some (aI G 5 fv)) → (M1 82 = some (aZ G 384000 (bF tr))) → (M1 83 = some (aI G 3 (oF gv))) → (M1 84 = some (aI G 3 fo)) → (M1 85 = some (aZ G 40 (bF re))) → (M1 86 = some (aZ G 120 (bF us))) → (M1 87 = some (aZ G 120 (bF nx))) → (M1 99 = some (aJ G 1 of)) → Iv G z ad1 M1 s H1 locs1 → lv_has ls1 7 [(0, .ref b), (1, .ref (ad1 0)), (2, .ref (ad1 60)), (3, .ref (ad1 99)), (4, .int (nI i))] → W p l e room_1 s m #[Value.ref b] below meth c H1 locs1 (cz + 10) (sy + 300) Q (F0 m 1333 ls1 [])) : W p l e room_1 s m #[Value.ref b] below meth c H locs cz sy Q (F0 m 306 ls []) := by
  have h16 := fL.1
  have hw1 := w1.1
  have hlst := ji_lst w3
  rcases (in_or 6 (xs (i + 1)) (by omega) : (xs (i + 1) < 0 ∨ ¬ xs (i + 1) < nI 6) ∨ (∃ t : Nat, t < 6 ∧ xs (i + 1) = nI t)) with hc_1 | hc_2
  · skip
    refine lv_aload_n hx hb dL_law_306 rfl (lv_at hl 1 rfl) ?_
    refine lv_aload_n hx hb dL_law_307 rfl (lv_at hl 0 rfl) ?_
    refine lv_iload hx hb dL_law_308 (lv_at hl 4 rfl) ?_
    refine lv_iconst (v := nI 1) hx hb dL_law_310 (by decide) ?_
    refine lv_iadd hx hb dL_law_311 ?_
    refine n_eq (nI_add i 1) ?_
    refine va_sld (A := fr z) hx hb hX hbl hbz hI.S (vp_in_nI (n := i + 1) (by omega) (by omega)) dL_law_312 ?_
    rw [nI_clamp (by omega)]
    refine lv_aload_n hx hb dL_law_313 rfl (lv_at hl 0 rfl) ?_
    refine lv_iload hx hb dL_law_314 (lv_at hl 4 rfl) ?_
    refine lv_iconst (v := nI 2) hx hb dL_law_316 (by decide) ?_
    refine lv_iadd hx hb dL_law_317 ?_
    refine n_eq (nI_add i 2) ?_
    refine va_sld (A := fr z) hx hb hX hbl hbz hI.S (vp_in_nI (n := i + 2) (by omega) (by omega)) dL_law_318 ?_
    rw [nI_clamp (by omega)]
    refine lv_aload_n hx hb dL_law_319 rfl (lv_at hl 0 rfl) ?_
    refine lv_iload hx hb dL_law_320 (lv_at hl 4 rfl) ?_
    refine lv_iconst (v := nI 3) hx hb dL_law_322 (by decide) ?_
    refine lv_iadd hx hb dL_law_323 ?_
    refine n_eq (nI_add i 3) ?_
    refine va_sld (A := fr z) hx hb hX hbl hbz hI.S (vp_in_nI (n := i + 3) (by omega) (by omega)) dL_law_324 ?_
    rw [nI_clamp (by omega)]
    refine k_Ni (vx_runSW (As := [.ref (ad 0), .int (xs (i + 1)), .int (xs (i + 2)), .int (xs (i + 3))]) (rest := []) ⟨hx, hb, hml, hown, hts⟩ (c_L_alone_a l hst G z ad M (qa := qa) (qs := qs) (fw := fw) (x0 := xs (i + 1)) (x1 := xs (i + 2)) (x2 := xs (i + 3)) f_0 hc_1) (vx_cwSW 4 hts (gSW (lwg_of t_573 rfl) (lwg_of t_574 rfl) (lwg_of t_0 rfl) (lwg_of t_575 rfl)) rfl rfl rfl (by decide +kernel) ⟨Nat.le_of_ble_eq_true rfl, Nat.le_of_ble_eq_true rfl⟩) hI.preS rfl rfl hl.1 rfl (lv_room (Nat.le_of_ble_eq_true rfl)) dL_law_325 ⟨(show _ ≤ (601024 : Nat) from by omega), (show _ ≤ (7293034 : Nat) from by omega)⟩) hI (fun r_3 M_5 H_6 locs_7 hp_4 hI => ?_)
    obtain ⟨hr_8, hF_9⟩ := hp_4
    have hm_10 : M_5 0 = some (cStore ad qa qs fw) := by rw [hF_9 0 ]; exact f_0
    have hm_11 : M_5 1 = some (cTape ad len) := by rw [hF_9 1 ]; exact f_1
    have hm_12 : M_5 2 = some (aI G 400 (nF tb)) := by rw [hF_9 2 ]; exact f_2
    have hm_13 : M_5 3 = some (cLaws ad ) := by rw [hF_9 3 ]; exact f_3
    have hm_14 : M_5 4 = some (aI G 36 (nF le)) := by rw [hF_9 4 ]; exact f_4
    have hm_15 : M_5 5 = some (aI G 36 (nF mo)) := by rw [hF_9 5 ]; exact f_5
    have hm_16 : M_5 6 = some (aI G 36 (nF al)) := by rw [hF_9 6 ]; exact f_6
    have hm_17 : M_5 7 = some (aZ G 6 (bF ho)) := by rw [hF_9 7 ]; exact f_7
    have hm_18 : M_5 8 = some (cOnes ad jn) := by rw [hF_9 8 ]; exact f_8
    have hm_19 : M_5 9 = some (aI G 40 (nF hg)) := by rw [hF_9 9 ]; exact f_9
    have hm_20 : M_5 10 = some (aI G 40 (nF lst)) := by rw [hF_9 10 ]; exact f_10
    have hm_21 : M_5 11 = some (aI G 40 (nF jd)) := by rw [hF_9 11 ]; exact f_11
    have hm_22 : M_5 12 = some (cEnds ad 12 s0) := by rw [hF_9 12 ]; exact f_12
    have hm_23 : M_5 13 = some (aI G 6 (nF r0)) := by rw [hF_9 13 ]; exact f_13
    have hm_24 : M_5 14 = some (aI G 6 (oF th)) := by rw [hF_9 14 ]; exact f_14
    have hm_25 : M_5 15 = some (aI G 6 (oF ol)) := by rw [hF_9 15 ]; exact f_15
    have hm_26 : M_5 19 = some (aZ G 120 (bF mm9)) := by rw [hF_9 19 ]; exact f_19
    have hm_27 : M_5 20 = some (aI G 120 ff) := by rw [hF_9 20 ]; exact f_20
    have hm_28 : M_5 21 = some (aI G 120 lq) := by rw [hF_9 21 ]; exact f_21
    have hm_29 : M_5 22 = some (cReader ad ra rb rt rv) := by rw [hF_9 22 ]; exact f_22
    have hm_30 : M_5 23 = some (cMatcher ad qm pz) := by rw [hF_9 23 ]; exact f_23
    have hm_31 : M_5 24 = some (aJ G 2160 sx) := by rw [hF_9 24 ]; exact f_24
    have hm_32 : M_5 25 = some (aI G 6 (nF ft)) := by rw [hF_9 25 ]; exact f_25
    have hm_33 : M_5 26 = some (aJ G 240 rx) := by rw [hF_9 26 ]; exact f_26
    have hm_34 : M_5 27 = some (aJ G 3 dm) := by rw [hF_9 27 ]; exact f_27
    have hm_35 : M_5 28 = some (aI G 3 rc) := by rw [hF_9 28 ]; exact f_28
    have hm_36 : M_5 qa = some (cQuestion ad qa ao vr) := by rw [hF_9 qa ]; exact f_qa
    have hm_37 : M_5 (qa + 1) = some (aI G 6 (nF kn)) := by rw [hF_9 (qa + 1) ]; exact f_qa_1
    have hm_38 : M_5 (qa + 2) = some (aZ G 6 (bF nq)) := by rw [hF_9 (qa + 2) ]; exact f_qa_2
    have hm_39 : M_5 (qa + 3) = some (aI G 6 (nF pn)) := by rw [hF_9 (qa + 3) ]; exact f_qa_3
    have hm_40 : M_5 (qa + 4) = some (aI G 6 (nF av)) := by rw [hF_9 (qa + 4) ]; exact f_qa_4
    have hm_41 : M_5 (qa + 5) = some (aI G 24 (nF ro)) := by rw [hF_9 (qa + 5) ]; exact f_qa_5
    have hm_42 : M_5 (qa + 6) = some (aI G 24 (nF te)) := by rw [hF_9 (qa + 6) ]; exact f_qa_6
    have hm_43 : M_5 qs = some (cQuestion ad qs sq su) := by rw [hF_9 qs ]; exact f_qs
    have hm_44 : M_5 (qs + 1) = some (aI G 6 (nF kb)) := by rw [hF_9 (qs + 1) ]; exact f_qs_1
    have hm_45 : M_5 (qs + 2) = some (aZ G 6 (bF nb)) := by rw [hF_9 (qs + 2) ]; exact f_qs_2
    have hm_46 : M_5 (qs + 3) = some (aI G 6 (nF pb)) := by rw [hF_9 (qs + 3) ]; exact f_qs_3
    have hm_47 : M_5 (qs + 4) = some (aI G 6 (nF ab)) := by rw [hF_9 (qs + 4) ]; exact f_qs_4
    have hm_48 : M_5 (qs + 5) = some (aI G 24 (nF rbb)) := by rw [hF_9 (qs + 5) ]; exact f_qs_5
    have hm_49 : M_5 (qs + 6) = some (aI G 24 (nF tbb)) := by rw [hF_9 (qs + 6) ]; exact f_qs_6
    have hm_50 : M_5 60 = some (cModel ad tw n jn ao vr sn len pt zs bg fw) := by rw [hF_9 60 ]; exact f_60
    have hm_51 : M_5 61 = some (aI G 36 (nF le)) := by rw [hF_9 61 ]; exact f_61
    have hm_52 : M_5 62 = some (aI G 36 (nF mo)) := by rw [hF_9 62 ]; exact f_62
    have hm_53 : M_5 63 = some (aI G 36 (nF al)) := by rw [hF_9 63 ]; exact f_63
    have hm_54 : M_5 64 = some (aZ G 6 (bF ho)) := by rw [hF_9 64 ]; exact f_64
    have hm_55 : M_5 65 = some (aI G 120 (nF mk)) := by rw [hF_9 65 ]; exact f_65
    have hm_56 : M_5 66 = some (aI G 120 mf) := by rw [hF_9 66 ]; exact f_66
    have hm_57 : M_5 67 = some (aI G 120 mu) := by rw [hF_9 67 ]; exact f_67
    have hm_58 : M_5 68 = some (aI G 121 (nF mz)) := by rw [hF_9 68 ]; exact f_68
    have hm_59 : M_5 69 = some (aI G 726 (nF rr)) := by rw [hF_9 69 ]; exact f_69
    have hm_60 : M_5 70 = some (aI G 726 (nF ee)) := by rw [hF_9 70 ]; exact f_70
    have hm_61 : M_5 71 = some (aI G 40 (nF lst)) := by rw [hF_9 71 ]; exact f_71
    have hm_62 : M_5 72 = some (aI G 40 (nF oa)) := by rw [hF_9 72 ]; exact f_72
    have hm_63 : M_5 73 = some (aI G 40 (nF ob)) := by rw [hF_9 73 ]; exact f_73
    have hm_64 : M_5 74 = some (aI G 120 s74) := by rw [hF_9 74 ]; exact f_74
    have hm_65 : M_5 75 = some (aI G 12 ak) := by rw [hF_9 75 ]; exact f_75
    have hm_66 : M_5 76 = some (aZ G 12 (bF nm)) := by rw [hF_9 76 ]; exact f_76
    have hm_67 : M_5 77 = some (aI G 12 (nF ap)) := by rw [hF_9 77 ]; exact f_77
    have hm_68 : M_5 78 = some (aI G 48 pr) := by rw [hF_9 78 ]; exact f_78
    have hm_69 : M_5 79 = some (aI G 48 pf) := by rw [hF_9 79 ]; exact f_79
    have hm_70 : M_5 80 = some (aB G 400 tf) := by rw [hF_9 80 ]; exact f_80
    have hm_71 : M_5 81 = some (aI G 5 fv) := by rw [hF_9 81 ]; exact f_81
    have hm_72 : M_5 82 = some (aZ G 384000 (bF tr)) := by rw [hF_9 82 ]; exact f_82
    have hm_73 : M_5 83 = some (aI G 3 (oF gv)) := by rw [hF_9 83 ]; exact f_83
    have hm_74 : M_5 84 = some (aI G 3 fo) := by rw [hF_9 84 ]; exact f_84
    have hm_75 : M_5 85 = some (aZ G 40 (bF re)) := by rw [hF_9 85 ]; exact f_85
    have hm_76 : M_5 86 = some (aZ G 120 (bF us)) := by rw [hF_9 86 ]; exact f_86
    have hm_77 : M_5 87 = some (aZ G 120 (bF nx)) := by rw [hF_9 87 ]; exact f_87
    have hm_78 : M_5 99 = some (aJ G 1 of) := by rw [hF_9 99 ]; exact f_99
    have hm_79 : M_5 16 = some (cLines ad ) := by rw [hF_9 16 ]; exact h16
    have hL_80 : LSm G ad M_5 n kd fm to sz rl en := fL.keep (fun j hj => hF_9 j )
    rw [hr_8]
    refine lv_istore (lv' := [(5, .int (nI 1)), (0, .ref b), (1, .ref (ad 0)), (2, .ref (ad 60)), (3, .ref (ad 99)), (4, .int (nI i))]) hx hb dL_law_328 hl (by decide) rfl (fun ls hl => ?_)
    refine lv_aload_n hx hb dL_law_330 rfl (lv_at hl 3 rfl) ?_
    refine lv_aload_n hx hb dL_law_331 rfl (lv_at hl 1 rfl) ?_
    refine lv_iload hx hb dL_law_332 (lv_at hl 5 rfl) ?_
    refine lv_iconst (v := nI 1) hx hb dL_law_334 (by decide) ?_
    refine lv_iadd hx hb dL_law_335 ?_
    refine n_eq (nI_add i 1) ?_
    refine va_sld (A := fr z) hx hb hX hbl hbz hI.S (vp_in_nI (n := i + 1) (by omega) (by omega)) dL_law_336 ?_
    rw [nI_clamp (by omega)]
    refine lv_aload_n hx hb dL_law_337 rfl (lv_at hl 1 rfl) ?_
    refine lv_iload hx hb dL_law_338 (lv_at hl 5 rfl) ?_
    refine lv_iconst (v := nI 2) hx hb dL_law_340 (by decide) ?_
    refine lv_iadd hx hb dL_law_341 ?_
    refine n_eq (nI_add i 2) ?_
    refine va_sld (A := fr z) hx hb hX hbl hbz hI.S (vp_in_nI (n := i + 2) (by omega) (by omega)) dL_law_342 ?_
    rw [nI_clamp (by omega)]
    refine lv_aload_n hx hb dL_law_343 rfl (lv_at hl 1 rfl) ?_
    refine lv_iload hx hb dL_law_344 (lv_at hl 5 rfl) ?_
    refine lv_iconst (v := nI 3) hx hb dL_law_346 (by decide) ?_
    refine lv_iadd hx hb dL_law_347 ?_
    refine n_eq (nI_add i 3) ?_
    refine va_sld (A := fr z) hx hb hX hbl hbz hI.S (vp_in_nI (n := i + 3) (by omega) (by omega)) dL_law_348 ?_
    rw [nI_clamp (by omega)]
    refine k_Nv (va_runV (As := [.int (xs (i + 1)), .int (xs (i + 2)), .int (xs (i + 3))]) (rest := []) ⟨hx, hb, hml, hown, hts⟩ (c_X10_alone_a l G z ad M_5 (th := tw) (ln := n) (on := jn) (ao := ao) (vr := vr) (sn := sn) (tp := len) (pt := pt) (zs := zs) (bg := bg) (fa := fw) (x0 := xs (i + 1)) (x1 := xs (i + 2)) (x2 := xs (i + 3)) hm_50 hc_1) (cwV 3 hts (gV (lwg_of t_1145 rfl) (lwg_of t_1146 rfl) (lwg_of t_1147 rfl) (lwg_of t_13 rfl) (lwg_of t_1148 rfl)) rfl rfl rfl (by decide +kernel) ⟨Nat.le_of_ble_eq_true rfl, Nat.le_of_ble_eq_true rfl⟩) (hI.preV hm_50 rfl) rfl rfl hl.1 rfl (lv_room (Nat.le_of_ble_eq_true rfl)) dL_law_349 ⟨(show _ ≤ (601024 : Nat) from by omega), (show _ ≤ (7293034 : Nat) from by omega)⟩) hI (fun M_83 H_84 locs_85 hp_82 hI => ?_)
    obtain ⟨hm_86, hF_87⟩ := hp_82
    have hm_88 : M_83 0 = some (cStore ad qa qs fw) := by rw [hF_87 0 (by omega)]; exact hm_10
    have hm_89 : M_83 1 = some (cTape ad len) := by rw [hF_87 1 (by omega)]; exact hm_11
    have hm_90 : M_83 2 = some (aI G 400 (nF tb)) := by rw [hF_87 2 (by omega)]; exact hm_12
    have hm_91 : M_83 3 = some (cLaws ad ) := by rw [hF_87 3 (by omega)]; exact hm_13
    have hm_92 : M_83 4 = some (aI G 36 (nF le)) := by rw [hF_87 4 (by omega)]; exact hm_14
    have hm_93 : M_83 5 = some (aI G 36 (nF mo)) := by rw [hF_87 5 (by omega)]; exact hm_15
    have hm_94 : M_83 6 = some (aI G 36 (nF al)) := by rw [hF_87 6 (by omega)]; exact hm_16
    have hm_95 : M_83 7 = some (aZ G 6 (bF ho)) := by rw [hF_87 7 (by omega)]; exact hm_17
    have hm_96 : M_83 8 = some (cOnes ad jn) := by rw [hF_87 8 (by omega)]; exact hm_18
    have hm_97 : M_83 9 = some (aI G 40 (nF hg)) := by rw [hF_87 9 (by omega)]; exact hm_19
    have hm_98 : M_83 10 = some (aI G 40 (nF lst)) := by rw [hF_87 10 (by omega)]; exact hm_20
    have hm_99 : M_83 11 = some (aI G 40 (nF jd)) := by rw [hF_87 11 (by omega)]; exact hm_21
    have hm_100 : M_83 12 = some (cEnds ad 12 s0) := by rw [hF_87 12 (by omega)]; exact hm_22
    have hm_101 : M_83 13 = some (aI G 6 (nF r0)) := by rw [hF_87 13 (by omega)]; exact hm_23
    have hm_102 : M_83 14 = some (aI G 6 (oF th)) := by rw [hF_87 14 (by omega)]; exact hm_24
    have hm_103 : M_83 15 = some (aI G 6 (oF ol)) := by rw [hF_87 15 (by omega)]; exact hm_25
    have hm_104 : M_83 19 = some (aZ G 120 (bF mm9)) := by rw [hF_87 19 (by omega)]; exact hm_26
    have hm_105 : M_83 20 = some (aI G 120 ff) := by rw [hF_87 20 (by omega)]; exact hm_27
    have hm_106 : M_83 21 = some (aI G 120 lq) := by rw [hF_87 21 (by omega)]; exact hm_28
    have hm_107 : M_83 22 = some (cReader ad ra rb rt rv) := by rw [hF_87 22 (by omega)]; exact hm_29
    have hm_108 : M_83 23 = some (cMatcher ad qm pz) := by rw [hF_87 23 (by omega)]; exact hm_30
    have hm_109 : M_83 24 = some (aJ G 2160 sx) := by rw [hF_87 24 (by omega)]; exact hm_31
    have hm_110 : M_83 25 = some (aI G 6 (nF ft)) := by rw [hF_87 25 (by omega)]; exact hm_32
    have hm_111 : M_83 26 = some (aJ G 240 rx) := by rw [hF_87 26 (by omega)]; exact hm_33
    have hm_112 : M_83 27 = some (aJ G 3 dm) := by rw [hF_87 27 (by omega)]; exact hm_34
    have hm_113 : M_83 28 = some (aI G 3 rc) := by rw [hF_87 28 (by omega)]; exact hm_35
    have hm_114 : M_83 qa = some (cQuestion ad qa ao vr) := by rw [hF_87 qa (by omega)]; exact hm_36
    have hm_115 : M_83 (qa + 1) = some (aI G 6 (nF kn)) := by rw [hF_87 (qa + 1) (by omega)]; exact hm_37
    have hm_116 : M_83 (qa + 2) = some (aZ G 6 (bF nq)) := by rw [hF_87 (qa + 2) (by omega)]; exact hm_38
    have hm_117 : M_83 (qa + 3) = some (aI G 6 (nF pn)) := by rw [hF_87 (qa + 3) (by omega)]; exact hm_39
    have hm_118 : M_83 (qa + 4) = some (aI G 6 (nF av)) := by rw [hF_87 (qa + 4) (by omega)]; exact hm_40
    have hm_119 : M_83 (qa + 5) = some (aI G 24 (nF ro)) := by rw [hF_87 (qa + 5) (by omega)]; exact hm_41
    have hm_120 : M_83 (qa + 6) = some (aI G 24 (nF te)) := by rw [hF_87 (qa + 6) (by omega)]; exact hm_42
    have hm_121 : M_83 qs = some (cQuestion ad qs sq su) := by rw [hF_87 qs (by omega)]; exact hm_43
    have hm_122 : M_83 (qs + 1) = some (aI G 6 (nF kb)) := by rw [hF_87 (qs + 1) (by omega)]; exact hm_44
    have hm_123 : M_83 (qs + 2) = some (aZ G 6 (bF nb)) := by rw [hF_87 (qs + 2) (by omega)]; exact hm_45
    have hm_124 : M_83 (qs + 3) = some (aI G 6 (nF pb)) := by rw [hF_87 (qs + 3) (by omega)]; exact hm_46
    have hm_125 : M_83 (qs + 4) = some (aI G 6 (nF ab)) := by rw [hF_87 (qs + 4) (by omega)]; exact hm_47
    have hm_126 : M_83 (qs + 5) = some (aI G 24 (nF rbb)) := by rw [hF_87 (qs + 5) (by omega)]; exact hm_48
    have hm_127 : M_83 (qs + 6) = some (aI G 24 (nF tbb)) := by rw [hF_87 (qs + 6) (by omega)]; exact hm_49
    have hm_128 : M_83 61 = some (aI G 36 (nF le)) := by rw [hF_87 61 (by omega)]; exact hm_51
    have hm_129 : M_83 62 = some (aI G 36 (nF mo)) := by rw [hF_87 62 (by omega)]; exact hm_52
    have hm_130 : M_83 63 = some (aI G 36 (nF al)) := by rw [hF_87 63 (by omega)]; exact hm_53
    have hm_131 : M_83 64 = some (aZ G 6 (bF ho)) := by rw [hF_87 64 (by omega)]; exact hm_54
    have hm_132 : M_83 65 = some (aI G 120 (nF mk)) := by rw [hF_87 65 (by omega)]; exact hm_55
    have hm_133 : M_83 66 = some (aI G 120 mf) := by rw [hF_87 66 (by omega)]; exact hm_56
    have hm_134 : M_83 67 = some (aI G 120 mu) := by rw [hF_87 67 (by omega)]; exact hm_57
    have hm_135 : M_83 68 = some (aI G 121 (nF mz)) := by rw [hF_87 68 (by omega)]; exact hm_58
    have hm_136 : M_83 69 = some (aI G 726 (nF rr)) := by rw [hF_87 69 (by omega)]; exact hm_59
    have hm_137 : M_83 70 = some (aI G 726 (nF ee)) := by rw [hF_87 70 (by omega)]; exact hm_60
    have hm_138 : M_83 71 = some (aI G 40 (nF lst)) := by rw [hF_87 71 (by omega)]; exact hm_61
    have hm_139 : M_83 72 = some (aI G 40 (nF oa)) := by rw [hF_87 72 (by omega)]; exact hm_62
    have hm_140 : M_83 73 = some (aI G 40 (nF ob)) := by rw [hF_87 73 (by omega)]; exact hm_63
    have hm_141 : M_83 74 = some (aI G 120 s74) := by rw [hF_87 74 (by omega)]; exact hm_64
    have hm_142 : M_83 75 = some (aI G 12 ak) := by rw [hF_87 75 (by omega)]; exact hm_65
    have hm_143 : M_83 76 = some (aZ G 12 (bF nm)) := by rw [hF_87 76 (by omega)]; exact hm_66
    have hm_144 : M_83 77 = some (aI G 12 (nF ap)) := by rw [hF_87 77 (by omega)]; exact hm_67
    have hm_145 : M_83 78 = some (aI G 48 pr) := by rw [hF_87 78 (by omega)]; exact hm_68
    have hm_146 : M_83 79 = some (aI G 48 pf) := by rw [hF_87 79 (by omega)]; exact hm_69
    have hm_147 : M_83 80 = some (aB G 400 tf) := by rw [hF_87 80 (by omega)]; exact hm_70
    have hm_148 : M_83 81 = some (aI G 5 fv) := by rw [hF_87 81 (by omega)]; exact hm_71
    have hm_149 : M_83 82 = some (aZ G 384000 (bF tr)) := by rw [hF_87 82 (by omega)]; exact hm_72
    have hm_150 : M_83 83 = some (aI G 3 (oF gv)) := by rw [hF_87 83 (by omega)]; exact hm_73
    have hm_151 : M_83 84 = some (aI G 3 fo) := by rw [hF_87 84 (by omega)]; exact hm_74
    have hm_152 : M_83 85 = some (aZ G 40 (bF re)) := by rw [hF_87 85 (by omega)]; exact hm_75
    have hm_153 : M_83 86 = some (aZ G 120 (bF us)) := by rw [hF_87 86 (by omega)]; exact hm_76
    have hm_154 : M_83 87 = some (aZ G 120 (bF nx)) := by rw [hF_87 87 (by omega)]; exact hm_77
    have hm_155 : M_83 99 = some (aJ G 1 of) := by rw [hF_87 99 (by omega)]; exact hm_78
    have hm_156 : M_83 16 = some (cLines ad ) := by rw [hF_87 16 (by omega)]; exact hm_79
    have hL_157 : LSm G ad M_83 n kd fm to sz rl en := hL_80.keep (fun j hj => hF_87 j (by omega))
    have hF_158 : ∀ j : Nat, j ≠ 60 → M_83 j = M j := fun j q0 => (hF_87 j q0).trans (hF_9 j )
    refine lv_aload_n hx hb dL_law_352 rfl (lv_at hl 3 rfl) ?_
    refine k_Ri (va_runV (As := []) (rest := []) ⟨hx, hb, hml, hown, hts⟩ (c_X10_thrown l G z ad M_83 (th := 1) (ln := n) (on := jn) (ao := ao) (vr := vr) (sn := sn) (tp := len) (pt := pt) (zs := zs) (bg := bg) (fa := fw) hm_86) (cwV 0 hts (gV (lwg_of t_997 rfl) (lwg_of t_998 rfl) (lwg_of t_999 rfl) (lwg_of t_13 rfl) (lwg_of t_1000 rfl)) rfl rfl rfl (by decide +kernel) ⟨Nat.le_of_ble_eq_true rfl, Nat.le_of_ble_eq_true rfl⟩) (hI.preV hm_86 rfl) rfl rfl hl.1 rfl (lv_room (Nat.le_of_ble_eq_true rfl)) dL_law_353 ⟨(show _ ≤ (601024 : Nat) from by omega), (show _ ≤ (7293034 : Nat) from by omega)⟩) (fun _ h => h) (fun r_159 hp_160 => ?_)
    rw [hp_160]
    refine lv_iload hx hb dL_law_356 (lv_at hl 0 rfl) ?_
    refine lv_icmp_eq (tgt := 363) hx hb dL_law_358 (by decide) (fun c_161 => ?_) (fun c_161 => ?_)
    · -- 358: nI 1 eq
      refine lv_goto (tgt := 1333) hx hb dL_law_363 (by decide) ?_
      refine W.widen (k := cz + 10) (n := sy + 300) (by omega) (by omega) ?_
      exact kk ad M_83 H_84 locs_85 ls n kd fm to sz rl en qa qs fw len tb le mo al ho jn hg lst jd s0 r0 th ol e0 mm9 ff lq ra rb rt rv qm pz sx ft rx dm rc ao vr kn nq pn av ro te sq su kb nb pb ab rbb tbb 1 sn pt zs bg mk mf mu mz rr ee oa ob s74 ak nm ap pr pf tf fv tr gv fo re us nx of hL_157 w1 w2 w3 w4 w5 w6 w7 w8 w9 w10 w11 w12 w13 w14 w15 w16 w17 w18 w19 w20 w21 w22 w23 w24 w25 w26 w27 w28 w29 (fun h9 => by rw [hF_158 17 (by omega), hF_158 18 (by omega)]; exact w30 h9) (by rw [hF_158 29 (by omega)]; exact w31) (fun j9 h9 => by rw [hF_158 j9 (by omega)]; exact w32 j9 h9) hm_88 hm_89 hm_90 hm_91 hm_92 hm_93 hm_94 hm_95 hm_96 hm_97 hm_98 hm_99 hm_100 hm_101 hm_102 hm_103 hm_104 hm_105 hm_106 hm_107 hm_108 hm_109 hm_110 hm_111 hm_112 hm_113 hm_114 hm_115 hm_116 hm_117 hm_118 hm_119 hm_120 hm_121 hm_122 hm_123 hm_124 hm_125 hm_126 hm_127 hm_86 hm_128 hm_129 hm_130 hm_131 hm_132 hm_133 hm_134 hm_135 hm_136 hm_137 hm_138 hm_139 hm_140 hm_141 hm_142 hm_143 hm_144 hm_145 hm_146 hm_147 hm_148 hm_149 hm_150 hm_151 hm_152 hm_153 hm_154 hm_155 hI (lv_sub hl [1, 2, 3, 4, 5] rfl)
    · -- 358: nI 1 ne
      exact absurd (by decide) c_161
  · skip
    refine lv_aload_n hx hb dL_law_306 rfl (lv_at hl 1 rfl) ?_
    obtain ⟨t1, ht1, et1⟩ := hc_2
    rcases (in_or 6 (xs (i + 2)) (by omega) : (xs (i + 2) < 0 ∨ ¬ xs (i + 2) < nI 6) ∨ (∃ t : Nat, t < 6 ∧ xs (i + 2) = nI t)) with hc_162 | hc_163
    · skip
      refine lv_aload_n hx hb dL_law_307 rfl (lv_at hl 0 rfl) ?_
      refine lv_iload hx hb dL_law_308 (lv_at hl 4 rfl) ?_
      refine lv_iconst (v := nI 1) hx hb dL_law_310 (by decide) ?_
      refine lv_iadd hx hb dL_law_311 ?_
      refine n_eq (nI_add i 1) ?_
      refine va_sld (A := fr z) hx hb hX hbl hbz hI.S (vp_in_nI (n := i + 1) (by omega) (by omega)) dL_law_312 ?_
      rw [nI_clamp (by omega)]
      refine n_eq (show _ = nI t1 from et1) ?_
      refine lv_aload_n hx hb dL_law_313 rfl (lv_at hl 0 rfl) ?_
      refine lv_iload hx hb dL_law_314 (lv_at hl 4 rfl) ?_
      refine lv_iconst (v := nI 2) hx hb dL_law_316 (by decide) ?_
      refine lv_iadd hx hb dL_law_317 ?_
      refine n_eq (nI_add i 2) ?_
      refine va_sld (A := fr z) hx hb hX hbl hbz hI.S (vp_in_nI (n := i + 2) (by omega) (by omega)) dL_law_318 ?_
      rw [nI_clamp (by omega)]
      refine lv_aload_n hx hb dL_law_319 rfl (lv_at hl 0 rfl) ?_
      refine lv_iload hx hb dL_law_320 (lv_at hl 4 rfl) ?_
      refine lv_iconst (v := nI 3) hx hb dL_law_322 (by decide) ?_
      refine lv_iadd hx hb dL_law_323 ?_
      refine n_eq (nI_add i 3) ?_
      refine va_sld (A := fr z) hx hb hX hbl hbz hI.S (vp_in_nI (n := i + 3) (by omega) (by omega)) dL_law_324 ?_
      rw [nI_clamp (by omega)]
      refine k_Ni (vx_runSW (As := [.ref (ad 0), .int (nI t1), .int (xs (i + 2)), .int (xs (i + 3))]) (rest := []) ⟨hx, hb, hml, hown, hts⟩ (c_L_alone_b l hst G z ad M (qa := qa) (qs := qs) (fw := fw) (kd := t1) (x1 := xs (i + 2)) (x2 := xs (i + 3)) f_0 ht1 hc_162) (vx_cwSW 4 hts (gSW (lwg_of t_573 rfl) (lwg_of t_574 rfl) (lwg_of t_0 rfl) (lwg_of t_575 rfl)) rfl rfl rfl (by decide +kernel) ⟨Nat.le_of_ble_eq_true rfl, Nat.le_of_ble_eq_true rfl⟩) hI.preS rfl rfl hl.1 rfl (lv_room (Nat.le_of_ble_eq_true rfl)) dL_law_325 ⟨(show _ ≤ (601024 : Nat) from by omega), (show _ ≤ (7293034 : Nat) from by omega)⟩) hI (fun r_164 M_166 H_167 locs_168 hp_165 hI => ?_)
      obtain ⟨hr_169, hF_170⟩ := hp_165
      have hm_171 : M_166 0 = some (cStore ad qa qs fw) := by rw [hF_170 0 ]; exact f_0
      have hm_172 : M_166 1 = some (cTape ad len) := by rw [hF_170 1 ]; exact f_1
      have hm_173 : M_166 2 = some (aI G 400 (nF tb)) := by rw [hF_170 2 ]; exact f_2
      have hm_174 : M_166 3 = some (cLaws ad ) := by rw [hF_170 3 ]; exact f_3
      have hm_175 : M_166 4 = some (aI G 36 (nF le)) := by rw [hF_170 4 ]; exact f_4
      have hm_176 : M_166 5 = some (aI G 36 (nF mo)) := by rw [hF_170 5 ]; exact f_5
      have hm_177 : M_166 6 = some (aI G 36 (nF al)) := by rw [hF_170 6 ]; exact f_6
      have hm_178 : M_166 7 = some (aZ G 6 (bF ho)) := by rw [hF_170 7 ]; exact f_7
      have hm_179 : M_166 8 = some (cOnes ad jn) := by rw [hF_170 8 ]; exact f_8
      have hm_180 : M_166 9 = some (aI G 40 (nF hg)) := by rw [hF_170 9 ]; exact f_9
      have hm_181 : M_166 10 = some (aI G 40 (nF lst)) := by rw [hF_170 10 ]; exact f_10
      have hm_182 : M_166 11 = some (aI G 40 (nF jd)) := by rw [hF_170 11 ]; exact f_11
      have hm_183 : M_166 12 = some (cEnds ad 12 s0) := by rw [hF_170 12 ]; exact f_12
      have hm_184 : M_166 13 = some (aI G 6 (nF r0)) := by rw [hF_170 13 ]; exact f_13
      have hm_185 : M_166 14 = some (aI G 6 (oF th)) := by rw [hF_170 14 ]; exact f_14
      have hm_186 : M_166 15 = some (aI G 6 (oF ol)) := by rw [hF_170 15 ]; exact f_15
      have hm_187 : M_166 19 = some (aZ G 120 (bF mm9)) := by rw [hF_170 19 ]; exact f_19
      have hm_188 : M_166 20 = some (aI G 120 ff) := by rw [hF_170 20 ]; exact f_20
      have hm_189 : M_166 21 = some (aI G 120 lq) := by rw [hF_170 21 ]; exact f_21
      have hm_190 : M_166 22 = some (cReader ad ra rb rt rv) := by rw [hF_170 22 ]; exact f_22
      have hm_191 : M_166 23 = some (cMatcher ad qm pz) := by rw [hF_170 23 ]; exact f_23
      have hm_192 : M_166 24 = some (aJ G 2160 sx) := by rw [hF_170 24 ]; exact f_24
      have hm_193 : M_166 25 = some (aI G 6 (nF ft)) := by rw [hF_170 25 ]; exact f_25
      have hm_194 : M_166 26 = some (aJ G 240 rx) := by rw [hF_170 26 ]; exact f_26
      have hm_195 : M_166 27 = some (aJ G 3 dm) := by rw [hF_170 27 ]; exact f_27
      have hm_196 : M_166 28 = some (aI G 3 rc) := by rw [hF_170 28 ]; exact f_28
      have hm_197 : M_166 qa = some (cQuestion ad qa ao vr) := by rw [hF_170 qa ]; exact f_qa
      have hm_198 : M_166 (qa + 1) = some (aI G 6 (nF kn)) := by rw [hF_170 (qa + 1) ]; exact f_qa_1
      have hm_199 : M_166 (qa + 2) = some (aZ G 6 (bF nq)) := by rw [hF_170 (qa + 2) ]; exact f_qa_2
      have hm_200 : M_166 (qa + 3) = some (aI G 6 (nF pn)) := by rw [hF_170 (qa + 3) ]; exact f_qa_3
      have hm_201 : M_166 (qa + 4) = some (aI G 6 (nF av)) := by rw [hF_170 (qa + 4) ]; exact f_qa_4
      have hm_202 : M_166 (qa + 5) = some (aI G 24 (nF ro)) := by rw [hF_170 (qa + 5) ]; exact f_qa_5
      have hm_203 : M_166 (qa + 6) = some (aI G 24 (nF te)) := by rw [hF_170 (qa + 6) ]; exact f_qa_6
      have hm_204 : M_166 qs = some (cQuestion ad qs sq su) := by rw [hF_170 qs ]; exact f_qs
      have hm_205 : M_166 (qs + 1) = some (aI G 6 (nF kb)) := by rw [hF_170 (qs + 1) ]; exact f_qs_1
      have hm_206 : M_166 (qs + 2) = some (aZ G 6 (bF nb)) := by rw [hF_170 (qs + 2) ]; exact f_qs_2
      have hm_207 : M_166 (qs + 3) = some (aI G 6 (nF pb)) := by rw [hF_170 (qs + 3) ]; exact f_qs_3
      have hm_208 : M_166 (qs + 4) = some (aI G 6 (nF ab)) := by rw [hF_170 (qs + 4) ]; exact f_qs_4
      have hm_209 : M_166 (qs + 5) = some (aI G 24 (nF rbb)) := by rw [hF_170 (qs + 5) ]; exact f_qs_5
      have hm_210 : M_166 (qs + 6) = some (aI G 24 (nF tbb)) := by rw [hF_170 (qs + 6) ]; exact f_qs_6
      have hm_211 : M_166 60 = some (cModel ad tw n jn ao vr sn len pt zs bg fw) := by rw [hF_170 60 ]; exact f_60
      have hm_212 : M_166 61 = some (aI G 36 (nF le)) := by rw [hF_170 61 ]; exact f_61
      have hm_213 : M_166 62 = some (aI G 36 (nF mo)) := by rw [hF_170 62 ]; exact f_62
      have hm_214 : M_166 63 = some (aI G 36 (nF al)) := by rw [hF_170 63 ]; exact f_63
      have hm_215 : M_166 64 = some (aZ G 6 (bF ho)) := by rw [hF_170 64 ]; exact f_64
      have hm_216 : M_166 65 = some (aI G 120 (nF mk)) := by rw [hF_170 65 ]; exact f_65
      have hm_217 : M_166 66 = some (aI G 120 mf) := by rw [hF_170 66 ]; exact f_66
      have hm_218 : M_166 67 = some (aI G 120 mu) := by rw [hF_170 67 ]; exact f_67
      have hm_219 : M_166 68 = some (aI G 121 (nF mz)) := by rw [hF_170 68 ]; exact f_68
      have hm_220 : M_166 69 = some (aI G 726 (nF rr)) := by rw [hF_170 69 ]; exact f_69
      have hm_221 : M_166 70 = some (aI G 726 (nF ee)) := by rw [hF_170 70 ]; exact f_70
      have hm_222 : M_166 71 = some (aI G 40 (nF lst)) := by rw [hF_170 71 ]; exact f_71
      have hm_223 : M_166 72 = some (aI G 40 (nF oa)) := by rw [hF_170 72 ]; exact f_72
      have hm_224 : M_166 73 = some (aI G 40 (nF ob)) := by rw [hF_170 73 ]; exact f_73
      have hm_225 : M_166 74 = some (aI G 120 s74) := by rw [hF_170 74 ]; exact f_74
      have hm_226 : M_166 75 = some (aI G 12 ak) := by rw [hF_170 75 ]; exact f_75
      have hm_227 : M_166 76 = some (aZ G 12 (bF nm)) := by rw [hF_170 76 ]; exact f_76
      have hm_228 : M_166 77 = some (aI G 12 (nF ap)) := by rw [hF_170 77 ]; exact f_77
      have hm_229 : M_166 78 = some (aI G 48 pr) := by rw [hF_170 78 ]; exact f_78
      have hm_230 : M_166 79 = some (aI G 48 pf) := by rw [hF_170 79 ]; exact f_79
      have hm_231 : M_166 80 = some (aB G 400 tf) := by rw [hF_170 80 ]; exact f_80
      have hm_232 : M_166 81 = some (aI G 5 fv) := by rw [hF_170 81 ]; exact f_81
      have hm_233 : M_166 82 = some (aZ G 384000 (bF tr)) := by rw [hF_170 82 ]; exact f_82
      have hm_234 : M_166 83 = some (aI G 3 (oF gv)) := by rw [hF_170 83 ]; exact f_83
      have hm_235 : M_166 84 = some (aI G 3 fo) := by rw [hF_170 84 ]; exact f_84
      have hm_236 : M_166 85 = some (aZ G 40 (bF re)) := by rw [hF_170 85 ]; exact f_85
      have hm_237 : M_166 86 = some (aZ G 120 (bF us)) := by rw [hF_170 86 ]; exact f_86
      have hm_238 : M_166 87 = some (aZ G 120 (bF nx)) := by rw [hF_170 87 ]; exact f_87
      have hm_239 : M_166 99 = some (aJ G 1 of) := by rw [hF_170 99 ]; exact f_99
      have hm_240 : M_166 16 = some (cLines ad ) := by rw [hF_170 16 ]; exact h16
      have hL_241 : LSm G ad M_166 n kd fm to sz rl en := fL.keep (fun j hj => hF_170 j )
      rw [hr_169]
      refine lv_istore (lv' := [(5, .int (nI 1)), (0, .ref b), (1, .ref (ad 0)), (2, .ref (ad 60)), (3, .ref (ad 99)), (4, .int (nI i))]) hx hb dL_law_328 hl (by decide) rfl (fun ls hl => ?_)
      refine lv_aload_n hx hb dL_law_330 rfl (lv_at hl 3 rfl) ?_
      refine lv_aload_n hx hb dL_law_331 rfl (lv_at hl 1 rfl) ?_
      refine lv_iload hx hb dL_law_332 (lv_at hl 5 rfl) ?_
      refine lv_iconst (v := nI 1) hx hb dL_law_334 (by decide) ?_
      refine lv_iadd hx hb dL_law_335 ?_
      refine n_eq (nI_add i 1) ?_
      refine va_sld (A := fr z) hx hb hX hbl hbz hI.S (vp_in_nI (n := i + 1) (by omega) (by omega)) dL_law_336 ?_
      rw [nI_clamp (by omega)]
      refine n_eq (show _ = nI t1 from et1) ?_
      refine lv_aload_n hx hb dL_law_337 rfl (lv_at hl 1 rfl) ?_
      refine lv_iload hx hb dL_law_338 (lv_at hl 5 rfl) ?_
      refine lv_iconst (v := nI 2) hx hb dL_law_340 (by decide) ?_
      refine lv_iadd hx hb dL_law_341 ?_
      refine n_eq (nI_add i 2) ?_
      refine va_sld (A := fr z) hx hb hX hbl hbz hI.S (vp_in_nI (n := i + 2) (by omega) (by omega)) dL_law_342 ?_
      rw [nI_clamp (by omega)]
      refine lv_aload_n hx hb dL_law_343 rfl (lv_at hl 1 rfl) ?_
      refine lv_iload hx hb dL_law_344 (lv_at hl 5 rfl) ?_
      refine lv_iconst (v := nI 3) hx hb dL_law_346 (by decide) ?_
      refine lv_iadd hx hb dL_law_347 ?_
      refine n_eq (nI_add i 3) ?_
      refine va_sld (A := fr z) hx hb hX hbl hbz hI.S (vp_in_nI (n := i + 3) (by omega) (by omega)) dL_law_348 ?_
      rw [nI_clamp (by omega)]
      refine k_Nv (va_runV (As := [.int (nI t1), .int (xs (i + 2)), .int (xs (i + 3))]) (rest := []) ⟨hx, hb, hml, hown, hts⟩ (c_X10_alone_b l G z ad M_166 (th := tw) (ln := n) (on := jn) (ao := ao) (vr := vr) (sn := sn) (tp := len) (pt := pt) (zs := zs) (bg := bg) (fa := fw) (kd := t1) (x1 := xs (i + 2)) (x2 := xs (i + 3)) hm_211 ht1 hc_162) (cwV 3 hts (gV (lwg_of t_1145 rfl) (lwg_of t_1146 rfl) (lwg_of t_1147 rfl) (lwg_of t_13 rfl) (lwg_of t_1148 rfl)) rfl rfl rfl (by decide +kernel) ⟨Nat.le_of_ble_eq_true rfl, Nat.le_of_ble_eq_true rfl⟩) (hI.preV hm_211 rfl) rfl rfl hl.1 rfl (lv_room (Nat.le_of_ble_eq_true rfl)) dL_law_349 ⟨(show _ ≤ (601024 : Nat) from by omega), (show _ ≤ (7293034 : Nat) from by omega)⟩) hI (fun M_244 H_245 locs_246 hp_243 hI => ?_)
      obtain ⟨hm_247, hF_248⟩ := hp_243
      have hm_249 : M_244 0 = some (cStore ad qa qs fw) := by rw [hF_248 0 (by omega)]; exact hm_171
      have hm_250 : M_244 1 = some (cTape ad len) := by rw [hF_248 1 (by omega)]; exact hm_172
      have hm_251 : M_244 2 = some (aI G 400 (nF tb)) := by rw [hF_248 2 (by omega)]; exact hm_173
      have hm_252 : M_244 3 = some (cLaws ad ) := by rw [hF_248 3 (by omega)]; exact hm_174
      have hm_253 : M_244 4 = some (aI G 36 (nF le)) := by rw [hF_248 4 (by omega)]; exact hm_175
      have hm_254 : M_244 5 = some (aI G 36 (nF mo)) := by rw [hF_248 5 (by omega)]; exact hm_176
      have hm_255 : M_244 6 = some (aI G 36 (nF al)) := by rw [hF_248 6 (by omega)]; exact hm_177
      have hm_256 : M_244 7 = some (aZ G 6 (bF ho)) := by rw [hF_248 7 (by omega)]; exact hm_178
      have hm_257 : M_244 8 = some (cOnes ad jn) := by rw [hF_248 8 (by omega)]; exact hm_179
      have hm_258 : M_244 9 = some (aI G 40 (nF hg)) := by rw [hF_248 9 (by omega)]; exact hm_180
      have hm_259 : M_244 10 = some (aI G 40 (nF lst)) := by rw [hF_248 10 (by omega)]; exact hm_181
      have hm_260 : M_244 11 = some (aI G 40 (nF jd)) := by rw [hF_248 11 (by omega)]; exact hm_182
      have hm_261 : M_244 12 = some (cEnds ad 12 s0) := by rw [hF_248 12 (by omega)]; exact hm_183
      have hm_262 : M_244 13 = some (aI G 6 (nF r0)) := by rw [hF_248 13 (by omega)]; exact hm_184
      have hm_263 : M_244 14 = some (aI G 6 (oF th)) := by rw [hF_248 14 (by omega)]; exact hm_185
      have hm_264 : M_244 15 = some (aI G 6 (oF ol)) := by rw [hF_248 15 (by omega)]; exact hm_186
      have hm_265 : M_244 19 = some (aZ G 120 (bF mm9)) := by rw [hF_248 19 (by omega)]; exact hm_187
      have hm_266 : M_244 20 = some (aI G 120 ff) := by rw [hF_248 20 (by omega)]; exact hm_188
      have hm_267 : M_244 21 = some (aI G 120 lq) := by rw [hF_248 21 (by omega)]; exact hm_189
      have hm_268 : M_244 22 = some (cReader ad ra rb rt rv) := by rw [hF_248 22 (by omega)]; exact hm_190
      have hm_269 : M_244 23 = some (cMatcher ad qm pz) := by rw [hF_248 23 (by omega)]; exact hm_191
      have hm_270 : M_244 24 = some (aJ G 2160 sx) := by rw [hF_248 24 (by omega)]; exact hm_192
      have hm_271 : M_244 25 = some (aI G 6 (nF ft)) := by rw [hF_248 25 (by omega)]; exact hm_193
      have hm_272 : M_244 26 = some (aJ G 240 rx) := by rw [hF_248 26 (by omega)]; exact hm_194
      have hm_273 : M_244 27 = some (aJ G 3 dm) := by rw [hF_248 27 (by omega)]; exact hm_195
      have hm_274 : M_244 28 = some (aI G 3 rc) := by rw [hF_248 28 (by omega)]; exact hm_196
      have hm_275 : M_244 qa = some (cQuestion ad qa ao vr) := by rw [hF_248 qa (by omega)]; exact hm_197
      have hm_276 : M_244 (qa + 1) = some (aI G 6 (nF kn)) := by rw [hF_248 (qa + 1) (by omega)]; exact hm_198
      have hm_277 : M_244 (qa + 2) = some (aZ G 6 (bF nq)) := by rw [hF_248 (qa + 2) (by omega)]; exact hm_199
      have hm_278 : M_244 (qa + 3) = some (aI G 6 (nF pn)) := by rw [hF_248 (qa + 3) (by omega)]; exact hm_200
      have hm_279 : M_244 (qa + 4) = some (aI G 6 (nF av)) := by rw [hF_248 (qa + 4) (by omega)]; exact hm_201
      have hm_280 : M_244 (qa + 5) = some (aI G 24 (nF ro)) := by rw [hF_248 (qa + 5) (by omega)]; exact hm_202
      have hm_281 : M_244 (qa + 6) = some (aI G 24 (nF te)) := by rw [hF_248 (qa + 6) (by omega)]; exact hm_203
      have hm_282 : M_244 qs = some (cQuestion ad qs sq su) := by rw [hF_248 qs (by omega)]; exact hm_204
      have hm_283 : M_244 (qs + 1) = some (aI G 6 (nF kb)) := by rw [hF_248 (qs + 1) (by omega)]; exact hm_205
      have hm_284 : M_244 (qs + 2) = some (aZ G 6 (bF nb)) := by rw [hF_248 (qs + 2) (by omega)]; exact hm_206
      have hm_285 : M_244 (qs + 3) = some (aI G 6 (nF pb)) := by rw [hF_248 (qs + 3) (by omega)]; exact hm_207
      have hm_286 : M_244 (qs + 4) = some (aI G 6 (nF ab)) := by rw [hF_248 (qs + 4) (by omega)]; exact hm_208
      have hm_287 : M_244 (qs + 5) = some (aI G 24 (nF rbb)) := by rw [hF_248 (qs + 5) (by omega)]; exact hm_209
      have hm_288 : M_244 (qs + 6) = some (aI G 24 (nF tbb)) := by rw [hF_248 (qs + 6) (by omega)]; exact hm_210
      have hm_289 : M_244 61 = some (aI G 36 (nF le)) := by rw [hF_248 61 (by omega)]; exact hm_212
      have hm_290 : M_244 62 = some (aI G 36 (nF mo)) := by rw [hF_248 62 (by omega)]; exact hm_213
      have hm_291 : M_244 63 = some (aI G 36 (nF al)) := by rw [hF_248 63 (by omega)]; exact hm_214
      have hm_292 : M_244 64 = some (aZ G 6 (bF ho)) := by rw [hF_248 64 (by omega)]; exact hm_215
      have hm_293 : M_244 65 = some (aI G 120 (nF mk)) := by rw [hF_248 65 (by omega)]; exact hm_216
      have hm_294 : M_244 66 = some (aI G 120 mf) := by rw [hF_248 66 (by omega)]; exact hm_217
      have hm_295 : M_244 67 = some (aI G 120 mu) := by rw [hF_248 67 (by omega)]; exact hm_218
      have hm_296 : M_244 68 = some (aI G 121 (nF mz)) := by rw [hF_248 68 (by omega)]; exact hm_219
      have hm_297 : M_244 69 = some (aI G 726 (nF rr)) := by rw [hF_248 69 (by omega)]; exact hm_220
      have hm_298 : M_244 70 = some (aI G 726 (nF ee)) := by rw [hF_248 70 (by omega)]; exact hm_221
      have hm_299 : M_244 71 = some (aI G 40 (nF lst)) := by rw [hF_248 71 (by omega)]; exact hm_222
      have hm_300 : M_244 72 = some (aI G 40 (nF oa)) := by rw [hF_248 72 (by omega)]; exact hm_223
      have hm_301 : M_244 73 = some (aI G 40 (nF ob)) := by rw [hF_248 73 (by omega)]; exact hm_224
      have hm_302 : M_244 74 = some (aI G 120 s74) := by rw [hF_248 74 (by omega)]; exact hm_225
      have hm_303 : M_244 75 = some (aI G 12 ak) := by rw [hF_248 75 (by omega)]; exact hm_226
      have hm_304 : M_244 76 = some (aZ G 12 (bF nm)) := by rw [hF_248 76 (by omega)]; exact hm_227
      have hm_305 : M_244 77 = some (aI G 12 (nF ap)) := by rw [hF_248 77 (by omega)]; exact hm_228
      have hm_306 : M_244 78 = some (aI G 48 pr) := by rw [hF_248 78 (by omega)]; exact hm_229
      have hm_307 : M_244 79 = some (aI G 48 pf) := by rw [hF_248 79 (by omega)]; exact hm_230
      have hm_308 : M_244 80 = some (aB G 400 tf) := by rw [hF_248 80 (by omega)]; exact hm_231
      have hm_309 : M_244 81 = some (aI G 5 fv) := by rw [hF_248 81 (by omega)]; exact hm_232
      have hm_310 : M_244 82 = some (aZ G 384000 (bF tr)) := by rw [hF_248 82 (by omega)]; exact hm_233
      have hm_311 : M_244 83 = some (aI G 3 (oF gv)) := by rw [hF_248 83 (by omega)]; exact hm_234
      have hm_312 : M_244 84 = some (aI G 3 fo) := by rw [hF_248 84 (by omega)]; exact hm_235
      have hm_313 : M_244 85 = some (aZ G 40 (bF re)) := by rw [hF_248 85 (by omega)]; exact hm_236
      have hm_314 : M_244 86 = some (aZ G 120 (bF us)) := by rw [hF_248 86 (by omega)]; exact hm_237
      have hm_315 : M_244 87 = some (aZ G 120 (bF nx)) := by rw [hF_248 87 (by omega)]; exact hm_238
      have hm_316 : M_244 99 = some (aJ G 1 of) := by rw [hF_248 99 (by omega)]; exact hm_239
      have hm_317 : M_244 16 = some (cLines ad ) := by rw [hF_248 16 (by omega)]; exact hm_240
      have hL_318 : LSm G ad M_244 n kd fm to sz rl en := hL_241.keep (fun j hj => hF_248 j (by omega))
      have hF_319 : ∀ j : Nat, j ≠ 60 → M_244 j = M j := fun j q0 => (hF_248 j q0).trans (hF_170 j )
      refine lv_aload_n hx hb dL_law_352 rfl (lv_at hl 3 rfl) ?_
      refine k_Ri (va_runV (As := []) (rest := []) ⟨hx, hb, hml, hown, hts⟩ (c_X10_thrown l G z ad M_244 (th := 1) (ln := n) (on := jn) (ao := ao) (vr := vr) (sn := sn) (tp := len) (pt := pt) (zs := zs) (bg := bg) (fa := fw) hm_247) (cwV 0 hts (gV (lwg_of t_997 rfl) (lwg_of t_998 rfl) (lwg_of t_999 rfl) (lwg_of t_13 rfl) (lwg_of t_1000 rfl)) rfl rfl rfl (by decide +kernel) ⟨Nat.le_of_ble_eq_true rfl, Nat.le_of_ble_eq_true rfl⟩) (hI.preV hm_247 rfl) rfl rfl hl.1 rfl (lv_room (Nat.le_of_ble_eq_true rfl)) dL_law_353 ⟨(show _ ≤ (601024 : Nat) from by omega), (show _ ≤ (7293034 : Nat) from by omega)⟩) (fun _ h => h) (fun r_320 hp_321 => ?_)
      rw [hp_321]
      refine lv_iload hx hb dL_law_356 (lv_at hl 0 rfl) ?_
      refine lv_icmp_eq (tgt := 363) hx hb dL_law_358 (by decide) (fun c_322 => ?_) (fun c_322 => ?_)
      · -- 358: nI 1 eq
        refine lv_goto (tgt := 1333) hx hb dL_law_363 (by decide) ?_
        refine W.widen (k := cz + 10) (n := sy + 300) (by omega) (by omega) ?_
        exact kk ad M_244 H_245 locs_246 ls n kd fm to sz rl en qa qs fw len tb le mo al ho jn hg lst jd s0 r0 th ol e0 mm9 ff lq ra rb rt rv qm pz sx ft rx dm rc ao vr kn nq pn av ro te sq su kb nb pb ab rbb tbb 1 sn pt zs bg mk mf mu mz rr ee oa ob s74 ak nm ap pr pf tf fv tr gv fo re us nx of hL_318 w1 w2 w3 w4 w5 w6 w7 w8 w9 w10 w11 w12 w13 w14 w15 w16 w17 w18 w19 w20 w21 w22 w23 w24 w25 w26 w27 w28 w29 (fun h9 => by rw [hF_319 17 (by omega), hF_319 18 (by omega)]; exact w30 h9) (by rw [hF_319 29 (by omega)]; exact w31) (fun j9 h9 => by rw [hF_319 j9 (by omega)]; exact w32 j9 h9) hm_249 hm_250 hm_251 hm_252 hm_253 hm_254 hm_255 hm_256 hm_257 hm_258 hm_259 hm_260 hm_261 hm_262 hm_263 hm_264 hm_265 hm_266 hm_267 hm_268 hm_269 hm_270 hm_271 hm_272 hm_273 hm_274 hm_275 hm_276 hm_277 hm_278 hm_279 hm_280 hm_281 hm_282 hm_283 hm_284 hm_285 hm_286 hm_287 hm_288 hm_247 hm_289 hm_290 hm_291 hm_292 hm_293 hm_294 hm_295 hm_296 hm_297 hm_298 hm_299 hm_300 hm_301 hm_302 hm_303 hm_304 hm_305 hm_306 hm_307 hm_308 hm_309 hm_310 hm_311 hm_312 hm_313 hm_314 hm_315 hm_316 hI (lv_sub hl [1, 2, 3, 4, 5] rfl)
      · -- 358: nI 1 ne
        exact absurd (by decide) c_322
    · skip
      refine lv_aload_n hx hb dL_law_307 rfl (lv_at hl 0 rfl) ?_
      obtain ⟨t2, ht2, et2⟩ := hc_163
      rcases (in_or 101 (xs (i + 3)) (by omega) : (xs (i + 3) < 0 ∨ ¬ xs (i + 3) < nI 101) ∨ (∃ t : Nat, t < 101 ∧ xs (i + 3) = nI t)) with hc_323 | hc_324
      · skip
        refine lv_iload hx hb dL_law_308 (lv_at hl 4 rfl) ?_
        refine lv_iconst (v := nI 1) hx hb dL_law_310 (by decide) ?_
        refine lv_iadd hx hb dL_law_311 ?_
        refine n_eq (nI_add i 1) ?_
        refine va_sld (A := fr z) hx hb hX hbl hbz hI.S (vp_in_nI (n := i + 1) (by omega) (by omega)) dL_law_312 ?_
        rw [nI_clamp (by omega)]
        refine n_eq (show _ = nI t1 from et1) ?_
        refine lv_aload_n hx hb dL_law_313 rfl (lv_at hl 0 rfl) ?_
        refine lv_iload hx hb dL_law_314 (lv_at hl 4 rfl) ?_
        refine lv_iconst (v := nI 2) hx hb dL_law_316 (by decide) ?_
        refine lv_iadd hx hb dL_law_317 ?_
        refine n_eq (nI_add i 2) ?_
        refine va_sld (A := fr z) hx hb hX hbl hbz hI.S (vp_in_nI (n := i + 2) (by omega) (by omega)) dL_law_318 ?_
        rw [nI_clamp (by omega)]
        refine n_eq (show _ = nI t2 from et2) ?_
        refine lv_aload_n hx hb dL_law_319 rfl (lv_at hl 0 rfl) ?_
        refine lv_iload hx hb dL_law_320 (lv_at hl 4 rfl) ?_
        refine lv_iconst (v := nI 3) hx hb dL_law_322 (by decide) ?_
        refine lv_iadd hx hb dL_law_323 ?_
        refine n_eq (nI_add i 3) ?_
        refine va_sld (A := fr z) hx hb hX hbl hbz hI.S (vp_in_nI (n := i + 3) (by omega) (by omega)) dL_law_324 ?_
        rw [nI_clamp (by omega)]
        refine k_Ni (vx_runSW (As := [.ref (ad 0), .int (nI t1), .int (nI t2), .int (xs (i + 3))]) (rest := []) ⟨hx, hb, hml, hown, hts⟩ (c_L_alone_c l hst G z ad M (qa := qa) (qs := qs) (fw := fw) (kd := t1) (ro := t2) (x2 := xs (i + 3)) f_0 ht1 ht2 (alo hc_323)) (vx_cwSW 4 hts (gSW (lwg_of t_573 rfl) (lwg_of t_574 rfl) (lwg_of t_0 rfl) (lwg_of t_575 rfl)) rfl rfl rfl (by decide +kernel) ⟨Nat.le_of_ble_eq_true rfl, Nat.le_of_ble_eq_true rfl⟩) hI.preS rfl rfl hl.1 rfl (lv_room (Nat.le_of_ble_eq_true rfl)) dL_law_325 ⟨(show _ ≤ (601024 : Nat) from by omega), (show _ ≤ (7293034 : Nat) from by omega)⟩) hI (fun r_325 M_327 H_328 locs_329 hp_326 hI => ?_)
        obtain ⟨hr_330, hF_331⟩ := hp_326
        have hm_332 : M_327 0 = some (cStore ad qa qs fw) := by rw [hF_331 0 ]; exact f_0
        have hm_333 : M_327 1 = some (cTape ad len) := by rw [hF_331 1 ]; exact f_1
        have hm_334 : M_327 2 = some (aI G 400 (nF tb)) := by rw [hF_331 2 ]; exact f_2
        have hm_335 : M_327 3 = some (cLaws ad ) := by rw [hF_331 3 ]; exact f_3
        have hm_336 : M_327 4 = some (aI G 36 (nF le)) := by rw [hF_331 4 ]; exact f_4
        have hm_337 : M_327 5 = some (aI G 36 (nF mo)) := by rw [hF_331 5 ]; exact f_5
        have hm_338 : M_327 6 = some (aI G 36 (nF al)) := by rw [hF_331 6 ]; exact f_6
        have hm_339 : M_327 7 = some (aZ G 6 (bF ho)) := by rw [hF_331 7 ]; exact f_7
        have hm_340 : M_327 8 = some (cOnes ad jn) := by rw [hF_331 8 ]; exact f_8
        have hm_341 : M_327 9 = some (aI G 40 (nF hg)) := by rw [hF_331 9 ]; exact f_9
        have hm_342 : M_327 10 = some (aI G 40 (nF lst)) := by rw [hF_331 10 ]; exact f_10
        have hm_343 : M_327 11 = some (aI G 40 (nF jd)) := by rw [hF_331 11 ]; exact f_11
        have hm_344 : M_327 12 = some (cEnds ad 12 s0) := by rw [hF_331 12 ]; exact f_12
        have hm_345 : M_327 13 = some (aI G 6 (nF r0)) := by rw [hF_331 13 ]; exact f_13
        have hm_346 : M_327 14 = some (aI G 6 (oF th)) := by rw [hF_331 14 ]; exact f_14
        have hm_347 : M_327 15 = some (aI G 6 (oF ol)) := by rw [hF_331 15 ]; exact f_15
        have hm_348 : M_327 19 = some (aZ G 120 (bF mm9)) := by rw [hF_331 19 ]; exact f_19
        have hm_349 : M_327 20 = some (aI G 120 ff) := by rw [hF_331 20 ]; exact f_20
        have hm_350 : M_327 21 = some (aI G 120 lq) := by rw [hF_331 21 ]; exact f_21
        have hm_351 : M_327 22 = some (cReader ad ra rb rt rv) := by rw [hF_331 22 ]; exact f_22
        have hm_352 : M_327 23 = some (cMatcher ad qm pz) := by rw [hF_331 23 ]; exact f_23
        have hm_353 : M_327 24 = some (aJ G 2160 sx) := by rw [hF_331 24 ]; exact f_24
        have hm_354 : M_327 25 = some (aI G 6 (nF ft)) := by rw [hF_331 25 ]; exact f_25
        have hm_355 : M_327 26 = some (aJ G 240 rx) := by rw [hF_331 26 ]; exact f_26
        have hm_356 : M_327 27 = some (aJ G 3 dm) := by rw [hF_331 27 ]; exact f_27
        have hm_357 : M_327 28 = some (aI G 3 rc) := by rw [hF_331 28 ]; exact f_28
        have hm_358 : M_327 qa = some (cQuestion ad qa ao vr) := by rw [hF_331 qa ]; exact f_qa
        have hm_359 : M_327 (qa + 1) = some (aI G 6 (nF kn)) := by rw [hF_331 (qa + 1) ]; exact f_qa_1
        have hm_360 : M_327 (qa + 2) = some (aZ G 6 (bF nq)) := by rw [hF_331 (qa + 2) ]; exact f_qa_2
        have hm_361 : M_327 (qa + 3) = some (aI G 6 (nF pn)) := by rw [hF_331 (qa + 3) ]; exact f_qa_3
        have hm_362 : M_327 (qa + 4) = some (aI G 6 (nF av)) := by rw [hF_331 (qa + 4) ]; exact f_qa_4
        have hm_363 : M_327 (qa + 5) = some (aI G 24 (nF ro)) := by rw [hF_331 (qa + 5) ]; exact f_qa_5
        have hm_364 : M_327 (qa + 6) = some (aI G 24 (nF te)) := by rw [hF_331 (qa + 6) ]; exact f_qa_6
        have hm_365 : M_327 qs = some (cQuestion ad qs sq su) := by rw [hF_331 qs ]; exact f_qs
        have hm_366 : M_327 (qs + 1) = some (aI G 6 (nF kb)) := by rw [hF_331 (qs + 1) ]; exact f_qs_1
        have hm_367 : M_327 (qs + 2) = some (aZ G 6 (bF nb)) := by rw [hF_331 (qs + 2) ]; exact f_qs_2
        have hm_368 : M_327 (qs + 3) = some (aI G 6 (nF pb)) := by rw [hF_331 (qs + 3) ]; exact f_qs_3
        have hm_369 : M_327 (qs + 4) = some (aI G 6 (nF ab)) := by rw [hF_331 (qs + 4) ]; exact f_qs_4
        have hm_370 : M_327 (qs + 5) = some (aI G 24 (nF rbb)) := by rw [hF_331 (qs + 5) ]; exact f_qs_5
        have hm_371 : M_327 (qs + 6) = some (aI G 24 (nF tbb)) := by rw [hF_331 (qs + 6) ]; exact f_qs_6
        have hm_372 : M_327 60 = some (cModel ad tw n jn ao vr sn len pt zs bg fw) := by rw [hF_331 60 ]; exact f_60
        have hm_373 : M_327 61 = some (aI G 36 (nF le)) := by rw [hF_331 61 ]; exact f_61
        have hm_374 : M_327 62 = some (aI G 36 (nF mo)) := by rw [hF_331 62 ]; exact f_62
        have hm_375 : M_327 63 = some (aI G 36 (nF al)) := by rw [hF_331 63 ]; exact f_63
        have hm_376 : M_327 64 = some (aZ G 6 (bF ho)) := by rw [hF_331 64 ]; exact f_64
        have hm_377 : M_327 65 = some (aI G 120 (nF mk)) := by rw [hF_331 65 ]; exact f_65
        have hm_378 : M_327 66 = some (aI G 120 mf) := by rw [hF_331 66 ]; exact f_66
        have hm_379 : M_327 67 = some (aI G 120 mu) := by rw [hF_331 67 ]; exact f_67
        have hm_380 : M_327 68 = some (aI G 121 (nF mz)) := by rw [hF_331 68 ]; exact f_68
        have hm_381 : M_327 69 = some (aI G 726 (nF rr)) := by rw [hF_331 69 ]; exact f_69
        have hm_382 : M_327 70 = some (aI G 726 (nF ee)) := by rw [hF_331 70 ]; exact f_70
        have hm_383 : M_327 71 = some (aI G 40 (nF lst)) := by rw [hF_331 71 ]; exact f_71
        have hm_384 : M_327 72 = some (aI G 40 (nF oa)) := by rw [hF_331 72 ]; exact f_72
        have hm_385 : M_327 73 = some (aI G 40 (nF ob)) := by rw [hF_331 73 ]; exact f_73
        have hm_386 : M_327 74 = some (aI G 120 s74) := by rw [hF_331 74 ]; exact f_74
        have hm_387 : M_327 75 = some (aI G 12 ak) := by rw [hF_331 75 ]; exact f_75
        have hm_388 : M_327 76 = some (aZ G 12 (bF nm)) := by rw [hF_331 76 ]; exact f_76
        have hm_389 : M_327 77 = some (aI G 12 (nF ap)) := by rw [hF_331 77 ]; exact f_77
        have hm_390 : M_327 78 = some (aI G 48 pr) := by rw [hF_331 78 ]; exact f_78
        have hm_391 : M_327 79 = some (aI G 48 pf) := by rw [hF_331 79 ]; exact f_79
        have hm_392 : M_327 80 = some (aB G 400 tf) := by rw [hF_331 80 ]; exact f_80
        have hm_393 : M_327 81 = some (aI G 5 fv) := by rw [hF_331 81 ]; exact f_81
        have hm_394 : M_327 82 = some (aZ G 384000 (bF tr)) := by rw [hF_331 82 ]; exact f_82
        have hm_395 : M_327 83 = some (aI G 3 (oF gv)) := by rw [hF_331 83 ]; exact f_83
        have hm_396 : M_327 84 = some (aI G 3 fo) := by rw [hF_331 84 ]; exact f_84
        have hm_397 : M_327 85 = some (aZ G 40 (bF re)) := by rw [hF_331 85 ]; exact f_85
        have hm_398 : M_327 86 = some (aZ G 120 (bF us)) := by rw [hF_331 86 ]; exact f_86
        have hm_399 : M_327 87 = some (aZ G 120 (bF nx)) := by rw [hF_331 87 ]; exact f_87
        have hm_400 : M_327 99 = some (aJ G 1 of) := by rw [hF_331 99 ]; exact f_99
        have hm_401 : M_327 16 = some (cLines ad ) := by rw [hF_331 16 ]; exact h16
        have hL_402 : LSm G ad M_327 n kd fm to sz rl en := fL.keep (fun j hj => hF_331 j )
        rw [hr_330]
        refine lv_istore (lv' := [(5, .int (nI 2)), (0, .ref b), (1, .ref (ad 0)), (2, .ref (ad 60)), (3, .ref (ad 99)), (4, .int (nI i))]) hx hb dL_law_328 hl (by decide) rfl (fun ls hl => ?_)
        refine lv_aload_n hx hb dL_law_330 rfl (lv_at hl 3 rfl) ?_
        refine lv_aload_n hx hb dL_law_331 rfl (lv_at hl 1 rfl) ?_
        refine lv_iload hx hb dL_law_332 (lv_at hl 5 rfl) ?_
        refine lv_iconst (v := nI 1) hx hb dL_law_334 (by decide) ?_
        refine lv_iadd hx hb dL_law_335 ?_
        refine n_eq (nI_add i 1) ?_
        refine va_sld (A := fr z) hx hb hX hbl hbz hI.S (vp_in_nI (n := i + 1) (by omega) (by omega)) dL_law_336 ?_
        rw [nI_clamp (by omega)]
        refine n_eq (show _ = nI t1 from et1) ?_
        refine lv_aload_n hx hb dL_law_337 rfl (lv_at hl 1 rfl) ?_
        refine lv_iload hx hb dL_law_338 (lv_at hl 5 rfl) ?_
        refine lv_iconst (v := nI 2) hx hb dL_law_340 (by decide) ?_
        refine lv_iadd hx hb dL_law_341 ?_
        refine n_eq (nI_add i 2) ?_
        refine va_sld (A := fr z) hx hb hX hbl hbz hI.S (vp_in_nI (n := i + 2) (by omega) (by omega)) dL_law_342 ?_
        rw [nI_clamp (by omega)]
        refine n_eq (show _ = nI t2 from et2) ?_
        refine lv_aload_n hx hb dL_law_343 rfl (lv_at hl 1 rfl) ?_
        refine lv_iload hx hb dL_law_344 (lv_at hl 5 rfl) ?_
        refine lv_iconst (v := nI 3) hx hb dL_law_346 (by decide) ?_
        refine lv_iadd hx hb dL_law_347 ?_
        refine n_eq (nI_add i 3) ?_
        refine va_sld (A := fr z) hx hb hX hbl hbz hI.S (vp_in_nI (n := i + 3) (by omega) (by omega)) dL_law_348 ?_
        rw [nI_clamp (by omega)]
        refine k_Nv (va_runV (As := [.int (nI t1), .int (nI t2), .int (xs (i + 3))]) (rest := []) ⟨hx, hb, hml, hown, hts⟩ (c_X10_alone_c l G z ad M_327 (th := tw) (ln := n) (on := jn) (ao := ao) (vr := vr) (sn := sn) (tp := len) (pt := pt) (zs := zs) (bg := bg) (fa := fw) (kd := t1) (ro := t2) (x2 := xs (i + 3)) hm_372 ht1 ht2 hc_323) (cwV 3 hts (gV (lwg_of t_1145 rfl) (lwg_of t_1146 rfl) (lwg_of t_1147 rfl) (lwg_of t_13 rfl) (lwg_of t_1148 rfl)) rfl rfl rfl (by decide +kernel) ⟨Nat.le_of_ble_eq_true rfl, Nat.le_of_ble_eq_true rfl⟩) (hI.preV hm_372 rfl) rfl rfl hl.1 rfl (lv_room (Nat.le_of_ble_eq_true rfl)) dL_law_349 ⟨(show _ ≤ (601024 : Nat) from by omega), (show _ ≤ (7293034 : Nat) from by omega)⟩) hI (fun M_405 H_406 locs_407 hp_404 hI => ?_)
        obtain ⟨hm_408, hF_409⟩ := hp_404
        have hm_410 : M_405 0 = some (cStore ad qa qs fw) := by rw [hF_409 0 (by omega)]; exact hm_332
        have hm_411 : M_405 1 = some (cTape ad len) := by rw [hF_409 1 (by omega)]; exact hm_333
        have hm_412 : M_405 2 = some (aI G 400 (nF tb)) := by rw [hF_409 2 (by omega)]; exact hm_334
        have hm_413 : M_405 3 = some (cLaws ad ) := by rw [hF_409 3 (by omega)]; exact hm_335
        have hm_414 : M_405 4 = some (aI G 36 (nF le)) := by rw [hF_409 4 (by omega)]; exact hm_336
        have hm_415 : M_405 5 = some (aI G 36 (nF mo)) := by rw [hF_409 5 (by omega)]; exact hm_337
        have hm_416 : M_405 6 = some (aI G 36 (nF al)) := by rw [hF_409 6 (by omega)]; exact hm_338
        have hm_417 : M_405 7 = some (aZ G 6 (bF ho)) := by rw [hF_409 7 (by omega)]; exact hm_339
        have hm_418 : M_405 8 = some (cOnes ad jn) := by rw [hF_409 8 (by omega)]; exact hm_340
        have hm_419 : M_405 9 = some (aI G 40 (nF hg)) := by rw [hF_409 9 (by omega)]; exact hm_341
        have hm_420 : M_405 10 = some (aI G 40 (nF lst)) := by rw [hF_409 10 (by omega)]; exact hm_342
        have hm_421 : M_405 11 = some (aI G 40 (nF jd)) := by rw [hF_409 11 (by omega)]; exact hm_343
        have hm_422 : M_405 12 = some (cEnds ad 12 s0) := by rw [hF_409 12 (by omega)]; exact hm_344
        have hm_423 : M_405 13 = some (aI G 6 (nF r0)) := by rw [hF_409 13 (by omega)]; exact hm_345
        have hm_424 : M_405 14 = some (aI G 6 (oF th)) := by rw [hF_409 14 (by omega)]; exact hm_346
        have hm_425 : M_405 15 = some (aI G 6 (oF ol)) := by rw [hF_409 15 (by omega)]; exact hm_347
        have hm_426 : M_405 19 = some (aZ G 120 (bF mm9)) := by rw [hF_409 19 (by omega)]; exact hm_348
        have hm_427 : M_405 20 = some (aI G 120 ff) := by rw [hF_409 20 (by omega)]; exact hm_349
        have hm_428 : M_405 21 = some (aI G 120 lq) := by rw [hF_409 21 (by omega)]; exact hm_350
        have hm_429 : M_405 22 = some (cReader ad ra rb rt rv) := by rw [hF_409 22 (by omega)]; exact hm_351
        have hm_430 : M_405 23 = some (cMatcher ad qm pz) := by rw [hF_409 23 (by omega)]; exact hm_352
        have hm_431 : M_405 24 = some (aJ G 2160 sx) := by rw [hF_409 24 (by omega)]; exact hm_353
        have hm_432 : M_405 25 = some (aI G 6 (nF ft)) := by rw [hF_409 25 (by omega)]; exact hm_354
        have hm_433 : M_405 26 = some (aJ G 240 rx) := by rw [hF_409 26 (by omega)]; exact hm_355
        have hm_434 : M_405 27 = some (aJ G 3 dm) := by rw [hF_409 27 (by omega)]; exact hm_356
        have hm_435 : M_405 28 = some (aI G 3 rc) := by rw [hF_409 28 (by omega)]; exact hm_357
        have hm_436 : M_405 qa = some (cQuestion ad qa ao vr) := by rw [hF_409 qa (by omega)]; exact hm_358
        have hm_437 : M_405 (qa + 1) = some (aI G 6 (nF kn)) := by rw [hF_409 (qa + 1) (by omega)]; exact hm_359
        have hm_438 : M_405 (qa + 2) = some (aZ G 6 (bF nq)) := by rw [hF_409 (qa + 2) (by omega)]; exact hm_360
        have hm_439 : M_405 (qa + 3) = some (aI G 6 (nF pn)) := by rw [hF_409 (qa + 3) (by omega)]; exact hm_361
        have hm_440 : M_405 (qa + 4) = some (aI G 6 (nF av)) := by rw [hF_409 (qa + 4) (by omega)]; exact hm_362
        have hm_441 : M_405 (qa + 5) = some (aI G 24 (nF ro)) := by rw [hF_409 (qa + 5) (by omega)]; exact hm_363
        have hm_442 : M_405 (qa + 6) = some (aI G 24 (nF te)) := by rw [hF_409 (qa + 6) (by omega)]; exact hm_364
        have hm_443 : M_405 qs = some (cQuestion ad qs sq su) := by rw [hF_409 qs (by omega)]; exact hm_365
        have hm_444 : M_405 (qs + 1) = some (aI G 6 (nF kb)) := by rw [hF_409 (qs + 1) (by omega)]; exact hm_366
        have hm_445 : M_405 (qs + 2) = some (aZ G 6 (bF nb)) := by rw [hF_409 (qs + 2) (by omega)]; exact hm_367
        have hm_446 : M_405 (qs + 3) = some (aI G 6 (nF pb)) := by rw [hF_409 (qs + 3) (by omega)]; exact hm_368
        have hm_447 : M_405 (qs + 4) = some (aI G 6 (nF ab)) := by rw [hF_409 (qs + 4) (by omega)]; exact hm_369
        have hm_448 : M_405 (qs + 5) = some (aI G 24 (nF rbb)) := by rw [hF_409 (qs + 5) (by omega)]; exact hm_370
        have hm_449 : M_405 (qs + 6) = some (aI G 24 (nF tbb)) := by rw [hF_409 (qs + 6) (by omega)]; exact hm_371
        have hm_450 : M_405 61 = some (aI G 36 (nF le)) := by rw [hF_409 61 (by omega)]; exact hm_373
        have hm_451 : M_405 62 = some (aI G 36 (nF mo)) := by rw [hF_409 62 (by omega)]; exact hm_374
        have hm_452 : M_405 63 = some (aI G 36 (nF al)) := by rw [hF_409 63 (by omega)]; exact hm_375
        have hm_453 : M_405 64 = some (aZ G 6 (bF ho)) := by rw [hF_409 64 (by omega)]; exact hm_376
        have hm_454 : M_405 65 = some (aI G 120 (nF mk)) := by rw [hF_409 65 (by omega)]; exact hm_377
        have hm_455 : M_405 66 = some (aI G 120 mf) := by rw [hF_409 66 (by omega)]; exact hm_378
        have hm_456 : M_405 67 = some (aI G 120 mu) := by rw [hF_409 67 (by omega)]; exact hm_379
        have hm_457 : M_405 68 = some (aI G 121 (nF mz)) := by rw [hF_409 68 (by omega)]; exact hm_380
        have hm_458 : M_405 69 = some (aI G 726 (nF rr)) := by rw [hF_409 69 (by omega)]; exact hm_381
        have hm_459 : M_405 70 = some (aI G 726 (nF ee)) := by rw [hF_409 70 (by omega)]; exact hm_382
        have hm_460 : M_405 71 = some (aI G 40 (nF lst)) := by rw [hF_409 71 (by omega)]; exact hm_383
        have hm_461 : M_405 72 = some (aI G 40 (nF oa)) := by rw [hF_409 72 (by omega)]; exact hm_384
        have hm_462 : M_405 73 = some (aI G 40 (nF ob)) := by rw [hF_409 73 (by omega)]; exact hm_385
        have hm_463 : M_405 74 = some (aI G 120 s74) := by rw [hF_409 74 (by omega)]; exact hm_386
        have hm_464 : M_405 75 = some (aI G 12 ak) := by rw [hF_409 75 (by omega)]; exact hm_387
        have hm_465 : M_405 76 = some (aZ G 12 (bF nm)) := by rw [hF_409 76 (by omega)]; exact hm_388
        have hm_466 : M_405 77 = some (aI G 12 (nF ap)) := by rw [hF_409 77 (by omega)]; exact hm_389
        have hm_467 : M_405 78 = some (aI G 48 pr) := by rw [hF_409 78 (by omega)]; exact hm_390
        have hm_468 : M_405 79 = some (aI G 48 pf) := by rw [hF_409 79 (by omega)]; exact hm_391
        have hm_469 : M_405 80 = some (aB G 400 tf) := by rw [hF_409 80 (by omega)]; exact hm_392
        have hm_470 : M_405 81 = some (aI G 5 fv) := by rw [hF_409 81 (by omega)]; exact hm_393
        have hm_471 : M_405 82 = some (aZ G 384000 (bF tr)) := by rw [hF_409 82 (by omega)]; exact hm_394
        have hm_472 : M_405 83 = some (aI G 3 (oF gv)) := by rw [hF_409 83 (by omega)]; exact hm_395
        have hm_473 : M_405 84 = some (aI G 3 fo) := by rw [hF_409 84 (by omega)]; exact hm_396
        have hm_474 : M_405 85 = some (aZ G 40 (bF re)) := by rw [hF_409 85 (by omega)]; exact hm_397
        have hm_475 : M_405 86 = some (aZ G 120 (bF us)) := by rw [hF_409 86 (by omega)]; exact hm_398
        have hm_476 : M_405 87 = some (aZ G 120 (bF nx)) := by rw [hF_409 87 (by omega)]; exact hm_399
        have hm_477 : M_405 99 = some (aJ G 1 of) := by rw [hF_409 99 (by omega)]; exact hm_400
        have hm_478 : M_405 16 = some (cLines ad ) := by rw [hF_409 16 (by omega)]; exact hm_401
        have hL_479 : LSm G ad M_405 n kd fm to sz rl en := hL_402.keep (fun j hj => hF_409 j (by omega))
        have hF_480 : ∀ j : Nat, j ≠ 60 → M_405 j = M j := fun j q0 => (hF_409 j q0).trans (hF_331 j )
        refine lv_aload_n hx hb dL_law_352 rfl (lv_at hl 3 rfl) ?_
        refine k_Ri (va_runV (As := []) (rest := []) ⟨hx, hb, hml, hown, hts⟩ (c_X10_thrown l G z ad M_405 (th := 2) (ln := n) (on := jn) (ao := ao) (vr := vr) (sn := sn) (tp := len) (pt := pt) (zs := zs) (bg := bg) (fa := fw) hm_408) (cwV 0 hts (gV (lwg_of t_997 rfl) (lwg_of t_998 rfl) (lwg_of t_999 rfl) (lwg_of t_13 rfl) (lwg_of t_1000 rfl)) rfl rfl rfl (by decide +kernel) ⟨Nat.le_of_ble_eq_true rfl, Nat.le_of_ble_eq_true rfl⟩) (hI.preV hm_408 rfl) rfl rfl hl.1 rfl (lv_room (Nat.le_of_ble_eq_true rfl)) dL_law_353 ⟨(show _ ≤ (601024 : Nat) from by omega), (show _ ≤ (7293034 : Nat) from by omega)⟩) (fun _ h => h) (fun r_481 hp_482 => ?_)
        rw [hp_482]
        refine lv_iload hx hb dL_law_356 (lv_at hl 0 rfl) ?_
        refine lv_icmp_eq (tgt := 363) hx hb dL_law_358 (by decide) (fun c_483 => ?_) (fun c_483 => ?_)
        · -- 358: nI 2 eq
          refine lv_goto (tgt := 1333) hx hb dL_law_363 (by decide) ?_
          refine W.widen (k := cz + 10) (n := sy + 300) (by omega) (by omega) ?_
          exact kk ad M_405 H_406 locs_407 ls n kd fm to sz rl en qa qs fw len tb le mo al ho jn hg lst jd s0 r0 th ol e0 mm9 ff lq ra rb rt rv qm pz sx ft rx dm rc ao vr kn nq pn av ro te sq su kb nb pb ab rbb tbb 2 sn pt zs bg mk mf mu mz rr ee oa ob s74 ak nm ap pr pf tf fv tr gv fo re us nx of hL_479 w1 w2 w3 w4 w5 w6 w7 w8 w9 w10 w11 w12 w13 w14 w15 w16 w17 w18 w19 w20 w21 w22 w23 w24 w25 w26 w27 w28 w29 (fun h9 => by rw [hF_480 17 (by omega), hF_480 18 (by omega)]; exact w30 h9) (by rw [hF_480 29 (by omega)]; exact w31) (fun j9 h9 => by rw [hF_480 j9 (by omega)]; exact w32 j9 h9) hm_410 hm_411 hm_412 hm_413 hm_414 hm_415 hm_416 hm_417 hm_418 hm_419 hm_420 hm_421 hm_422 hm_423 hm_424 hm_425 hm_426 hm_427 hm_428 hm_429 hm_430 hm_431 hm_432 hm_433 hm_434 hm_435 hm_436 hm_437 hm_438 hm_439 hm_440 hm_441 hm_442 hm_443 hm_444 hm_445 hm_446 hm_447 hm_448 hm_449 hm_408 hm_450 hm_451 hm_452 hm_453 hm_454 hm_455 hm_456 hm_457 hm_458 hm_459 hm_460 hm_461 hm_462 hm_463 hm_464 hm_465 hm_466 hm_467 hm_468 hm_469 hm_470 hm_471 hm_472 hm_473 hm_474 hm_475 hm_476 hm_477 hI (lv_sub hl [1, 2, 3, 4, 5] rfl)
        · -- 358: nI 2 ne
          exact absurd (by decide) c_483
      · skip
        refine lv_iload hx hb dL_law_308 (lv_at hl 4 rfl) ?_
        obtain ⟨t3, ht3, et3⟩ := hc_324
        refine lv_iconst (v := nI 1) hx hb dL_law_310 (by decide) ?_
        refine lv_iadd hx hb dL_law_311 ?_
        refine n_eq (nI_add i 1) ?_
        refine va_sld (A := fr z) hx hb hX hbl hbz hI.S (vp_in_nI (n := i + 1) (by omega) (by omega)) dL_law_312 ?_
        rw [nI_clamp (by omega)]
        refine n_eq (show _ = nI t1 from et1) ?_
        refine lv_aload_n hx hb dL_law_313 rfl (lv_at hl 0 rfl) ?_
        refine lv_iload hx hb dL_law_314 (lv_at hl 4 rfl) ?_
        refine lv_iconst (v := nI 2) hx hb dL_law_316 (by decide) ?_
        refine lv_iadd hx hb dL_law_317 ?_
        refine n_eq (nI_add i 2) ?_
        refine va_sld (A := fr z) hx hb hX hbl hbz hI.S (vp_in_nI (n := i + 2) (by omega) (by omega)) dL_law_318 ?_
        rw [nI_clamp (by omega)]
        refine n_eq (show _ = nI t2 from et2) ?_
        refine lv_aload_n hx hb dL_law_319 rfl (lv_at hl 0 rfl) ?_
        refine lv_iload hx hb dL_law_320 (lv_at hl 4 rfl) ?_
        refine lv_iconst (v := nI 3) hx hb dL_law_322 (by decide) ?_
        refine lv_iadd hx hb dL_law_323 ?_
        refine n_eq (nI_add i 3) ?_
        refine va_sld (A := fr z) hx hb hX hbl hbz hI.S (vp_in_nI (n := i + 3) (by omega) (by omega)) dL_law_324 ?_
        rw [nI_clamp (by omega)]
        refine n_eq (show _ = nI t3 from et3) ?_
        refine k_Ni (vx_runSW (As := [.ref (ad 0), .int (nI t1), .int (nI t2), .int (nI t3)]) (rest := []) ⟨hx, hb, hml, hown, hts⟩ (c_L_alone l hst G z ad M (qa := qa) (qs := qs) (fw := fw) (al := al) (kd := t1) (x := t2) (a := t3) f_0 f_3 f_6 ht1 ht2 (by omega)) (vx_cwSW 4 hts (gSW (lwg_of t_573 rfl) (lwg_of t_574 rfl) (lwg_of t_0 rfl) (lwg_of t_575 rfl)) rfl rfl rfl (by decide +kernel) ⟨Nat.le_of_ble_eq_true rfl, Nat.le_of_ble_eq_true rfl⟩) hI.preS rfl rfl hl.1 rfl (lv_room (Nat.le_of_ble_eq_true rfl)) dL_law_325 ⟨(show _ ≤ (601024 : Nat) from by omega), (show _ ≤ (7293034 : Nat) from by omega)⟩) hI (fun r_484 M_486 H_487 locs_488 hp_485 hI => ?_)
        obtain ⟨hr_489, hm_490, hF_491⟩ := hp_485
        have hm_492 : M_486 0 = some (cStore ad qa qs fw) := by rw [hF_491 0 (by omega)]; exact f_0
        have hm_493 : M_486 1 = some (cTape ad len) := by rw [hF_491 1 (by omega)]; exact f_1
        have hm_494 : M_486 2 = some (aI G 400 (nF tb)) := by rw [hF_491 2 (by omega)]; exact f_2
        have hm_495 : M_486 3 = some (cLaws ad ) := by rw [hF_491 3 (by omega)]; exact f_3
        have hm_496 : M_486 4 = some (aI G 36 (nF le)) := by rw [hF_491 4 (by omega)]; exact f_4
        have hm_497 : M_486 5 = some (aI G 36 (nF mo)) := by rw [hF_491 5 (by omega)]; exact f_5
        have hm_498 : M_486 7 = some (aZ G 6 (bF ho)) := by rw [hF_491 7 (by omega)]; exact f_7
        have hm_499 : M_486 8 = some (cOnes ad jn) := by rw [hF_491 8 (by omega)]; exact f_8
        have hm_500 : M_486 9 = some (aI G 40 (nF hg)) := by rw [hF_491 9 (by omega)]; exact f_9
        have hm_501 : M_486 10 = some (aI G 40 (nF lst)) := by rw [hF_491 10 (by omega)]; exact f_10
        have hm_502 : M_486 11 = some (aI G 40 (nF jd)) := by rw [hF_491 11 (by omega)]; exact f_11
        have hm_503 : M_486 12 = some (cEnds ad 12 s0) := by rw [hF_491 12 (by omega)]; exact f_12
        have hm_504 : M_486 13 = some (aI G 6 (nF r0)) := by rw [hF_491 13 (by omega)]; exact f_13
        have hm_505 : M_486 14 = some (aI G 6 (oF th)) := by rw [hF_491 14 (by omega)]; exact f_14
        have hm_506 : M_486 15 = some (aI G 6 (oF ol)) := by rw [hF_491 15 (by omega)]; exact f_15
        have hm_507 : M_486 19 = some (aZ G 120 (bF mm9)) := by rw [hF_491 19 (by omega)]; exact f_19
        have hm_508 : M_486 20 = some (aI G 120 ff) := by rw [hF_491 20 (by omega)]; exact f_20
        have hm_509 : M_486 21 = some (aI G 120 lq) := by rw [hF_491 21 (by omega)]; exact f_21
        have hm_510 : M_486 22 = some (cReader ad ra rb rt rv) := by rw [hF_491 22 (by omega)]; exact f_22
        have hm_511 : M_486 23 = some (cMatcher ad qm pz) := by rw [hF_491 23 (by omega)]; exact f_23
        have hm_512 : M_486 24 = some (aJ G 2160 sx) := by rw [hF_491 24 (by omega)]; exact f_24
        have hm_513 : M_486 25 = some (aI G 6 (nF ft)) := by rw [hF_491 25 (by omega)]; exact f_25
        have hm_514 : M_486 26 = some (aJ G 240 rx) := by rw [hF_491 26 (by omega)]; exact f_26
        have hm_515 : M_486 27 = some (aJ G 3 dm) := by rw [hF_491 27 (by omega)]; exact f_27
        have hm_516 : M_486 28 = some (aI G 3 rc) := by rw [hF_491 28 (by omega)]; exact f_28
        have hm_517 : M_486 qa = some (cQuestion ad qa ao vr) := by rw [hF_491 qa (by omega)]; exact f_qa
        have hm_518 : M_486 (qa + 1) = some (aI G 6 (nF kn)) := by rw [hF_491 (qa + 1) (by omega)]; exact f_qa_1
        have hm_519 : M_486 (qa + 2) = some (aZ G 6 (bF nq)) := by rw [hF_491 (qa + 2) (by omega)]; exact f_qa_2
        have hm_520 : M_486 (qa + 3) = some (aI G 6 (nF pn)) := by rw [hF_491 (qa + 3) (by omega)]; exact f_qa_3
        have hm_521 : M_486 (qa + 4) = some (aI G 6 (nF av)) := by rw [hF_491 (qa + 4) (by omega)]; exact f_qa_4
        have hm_522 : M_486 (qa + 5) = some (aI G 24 (nF ro)) := by rw [hF_491 (qa + 5) (by omega)]; exact f_qa_5
        have hm_523 : M_486 (qa + 6) = some (aI G 24 (nF te)) := by rw [hF_491 (qa + 6) (by omega)]; exact f_qa_6
        have hm_524 : M_486 qs = some (cQuestion ad qs sq su) := by rw [hF_491 qs (by omega)]; exact f_qs
        have hm_525 : M_486 (qs + 1) = some (aI G 6 (nF kb)) := by rw [hF_491 (qs + 1) (by omega)]; exact f_qs_1
        have hm_526 : M_486 (qs + 2) = some (aZ G 6 (bF nb)) := by rw [hF_491 (qs + 2) (by omega)]; exact f_qs_2
        have hm_527 : M_486 (qs + 3) = some (aI G 6 (nF pb)) := by rw [hF_491 (qs + 3) (by omega)]; exact f_qs_3
        have hm_528 : M_486 (qs + 4) = some (aI G 6 (nF ab)) := by rw [hF_491 (qs + 4) (by omega)]; exact f_qs_4
        have hm_529 : M_486 (qs + 5) = some (aI G 24 (nF rbb)) := by rw [hF_491 (qs + 5) (by omega)]; exact f_qs_5
        have hm_530 : M_486 (qs + 6) = some (aI G 24 (nF tbb)) := by rw [hF_491 (qs + 6) (by omega)]; exact f_qs_6
        have hm_531 : M_486 60 = some (cModel ad tw n jn ao vr sn len pt zs bg fw) := by rw [hF_491 60 (by omega)]; exact f_60
        have hm_532 : M_486 61 = some (aI G 36 (nF le)) := by rw [hF_491 61 (by omega)]; exact f_61
        have hm_533 : M_486 62 = some (aI G 36 (nF mo)) := by rw [hF_491 62 (by omega)]; exact f_62
        have hm_534 : M_486 63 = some (aI G 36 (nF al)) := by rw [hF_491 63 (by omega)]; exact f_63
        have hm_535 : M_486 64 = some (aZ G 6 (bF ho)) := by rw [hF_491 64 (by omega)]; exact f_64
        have hm_536 : M_486 65 = some (aI G 120 (nF mk)) := by rw [hF_491 65 (by omega)]; exact f_65
        have hm_537 : M_486 66 = some (aI G 120 mf) := by rw [hF_491 66 (by omega)]; exact f_66
        have hm_538 : M_486 67 = some (aI G 120 mu) := by rw [hF_491 67 (by omega)]; exact f_67
        have hm_539 : M_486 68 = some (aI G 121 (nF mz)) := by rw [hF_491 68 (by omega)]; exact f_68
        have hm_540 : M_486 69 = some (aI G 726 (nF rr)) := by rw [hF_491 69 (by omega)]; exact f_69
        have hm_541 : M_486 70 = some (aI G 726 (nF ee)) := by rw [hF_491 70 (by omega)]; exact f_70
        have hm_542 : M_486 71 = some (aI G 40 (nF lst)) := by rw [hF_491 71 (by omega)]; exact f_71
        have hm_543 : M_486 72 = some (aI G 40 (nF oa)) := by rw [hF_491 72 (by omega)]; exact f_72
        have hm_544 : M_486 73 = some (aI G 40 (nF ob)) := by rw [hF_491 73 (by omega)]; exact f_73
        have hm_545 : M_486 74 = some (aI G 120 s74) := by rw [hF_491 74 (by omega)]; exact f_74
        have hm_546 : M_486 75 = some (aI G 12 ak) := by rw [hF_491 75 (by omega)]; exact f_75
        have hm_547 : M_486 76 = some (aZ G 12 (bF nm)) := by rw [hF_491 76 (by omega)]; exact f_76
        have hm_548 : M_486 77 = some (aI G 12 (nF ap)) := by rw [hF_491 77 (by omega)]; exact f_77
        have hm_549 : M_486 78 = some (aI G 48 pr) := by rw [hF_491 78 (by omega)]; exact f_78
        have hm_550 : M_486 79 = some (aI G 48 pf) := by rw [hF_491 79 (by omega)]; exact f_79
        have hm_551 : M_486 80 = some (aB G 400 tf) := by rw [hF_491 80 (by omega)]; exact f_80
        have hm_552 : M_486 81 = some (aI G 5 fv) := by rw [hF_491 81 (by omega)]; exact f_81
        have hm_553 : M_486 82 = some (aZ G 384000 (bF tr)) := by rw [hF_491 82 (by omega)]; exact f_82
        have hm_554 : M_486 83 = some (aI G 3 (oF gv)) := by rw [hF_491 83 (by omega)]; exact f_83
        have hm_555 : M_486 84 = some (aI G 3 fo) := by rw [hF_491 84 (by omega)]; exact f_84
        have hm_556 : M_486 85 = some (aZ G 40 (bF re)) := by rw [hF_491 85 (by omega)]; exact f_85
        have hm_557 : M_486 86 = some (aZ G 120 (bF us)) := by rw [hF_491 86 (by omega)]; exact f_86
        have hm_558 : M_486 87 = some (aZ G 120 (bF nx)) := by rw [hF_491 87 (by omega)]; exact f_87
        have hm_559 : M_486 99 = some (aJ G 1 of) := by rw [hF_491 99 (by omega)]; exact f_99
        have hm_560 : M_486 16 = some (cLines ad ) := by rw [hF_491 16 (by omega)]; exact h16
        have hL_561 : LSm G ad M_486 n kd fm to sz rl en := fL.keep (fun j hj => hF_491 j (by omega))
        have hF_562 : ∀ j : Nat, j ≠ 6 → M_486 j = M j := fun j q0 => (hF_491 j q0)
        rw [hr_489]
        refine lv_istore (lv' := [(5, .int (nI 0)), (0, .ref b), (1, .ref (ad 0)), (2, .ref (ad 60)), (3, .ref (ad 99)), (4, .int (nI i))]) hx hb dL_law_328 hl (by decide) rfl (fun ls hl => ?_)
        refine lv_aload_n hx hb dL_law_330 rfl (lv_at hl 3 rfl) ?_
        refine lv_aload_n hx hb dL_law_331 rfl (lv_at hl 1 rfl) ?_
        refine lv_iload hx hb dL_law_332 (lv_at hl 5 rfl) ?_
        refine lv_iconst (v := nI 1) hx hb dL_law_334 (by decide) ?_
        refine lv_iadd hx hb dL_law_335 ?_
        refine n_eq (nI_add i 1) ?_
        refine va_sld (A := fr z) hx hb hX hbl hbz hI.S (vp_in_nI (n := i + 1) (by omega) (by omega)) dL_law_336 ?_
        rw [nI_clamp (by omega)]
        refine n_eq (show _ = nI t1 from et1) ?_
        refine lv_aload_n hx hb dL_law_337 rfl (lv_at hl 1 rfl) ?_
        refine lv_iload hx hb dL_law_338 (lv_at hl 5 rfl) ?_
        refine lv_iconst (v := nI 2) hx hb dL_law_340 (by decide) ?_
        refine lv_iadd hx hb dL_law_341 ?_
        refine n_eq (nI_add i 2) ?_
        refine va_sld (A := fr z) hx hb hX hbl hbz hI.S (vp_in_nI (n := i + 2) (by omega) (by omega)) dL_law_342 ?_
        rw [nI_clamp (by omega)]
        refine n_eq (show _ = nI t2 from et2) ?_
        refine lv_aload_n hx hb dL_law_343 rfl (lv_at hl 1 rfl) ?_
        refine lv_iload hx hb dL_law_344 (lv_at hl 5 rfl) ?_
        refine lv_iconst (v := nI 3) hx hb dL_law_346 (by decide) ?_
        refine lv_iadd hx hb dL_law_347 ?_
        refine n_eq (nI_add i 3) ?_
        refine va_sld (A := fr z) hx hb hX hbl hbz hI.S (vp_in_nI (n := i + 3) (by omega) (by omega)) dL_law_348 ?_
        rw [nI_clamp (by omega)]
        refine n_eq (show _ = nI t3 from et3) ?_
        refine k_Nv (va_runV (As := [.int (nI t1), .int (nI t2), .int (nI t3)]) (rest := []) ⟨hx, hb, hml, hown, hts⟩ (c_X10_alone l G z ad M_486 (th := tw) (ln := n) (on := jn) (ao := ao) (vr := vr) (sn := sn) (tp := len) (pt := pt) (zs := zs) (bg := bg) (fa := fw) (al := al) (kd := t1) (x := t2) (a := t3) hm_531 hm_534 ht1 ht2 (by omega)) (cwV 3 hts (gV (lwg_of t_1145 rfl) (lwg_of t_1146 rfl) (lwg_of t_1147 rfl) (lwg_of t_13 rfl) (lwg_of t_1148 rfl)) rfl rfl rfl (by decide +kernel) ⟨Nat.le_of_ble_eq_true rfl, Nat.le_of_ble_eq_true rfl⟩) (hI.preV hm_531 rfl) rfl rfl hl.1 rfl (lv_room (Nat.le_of_ble_eq_true rfl)) dL_law_349 ⟨(show _ ≤ (601024 : Nat) from by omega), (show _ ≤ (7293034 : Nat) from by omega)⟩) hI (fun M_565 H_566 locs_567 hp_564 hI => ?_)
        obtain ⟨hm_568, hm_569, hF_570⟩ := hp_564
        have hm_571 : M_565 0 = some (cStore ad qa qs fw) := by rw [hF_570 0 (by omega) (by omega)]; exact hm_492
        have hm_572 : M_565 1 = some (cTape ad len) := by rw [hF_570 1 (by omega) (by omega)]; exact hm_493
        have hm_573 : M_565 2 = some (aI G 400 (nF tb)) := by rw [hF_570 2 (by omega) (by omega)]; exact hm_494
        have hm_574 : M_565 3 = some (cLaws ad ) := by rw [hF_570 3 (by omega) (by omega)]; exact hm_495
        have hm_575 : M_565 4 = some (aI G 36 (nF le)) := by rw [hF_570 4 (by omega) (by omega)]; exact hm_496
        have hm_576 : M_565 5 = some (aI G 36 (nF mo)) := by rw [hF_570 5 (by omega) (by omega)]; exact hm_497
        have hm_577 : M_565 6 = some (aI G 36 (nF (va_up al (t1 * 6 + t2) t3))) := by rw [hF_570 6 (by omega) (by omega)]; exact hm_490
        have hm_578 : M_565 7 = some (aZ G 6 (bF ho)) := by rw [hF_570 7 (by omega) (by omega)]; exact hm_498
        have hm_579 : M_565 8 = some (cOnes ad jn) := by rw [hF_570 8 (by omega) (by omega)]; exact hm_499
        have hm_580 : M_565 9 = some (aI G 40 (nF hg)) := by rw [hF_570 9 (by omega) (by omega)]; exact hm_500
        have hm_581 : M_565 10 = some (aI G 40 (nF lst)) := by rw [hF_570 10 (by omega) (by omega)]; exact hm_501
        have hm_582 : M_565 11 = some (aI G 40 (nF jd)) := by rw [hF_570 11 (by omega) (by omega)]; exact hm_502
        have hm_583 : M_565 12 = some (cEnds ad 12 s0) := by rw [hF_570 12 (by omega) (by omega)]; exact hm_503
        have hm_584 : M_565 13 = some (aI G 6 (nF r0)) := by rw [hF_570 13 (by omega) (by omega)]; exact hm_504
        have hm_585 : M_565 14 = some (aI G 6 (oF th)) := by rw [hF_570 14 (by omega) (by omega)]; exact hm_505
        have hm_586 : M_565 15 = some (aI G 6 (oF ol)) := by rw [hF_570 15 (by omega) (by omega)]; exact hm_506
        have hm_587 : M_565 19 = some (aZ G 120 (bF mm9)) := by rw [hF_570 19 (by omega) (by omega)]; exact hm_507
        have hm_588 : M_565 20 = some (aI G 120 ff) := by rw [hF_570 20 (by omega) (by omega)]; exact hm_508
        have hm_589 : M_565 21 = some (aI G 120 lq) := by rw [hF_570 21 (by omega) (by omega)]; exact hm_509
        have hm_590 : M_565 22 = some (cReader ad ra rb rt rv) := by rw [hF_570 22 (by omega) (by omega)]; exact hm_510
        have hm_591 : M_565 23 = some (cMatcher ad qm pz) := by rw [hF_570 23 (by omega) (by omega)]; exact hm_511
        have hm_592 : M_565 24 = some (aJ G 2160 sx) := by rw [hF_570 24 (by omega) (by omega)]; exact hm_512
        have hm_593 : M_565 25 = some (aI G 6 (nF ft)) := by rw [hF_570 25 (by omega) (by omega)]; exact hm_513
        have hm_594 : M_565 26 = some (aJ G 240 rx) := by rw [hF_570 26 (by omega) (by omega)]; exact hm_514
        have hm_595 : M_565 27 = some (aJ G 3 dm) := by rw [hF_570 27 (by omega) (by omega)]; exact hm_515
        have hm_596 : M_565 28 = some (aI G 3 rc) := by rw [hF_570 28 (by omega) (by omega)]; exact hm_516
        have hm_597 : M_565 qa = some (cQuestion ad qa ao vr) := by rw [hF_570 qa (by omega) (by omega)]; exact hm_517
        have hm_598 : M_565 (qa + 1) = some (aI G 6 (nF kn)) := by rw [hF_570 (qa + 1) (by omega) (by omega)]; exact hm_518
        have hm_599 : M_565 (qa + 2) = some (aZ G 6 (bF nq)) := by rw [hF_570 (qa + 2) (by omega) (by omega)]; exact hm_519
        have hm_600 : M_565 (qa + 3) = some (aI G 6 (nF pn)) := by rw [hF_570 (qa + 3) (by omega) (by omega)]; exact hm_520
        have hm_601 : M_565 (qa + 4) = some (aI G 6 (nF av)) := by rw [hF_570 (qa + 4) (by omega) (by omega)]; exact hm_521
        have hm_602 : M_565 (qa + 5) = some (aI G 24 (nF ro)) := by rw [hF_570 (qa + 5) (by omega) (by omega)]; exact hm_522
        have hm_603 : M_565 (qa + 6) = some (aI G 24 (nF te)) := by rw [hF_570 (qa + 6) (by omega) (by omega)]; exact hm_523
        have hm_604 : M_565 qs = some (cQuestion ad qs sq su) := by rw [hF_570 qs (by omega) (by omega)]; exact hm_524
        have hm_605 : M_565 (qs + 1) = some (aI G 6 (nF kb)) := by rw [hF_570 (qs + 1) (by omega) (by omega)]; exact hm_525
        have hm_606 : M_565 (qs + 2) = some (aZ G 6 (bF nb)) := by rw [hF_570 (qs + 2) (by omega) (by omega)]; exact hm_526
        have hm_607 : M_565 (qs + 3) = some (aI G 6 (nF pb)) := by rw [hF_570 (qs + 3) (by omega) (by omega)]; exact hm_527
        have hm_608 : M_565 (qs + 4) = some (aI G 6 (nF ab)) := by rw [hF_570 (qs + 4) (by omega) (by omega)]; exact hm_528
        have hm_609 : M_565 (qs + 5) = some (aI G 24 (nF rbb)) := by rw [hF_570 (qs + 5) (by omega) (by omega)]; exact hm_529
        have hm_610 : M_565 (qs + 6) = some (aI G 24 (nF tbb)) := by rw [hF_570 (qs + 6) (by omega) (by omega)]; exact hm_530
        have hm_611 : M_565 61 = some (aI G 36 (nF le)) := by rw [hF_570 61 (by omega) (by omega)]; exact hm_532
        have hm_612 : M_565 62 = some (aI G 36 (nF mo)) := by rw [hF_570 62 (by omega) (by omega)]; exact hm_533
        have hm_613 : M_565 64 = some (aZ G 6 (bF ho)) := by rw [hF_570 64 (by omega) (by omega)]; exact hm_535
        have hm_614 : M_565 65 = some (aI G 120 (nF mk)) := by rw [hF_570 65 (by omega) (by omega)]; exact hm_536
        have hm_615 : M_565 66 = some (aI G 120 mf) := by rw [hF_570 66 (by omega) (by omega)]; exact hm_537
        have hm_616 : M_565 67 = some (aI G 120 mu) := by rw [hF_570 67 (by omega) (by omega)]; exact hm_538
        have hm_617 : M_565 68 = some (aI G 121 (nF mz)) := by rw [hF_570 68 (by omega) (by omega)]; exact hm_539
        have hm_618 : M_565 69 = some (aI G 726 (nF rr)) := by rw [hF_570 69 (by omega) (by omega)]; exact hm_540
        have hm_619 : M_565 70 = some (aI G 726 (nF ee)) := by rw [hF_570 70 (by omega) (by omega)]; exact hm_541
        have hm_620 : M_565 71 = some (aI G 40 (nF lst)) := by rw [hF_570 71 (by omega) (by omega)]; exact hm_542
        have hm_621 : M_565 72 = some (aI G 40 (nF oa)) := by rw [hF_570 72 (by omega) (by omega)]; exact hm_543
        have hm_622 : M_565 73 = some (aI G 40 (nF ob)) := by rw [hF_570 73 (by omega) (by omega)]; exact hm_544
        have hm_623 : M_565 74 = some (aI G 120 s74) := by rw [hF_570 74 (by omega) (by omega)]; exact hm_545
        have hm_624 : M_565 75 = some (aI G 12 ak) := by rw [hF_570 75 (by omega) (by omega)]; exact hm_546
        have hm_625 : M_565 76 = some (aZ G 12 (bF nm)) := by rw [hF_570 76 (by omega) (by omega)]; exact hm_547
        have hm_626 : M_565 77 = some (aI G 12 (nF ap)) := by rw [hF_570 77 (by omega) (by omega)]; exact hm_548
        have hm_627 : M_565 78 = some (aI G 48 pr) := by rw [hF_570 78 (by omega) (by omega)]; exact hm_549
        have hm_628 : M_565 79 = some (aI G 48 pf) := by rw [hF_570 79 (by omega) (by omega)]; exact hm_550
        have hm_629 : M_565 80 = some (aB G 400 tf) := by rw [hF_570 80 (by omega) (by omega)]; exact hm_551
        have hm_630 : M_565 81 = some (aI G 5 fv) := by rw [hF_570 81 (by omega) (by omega)]; exact hm_552
        have hm_631 : M_565 82 = some (aZ G 384000 (bF tr)) := by rw [hF_570 82 (by omega) (by omega)]; exact hm_553
        have hm_632 : M_565 83 = some (aI G 3 (oF gv)) := by rw [hF_570 83 (by omega) (by omega)]; exact hm_554
        have hm_633 : M_565 84 = some (aI G 3 fo) := by rw [hF_570 84 (by omega) (by omega)]; exact hm_555
        have hm_634 : M_565 85 = some (aZ G 40 (bF re)) := by rw [hF_570 85 (by omega) (by omega)]; exact hm_556
        have hm_635 : M_565 86 = some (aZ G 120 (bF us)) := by rw [hF_570 86 (by omega) (by omega)]; exact hm_557
        have hm_636 : M_565 87 = some (aZ G 120 (bF nx)) := by rw [hF_570 87 (by omega) (by omega)]; exact hm_558
        have hm_637 : M_565 99 = some (aJ G 1 of) := by rw [hF_570 99 (by omega) (by omega)]; exact hm_559
        have hm_638 : M_565 16 = some (cLines ad ) := by rw [hF_570 16 (by omega) (by omega)]; exact hm_560
        have hL_639 : LSm G ad M_565 n kd fm to sz rl en := hL_561.keep (fun j hj => hF_570 j (by omega) (by omega))
        have hF_640 : ∀ j : Nat, j ≠ 6 → j ≠ 60 → j ≠ 63 → M_565 j = M j := fun j q0 q1 q2 => (hF_570 j q1 q2).trans (hF_562 j q0)
        refine lv_aload_n hx hb dL_law_352 rfl (lv_at hl 3 rfl) ?_
        refine k_Ri (va_runV (As := []) (rest := []) ⟨hx, hb, hml, hown, hts⟩ (c_X10_thrown l G z ad M_565 (th := 0) (ln := n) (on := jn) (ao := ao) (vr := vr) (sn := sn) (tp := len) (pt := pt) (zs := zs) (bg := bg) (fa := fw) hm_568) (cwV 0 hts (gV (lwg_of t_997 rfl) (lwg_of t_998 rfl) (lwg_of t_999 rfl) (lwg_of t_13 rfl) (lwg_of t_1000 rfl)) rfl rfl rfl (by decide +kernel) ⟨Nat.le_of_ble_eq_true rfl, Nat.le_of_ble_eq_true rfl⟩) (hI.preV hm_568 rfl) rfl rfl hl.1 rfl (lv_room (Nat.le_of_ble_eq_true rfl)) dL_law_353 ⟨(show _ ≤ (601024 : Nat) from by omega), (show _ ≤ (7293034 : Nat) from by omega)⟩) (fun _ h => h) (fun r_641 hp_642 => ?_)
        rw [hp_642]
        refine lv_iload hx hb dL_law_356 (lv_at hl 0 rfl) ?_
        refine lv_icmp_eq (tgt := 363) hx hb dL_law_358 (by decide) (fun c_643 => ?_) (fun c_643 => ?_)
        · -- 358: nI 0 eq
          refine lv_goto (tgt := 1333) hx hb dL_law_363 (by decide) ?_
          refine W.widen (k := cz + 10) (n := sy + 300) (by omega) (by omega) ?_
          exact kk ad M_565 H_566 locs_567 ls n kd fm to sz rl en qa qs fw len tb le mo (va_up al (t1 * 6 + t2) t3) ho jn hg lst jd s0 r0 th ol e0 mm9 ff lq ra rb rt rv qm pz sx ft rx dm rc ao vr kn nq pn av ro te sq su kb nb pb ab rbb tbb 0 sn pt zs bg mk mf mu mz rr ee oa ob s74 ak nm ap pr pf tf fv tr gv fo re us nx of hL_639 w1 w2 w3 w4 w5 w6 w7 w8 w9 w10 w11 w12 w13 w14 w15 (up_le9 w16 (by omega)) w17 w18 w19 w20 w21 w22 w23 w24 w25 w26 w27 w28 w29 (fun h9 => by rw [hF_640 17 (by omega) (by omega) (by omega), hF_640 18 (by omega) (by omega) (by omega)]; exact w30 h9) (by rw [hF_640 29 (by omega) (by omega) (by omega)]; exact w31) (fun j9 h9 => by rw [hF_640 j9 (by omega) (by omega) (by omega)]; exact w32 j9 h9) hm_571 hm_572 hm_573 hm_574 hm_575 hm_576 hm_577 hm_578 hm_579 hm_580 hm_581 hm_582 hm_583 hm_584 hm_585 hm_586 hm_587 hm_588 hm_589 hm_590 hm_591 hm_592 hm_593 hm_594 hm_595 hm_596 hm_597 hm_598 hm_599 hm_600 hm_601 hm_602 hm_603 hm_604 hm_605 hm_606 hm_607 hm_608 hm_609 hm_610 hm_568 hm_611 hm_612 (by rw [show t1 * 6 + t2 = 6 * t1 + t2 by omega]; exact hm_569) hm_613 hm_614 hm_615 hm_616 hm_617 hm_618 hm_619 hm_620 hm_621 hm_622 hm_623 hm_624 hm_625 hm_626 hm_627 hm_628 hm_629 hm_630 hm_631 hm_632 hm_633 hm_634 hm_635 hm_636 hm_637 hI (lv_sub hl [1, 2, 3, 4, 5] rfl)
        · -- 358: nI 0 ne
          exact absurd (by decide) c_643

set_option maxHeartbeats 8000000 in
set_option maxRecDepth 100000 in
theorem law_4 {p : Program} {l : Launch} {e : Env} {s : State} {m : MethodId} {below : List Frame} {meth : Method} {c : Code} {b L : Nat} {xs : Nat → Int32} {Q : State → Prop} {G : GG} {z : Nat} {ad : Nat → Nat} {M : Mem} {H : Heap} {locs : List Loc} {ls : Array Slot} {i cz sy : Nat} (hst : l.stackTraces = false) (hx : p.tables.exec = Jvm.exec) (hb : c.code = code) (hml : c.maxLocals = 7) (hown : s.vm.findClass RL = some m.cls) {cx : Cond} (hts : ∀ w ∈ cx :: lwg, w.before #[Value.ref b] s = true) (hX : va_X b L xs s s.heap) (hbl : b < s.heap.size) (hbz : ¬ z ≤ b) (hI : Iv G z ad M s H locs) (hl : lv_has ls 7 [(0, .ref b), (1, .ref (ad 0)), (2, .ref (ad 60)), (3, .ref (ad 99)), (4, .int (nI i))]) (hiL : i + 6 ≤ L) (hL : L ≤ 3072) (hcz : cz + 10 ≤ 601024) (hsy : sy + 300 ≤ 7293034) {n : Nat} {kd : Nat → Nat} {fm : Nat → Int32} {to : Nat → Int32} {sz : Nat → Nat} {rl : Nat → Nat → Nat} {en : Nat → Nat → Nat} {qa : Nat} {qs : Nat} {fw : Int32} {len : Nat} {tb : Nat → Nat} {le : Nat → Nat} {mo : Nat → Nat} {al : Nat → Nat} {ho : Nat → Bool} {jn : Nat} {hg : Nat → Nat} {lst : Nat → Nat} {jd : Nat → Nat} {s0 : Nat} {r0 : Nat → Nat} {th : Nat → Option Nat} {ol : Nat → Option Nat} {e0 : Nat → Nat} {mm9 : Nat → Bool} {ff : Nat → Int32} {lq : Nat → Int32} {ra : Nat} {rb : Nat} {rt : Int32} {rv : Int32} {qm : Nat} {pz : Nat} {sx : Nat → Int64} {ft : Nat → Nat} {rx : Nat → Int64} {dm : Nat → Int64} {rc : Nat → Int32} {ao : Nat} {vr : Nat} {kn : Nat → Nat} {nq : Nat → Bool} {pn : Nat → Nat} {av : Nat → Nat} {ro : Nat → Nat} {te : Nat → Nat} {sq : Nat} {su : Nat} {kb : Nat → Nat} {nb : Nat → Bool} {pb : Nat → Nat} {ab : Nat → Nat} {rbb : Nat → Nat} {tbb : Nat → Nat} {tw : Nat} {sn : Nat} {pt : Nat} {zs : Nat} {bg : Nat} {mk : Nat → Nat} {mf : Nat → Int32} {mu : Nat → Int32} {mz : Nat → Nat} {rr : Nat → Nat} {ee : Nat → Nat} {oa : Nat → Nat} {ob : Nat → Nat} {s74 : Nat → Int32} {ak : Nat → Int32} {nm : Nat → Bool} {ap : Nat → Nat} {pr : Nat → Int32} {pf : Nat → Int32} {tf : Nat → Int32} {fv : Nat → Int32} {tr : Nat → Bool} {gv : Nat → Option Nat} {fo : Nat → Int32} {re : Nat → Bool} {us : Nat → Bool} {nx : Nat → Bool} {of : Nat → Int64} (fL : LSm G ad M n kd fm to sz rl en) (w1 : LSw n kd sz rl en) (w2 : MRel n kd fm to sz rl en mk mf mu mz rr ee) (w3 : JI jn hg lst jd oa ob) (w4 : len ≤ 400) (w5 : ∀ j, j < len → tb j < 256) (w6 : ∀ j, j < len → tf j = sB (tb j)) (w7 : s0 ≤ 6) (w8 : mz 120 = s0) (w9 : ∀ j, j < s0 → rr (720 + j) = r0 j ∧ ee (720 + j) = e0 j) (w10 : ∀ j, j < s0 → r0 j < 6) (w11 : ∀ j, j < s0 → e0 j < 40 + n) (w12 : ∀ j, j < s0 → th j = thE e0 j) (w13 : ∀ j, j < s0 → ol j = olE e0 j) (w14 : ∀ j, j < 36 → le j < 100) (w15 : ∀ j, j < 36 → mo j < 100) (w16 : ∀ j, j < 36 → al j ≤ 100) (w17 : ∀ i, i < n → (0 : Int32) ≤ fm i) (w18 : ∀ i, i < n → ∀ k, hgs sz en i k = true → fm k ≤ fm i) (w19 : ao ≤ 6) (w20 : vr < 8) (w21 : ∀ i, i < ao → ap i ≤ 4 ∧ (ak i = nI (kn i) ∧ kn i < 6) ∧ ∀ p8, p8 < ap i → (pr (4 * i + p8) = nI (ro (i * 4 + p8)) ∧ ro (i * 4 + p8) < 6) ∧ te (i * 4 + p8) < 43 ∧ pf (4 * i + p8) = tmI (te (i * 4 + p8))) (w22 : ∀ i, i < ao → nm i = nq i ∧ ap i = pn i) (w23 : ∀ i, i < ao → av i < 8) (w24 : ∀ i, i < ao → (av i).testBit 0 = false → ∀ p9, p9 < pn i → te (i * 4 + p9) ≠ 40) (w25 : ∀ v, v < 3 → vr.testBit v = true → ∃ i, i < ao ∧ nq i = false ∧ ∃ k, k < pn i ∧ te (i * 4 + k) = 40 + v) (w26 : 29 < qa ∧ qa < 38) (w27 : 29 < qs ∧ qs < 38) (w28 : qa + 7 ≤ qs ∨ qs + 7 ≤ qa) (w29 : 29 < qm ∧ qm < 51) (w30 : n = 0 → (∃ mcn : Int32, M 17 = some (cList ad mcn G.2.2.2.2 0)) ∧ M 18 = none) (w31 : M 29 = none) (w32 : ∀ j, 100 + 5 * n ≤ j → M j = none) (f_0 : M 0 = some (cStore ad qa qs fw)) (f_1 : M 1 = some (cTape ad len)) (f_2 : M 2 = some (aI G 400 (nF tb))) (f_3 : M 3 = some (cLaws ad )) (f_4 : M 4 = some (aI G 36 (nF le))) (f_5 : M 5 = some (aI G 36 (nF mo))) (f_6 : M 6 = some (aI G 36 (nF al))) (f_7 : M 7 = some (aZ G 6 (bF ho))) (f_8 : M 8 = some (cOnes ad jn)) (f_9 : M 9 = some (aI G 40 (nF hg))) (f_10 : M 10 = some (aI G 40 (nF lst))) (f_11 : M 11 = some (aI G 40 (nF jd))) (f_12 : M 12 = some (cEnds ad 12 s0)) (f_13 : M 13 = some (aI G 6 (nF r0))) (f_14 : M 14 = some (aI G 6 (oF th))) (f_15 : M 15 = some (aI G 6 (oF ol))) (f_19 : M 19 = some (aZ G 120 (bF mm9))) (f_20 : M 20 = some (aI G 120 ff)) (f_21 : M 21 = some (aI G 120 lq)) (f_22 : M 22 = some (cReader ad ra rb rt rv)) (f_23 : M 23 = some (cMatcher ad qm pz)) (f_24 : M 24 = some (aJ G 2160 sx)) (f_25 : M 25 = some (aI G 6 (nF ft))) (f_26 : M 26 = some (aJ G 240 rx)) (f_27 : M 27 = some (aJ G 3 dm)) (f_28 : M 28 = some (aI G 3 rc)) (f_qa : M qa = some (cQuestion ad qa ao vr)) (f_qa_1 : M (qa + 1) = some (aI G 6 (nF kn))) (f_qa_2 : M (qa + 2) = some (aZ G 6 (bF nq))) (f_qa_3 : M (qa + 3) = some (aI G 6 (nF pn))) (f_qa_4 : M (qa + 4) = some (aI G 6 (nF av))) (f_qa_5 : M (qa + 5) = some (aI G 24 (nF ro))) (f_qa_6 : M (qa + 6) = some (aI G 24 (nF te))) (f_qs : M qs = some (cQuestion ad qs sq su)) (f_qs_1 : M (qs + 1) = some (aI G 6 (nF kb))) (f_qs_2 : M (qs + 2) = some (aZ G 6 (bF nb))) (f_qs_3 : M (qs + 3) = some (aI G 6 (nF pb))) (f_qs_4 : M (qs + 4) = some (aI G 6 (nF ab))) (f_qs_5 : M (qs + 5) = some (aI G 24 (nF rbb))) (f_qs_6 : M (qs + 6) = some (aI G 24 (nF tbb))) (f_60 : M 60 = some (cModel ad tw n jn ao vr sn len pt zs bg fw)) (f_61 : M 61 = some (aI G 36 (nF le))) (f_62 : M 62 = some (aI G 36 (nF mo))) (f_63 : M 63 = some (aI G 36 (nF al))) (f_64 : M 64 = some (aZ G 6 (bF ho))) (f_65 : M 65 = some (aI G 120 (nF mk))) (f_66 : M 66 = some (aI G 120 mf)) (f_67 : M 67 = some (aI G 120 mu)) (f_68 : M 68 = some (aI G 121 (nF mz))) (f_69 : M 69 = some (aI G 726 (nF rr))) (f_70 : M 70 = some (aI G 726 (nF ee))) (f_71 : M 71 = some (aI G 40 (nF lst))) (f_72 : M 72 = some (aI G 40 (nF oa))) (f_73 : M 73 = some (aI G 40 (nF ob))) (f_74 : M 74 = some (aI G 120 s74)) (f_75 : M 75 = some (aI G 12 ak)) (f_76 : M 76 = some (aZ G 12 (bF nm))) (f_77 : M 77 = some (aI G 12 (nF ap))) (f_78 : M 78 = some (aI G 48 pr)) (f_79 : M 79 = some (aI G 48 pf)) (f_80 : M 80 = some (aB G 400 tf)) (f_81 : M 81 = some (aI G 5 fv)) (f_82 : M 82 = some (aZ G 384000 (bF tr))) (f_83 : M 83 = some (aI G 3 (oF gv))) (f_84 : M 84 = some (aI G 3 fo)) (f_85 : M 85 = some (aZ G 40 (bF re))) (f_86 : M 86 = some (aZ G 120 (bF us))) (f_87 : M 87 = some (aZ G 120 (bF nx))) (f_99 : M 99 = some (aJ G 1 of)) (kk : ∀ (ad1 : Nat → Nat) (M1 : Mem) (H1 : Heap) (locs1 : List Loc) (ls1 : Array Slot) (n : Nat) (kd : Nat → Nat) (fm : Nat → Int32) (to : Nat → Int32) (sz : Nat → Nat) (rl : Nat → Nat → Nat) (en : Nat → Nat → Nat) (qa : Nat) (qs : Nat) (fw : Int32) (len : Nat) (tb : Nat → Nat) (le : Nat → Nat) (mo : Nat → Nat) (al : Nat → Nat) (ho : Nat → Bool) (jn : Nat) (hg : Nat → Nat) (lst : Nat → Nat) (jd : Nat → Nat) (s0 : Nat) (r0 : Nat → Nat) (th : Nat → Option Nat) (ol : Nat → Option Nat) (e0 : Nat → Nat) (mm9 : Nat → Bool) (ff : Nat → Int32) (lq : Nat → Int32) (ra : Nat) (rb : Nat) (rt : Int32) (rv : Int32) (qm : Nat) (pz : Nat) (sx : Nat → Int64) (ft : Nat → Nat) (rx : Nat → Int64) (dm : Nat → Int64) (rc : Nat → Int32) (ao : Nat) (vr : Nat) (kn : Nat → Nat) (nq : Nat → Bool) (pn : Nat → Nat) (av : Nat → Nat) (ro : Nat → Nat) (te : Nat → Nat) (sq : Nat) (su : Nat) (kb : Nat → Nat) (nb : Nat → Bool) (pb : Nat → Nat) (ab : Nat → Nat) (rbb : Nat → Nat) (tbb : Nat → Nat) (tw : Nat) (sn : Nat) (pt : Nat) (zs : Nat) (bg : Nat) (mk : Nat → Nat) (mf : Nat → Int32) (mu : Nat → Int32) (mz : Nat → Nat) (rr : Nat → Nat) (ee : Nat → Nat) (oa : Nat → Nat) (ob : Nat → Nat) (s74 : Nat → Int32) (ak : Nat → Int32) (nm : Nat → Bool) (ap : Nat → Nat) (pr : Nat → Int32) (pf : Nat → Int32) (tf : Nat → Int32) (fv : Nat → Int32) (tr : Nat → Bool) (gv : Nat → Option Nat) (fo : Nat → Int32) (re : Nat → Bool) (us : Nat → Bool) (nx : Nat → Bool) (of : Nat → Int64), (LSm G ad1 M1 n kd fm to sz rl en) → (LSw n kd sz rl en) → (MRel n kd fm to sz rl en mk mf mu mz rr ee) → (JI jn hg lst jd oa ob) → (len ≤ 400) → (∀ j, j < len → tb j < 256) → (∀ j, j < len → tf j = sB (tb j)) → (s0 ≤ 6) → (mz 120 = s0) → (∀ j, j < s0 → rr (720 + j) = r0 j ∧ ee (720 + j) = e0 j) → (∀ j, j < s0 → r0 j < 6) → (∀ j, j < s0 → e0 j < 40 + n) → (∀ j, j < s0 → th j = thE e0 j) → (∀ j, j < s0 → ol j = olE e0 j) → (∀ j, j < 36 → le j < 100) → (∀ j, j < 36 → mo j < 100) → (∀ j, j < 36 → al j ≤ 100) → (∀ i, i < n → (0 : Int32) ≤ fm i) → (∀ i, i < n → ∀ k, hgs sz en i k = true → fm k ≤ fm i) → (ao ≤ 6) → (vr < 8) → (∀ i, i < ao → ap i ≤ 4 ∧ (ak i = nI (kn i) ∧ kn i < 6) ∧ ∀ p8, p8 < ap i → (pr (4 * i + p8) = nI (ro (i * 4 + p8)) ∧ ro (i * 4 + p8) < 6) ∧ te (i * 4 + p8) < 43 ∧ pf (4 * i + p8) = tmI (te (i * 4 + p8))) → (∀ i, i < ao → nm i = nq i ∧ ap i = pn i) → (∀ i, i < ao → av i < 8) → (∀ i, i < ao → (av i).testBit 0 = false → ∀ p9, p9 < pn i → te (i * 4 + p9) ≠ 40) → (∀ v, v < 3 → vr.testBit v = true → ∃ i, i < ao ∧ nq i = false ∧ ∃ k, k < pn i ∧ te (i * 4 + k) = 40 + v) → (29 < qa ∧ qa < 38) → (29 < qs ∧ qs < 38) → (qa + 7 ≤ qs ∨ qs + 7 ≤ qa) → (29 < qm ∧ qm < 51) → (n = 0 → (∃ mcn : Int32, M1 17 = some (cList ad1 mcn G.2.2.2.2 0)) ∧ M1 18 = none) → (M1 29 = none) → (∀ j, 100 + 5 * n ≤ j → M1 j = none) → (M1 0 = some (cStore ad1 qa qs fw)) → (M1 1 = some (cTape ad1 len)) → (M1 2 = some (aI G 400 (nF tb))) → (M1 3 = some (cLaws ad1 )) → (M1 4 = some (aI G 36 (nF le))) → (M1 5 = some (aI G 36 (nF mo))) → (M1 6 = some (aI G 36 (nF al))) → (M1 7 = some (aZ G 6 (bF ho))) → (M1 8 = some (cOnes ad1 jn)) → (M1 9 = some (aI G 40 (nF hg))) → (M1 10 = some (aI G 40 (nF lst))) → (M1 11 = some (aI G 40 (nF jd))) → (M1 12 = some (cEnds ad1 12 s0)) → (M1 13 = some (aI G 6 (nF r0))) → (M1 14 = some (aI G 6 (oF th))) → (M1 15 = some (aI G 6 (oF ol))) → (M1 19 = some (aZ G 120 (bF mm9))) → (M1 20 = some (aI G 120 ff)) → (M1 21 = some (aI G 120 lq)) → (M1 22 = some (cReader ad1 ra rb rt rv)) → (M1 23 = some (cMatcher ad1 qm pz)) → (M1 24 = some (aJ G 2160 sx)) → (M1 25 = some (aI G 6 (nF ft))) → (M1 26 = some (aJ G 240 rx)) → (M1 27 = some (aJ G 3 dm)) → (M1 28 = some (aI G 3 rc)) → (M1 qa = some (cQuestion ad1 qa ao vr)) → (M1 (qa + 1) = some (aI G 6 (nF kn))) → (M1 (qa + 2) = some (aZ G 6 (bF nq))) → (M1 (qa + 3) = some (aI G 6 (nF pn))) → (M1 (qa + 4) = some (aI G 6 (nF av))) → (M1 (qa + 5) = some (aI G 24 (nF ro))) → (M1 (qa + 6) = some (aI G 24 (nF te))) → (M1 qs = some (cQuestion ad1 qs sq su)) → (M1 (qs + 1) = some (aI G 6 (nF kb))) → (M1 (qs + 2) = some (aZ G 6 (bF nb))) → (M1 (qs + 3) = some (aI G 6 (nF pb))) → (M1 (qs + 4) = some (aI G 6 (nF ab))) → (M1 (qs + 5) = some (aI G 24 (nF rbb))) → (M1 (qs + 6) = some (aI G 24 (nF tbb))) → (M1 60 = some (cModel ad1 tw n jn ao vr sn len pt zs bg fw)) → (M1 61 = some (aI G 36 (nF le))) → (M1 62 = some (aI G 36 (nF mo))) → (M1 63 = some (aI G 36 (nF al))) → (M1 64 = some (aZ G 6 (bF ho))) → (M1 65 = some (aI G 120 (nF mk))) → (M1 66 = some (aI G 120 mf)) → (M1 67 = some (aI G 120 mu)) → (M1 68 = some (aI G 121 (nF mz))) → (M1 69 = some (aI G 726 (nF rr))) → (M1 70 = some (aI G 726 (nF ee))) → (M1 71 = some (aI G 40 (nF lst))) → (M1 72 = some (aI G 40 (nF oa))) → (M1 73 = some (aI G 40 (nF ob))) → (M1 74 = some (aI G 120 s74)) → (M1 75 = some (aI G 12 ak)) → (M1 76 = some (aZ G 12 (bF nm))) → (M1 77 = some (aI G 12 (nF ap))) → (M1 78 = some (aI G 48 pr)) → (M1 79 = some (aI G 48 pf)) → (M1 80 = some (aB G 400 tf)) → (M1 81 = some (aI G 5 fv)) → (M1 82 = some (aZ G 384000 (bF tr))) → (M1 83 = some (aI G 3 (oF gv))) → (M1 84 = some (aI G 3 fo)) → (M1 85 = some (aZ G 40 (bF re))) → (M1 86 = some (aZ G 120 (bF us))) → (M1 87 = some (aZ G 120 (bF nx))) → (M1 99 = some (aJ G 1 of)) → Iv G z ad1 M1 s H1 locs1 → lv_has ls1 7 [(0, .ref b), (1, .ref (ad1 0)), (2, .ref (ad1 60)), (3, .ref (ad1 99)), (4, .int (nI i))] → W p l e room_1 s m #[Value.ref b] below meth c H1 locs1 (cz + 10) (sy + 300) Q (F0 m 1333 ls1 [])) : W p l e room_1 s m #[Value.ref b] below meth c H locs cz sy Q (F0 m 366 ls []) := by
  have h16 := fL.1
  have hw1 := w1.1
  have hlst := ji_lst w3
  rcases (in_or 6 (xs (i + 1)) (by omega) : (xs (i + 1) < 0 ∨ ¬ xs (i + 1) < nI 6) ∨ (∃ t : Nat, t < 6 ∧ xs (i + 1) = nI t)) with hc_1 | hc_2
  · skip
    refine lv_aload_n hx hb dL_law_366 rfl (lv_at hl 1 rfl) ?_
    refine lv_aload_n hx hb dL_law_367 rfl (lv_at hl 0 rfl) ?_
    refine lv_iload hx hb dL_law_368 (lv_at hl 4 rfl) ?_
    refine lv_iconst (v := nI 1) hx hb dL_law_370 (by decide) ?_
    refine lv_iadd hx hb dL_law_371 ?_
    refine n_eq (nI_add i 1) ?_
    refine va_sld (A := fr z) hx hb hX hbl hbz hI.S (vp_in_nI (n := i + 1) (by omega) (by omega)) dL_law_372 ?_
    rw [nI_clamp (by omega)]
    refine lv_aload_n hx hb dL_law_373 rfl (lv_at hl 0 rfl) ?_
    refine lv_iload hx hb dL_law_374 (lv_at hl 4 rfl) ?_
    refine lv_iconst (v := nI 2) hx hb dL_law_376 (by decide) ?_
    refine lv_iadd hx hb dL_law_377 ?_
    refine n_eq (nI_add i 2) ?_
    refine va_sld (A := fr z) hx hb hX hbl hbz hI.S (vp_in_nI (n := i + 2) (by omega) (by omega)) dL_law_378 ?_
    rw [nI_clamp (by omega)]
    refine lv_if_eq (tgt := 386) hx hb dL_law_379 (by decide) (fun c_3 => ?_) (fun c_3 => ?_)
    · -- 379: xs (i + 2) eq
      refine lv_iconst (v := nI 0) hx hb dL_law_386 (by decide) ?_
      refine n_eq (show _ = bI false from rfl) ?_
      refine lv_aload_n hx hb dL_law_387 rfl (lv_at hl 3 rfl) ?_
      refine k_Ni (vx_runSW (As := [.ref (ad 0), .int (xs (i + 1)), .int (bI false), .ref (ad 99)]) (rest := []) ⟨hx, hb, hml, hown, hts⟩ (c_L_holds_a l hst G z ad M (qa := qa) (qs := qs) (fw := fw) (x0 := xs (i + 1)) (b := false) f_0 hc_1) (vx_cwSW 4 hts (gSW (lwg_of t_585 rfl) (lwg_of t_586 rfl) (lwg_of t_0 rfl) (lwg_of t_587 rfl)) rfl rfl rfl (by decide +kernel) ⟨Nat.le_of_ble_eq_true rfl, Nat.le_of_ble_eq_true rfl⟩) hI.preS rfl rfl hl.1 rfl (lv_room (Nat.le_of_ble_eq_true rfl)) dL_law_388 ⟨(show _ ≤ (601024 : Nat) from by omega), (show _ ≤ (7293034 : Nat) from by omega)⟩) hI (fun r_4 M_6 H_7 locs_8 hp_5 hI => ?_)
      obtain ⟨hr_9, hF_10⟩ := hp_5
      have hm_11 : M_6 0 = some (cStore ad qa qs fw) := by rw [hF_10 0 ]; exact f_0
      have hm_12 : M_6 1 = some (cTape ad len) := by rw [hF_10 1 ]; exact f_1
      have hm_13 : M_6 2 = some (aI G 400 (nF tb)) := by rw [hF_10 2 ]; exact f_2
      have hm_14 : M_6 3 = some (cLaws ad ) := by rw [hF_10 3 ]; exact f_3
      have hm_15 : M_6 4 = some (aI G 36 (nF le)) := by rw [hF_10 4 ]; exact f_4
      have hm_16 : M_6 5 = some (aI G 36 (nF mo)) := by rw [hF_10 5 ]; exact f_5
      have hm_17 : M_6 6 = some (aI G 36 (nF al)) := by rw [hF_10 6 ]; exact f_6
      have hm_18 : M_6 7 = some (aZ G 6 (bF ho)) := by rw [hF_10 7 ]; exact f_7
      have hm_19 : M_6 8 = some (cOnes ad jn) := by rw [hF_10 8 ]; exact f_8
      have hm_20 : M_6 9 = some (aI G 40 (nF hg)) := by rw [hF_10 9 ]; exact f_9
      have hm_21 : M_6 10 = some (aI G 40 (nF lst)) := by rw [hF_10 10 ]; exact f_10
      have hm_22 : M_6 11 = some (aI G 40 (nF jd)) := by rw [hF_10 11 ]; exact f_11
      have hm_23 : M_6 12 = some (cEnds ad 12 s0) := by rw [hF_10 12 ]; exact f_12
      have hm_24 : M_6 13 = some (aI G 6 (nF r0)) := by rw [hF_10 13 ]; exact f_13
      have hm_25 : M_6 14 = some (aI G 6 (oF th)) := by rw [hF_10 14 ]; exact f_14
      have hm_26 : M_6 15 = some (aI G 6 (oF ol)) := by rw [hF_10 15 ]; exact f_15
      have hm_27 : M_6 19 = some (aZ G 120 (bF mm9)) := by rw [hF_10 19 ]; exact f_19
      have hm_28 : M_6 20 = some (aI G 120 ff) := by rw [hF_10 20 ]; exact f_20
      have hm_29 : M_6 21 = some (aI G 120 lq) := by rw [hF_10 21 ]; exact f_21
      have hm_30 : M_6 22 = some (cReader ad ra rb rt rv) := by rw [hF_10 22 ]; exact f_22
      have hm_31 : M_6 23 = some (cMatcher ad qm pz) := by rw [hF_10 23 ]; exact f_23
      have hm_32 : M_6 24 = some (aJ G 2160 sx) := by rw [hF_10 24 ]; exact f_24
      have hm_33 : M_6 25 = some (aI G 6 (nF ft)) := by rw [hF_10 25 ]; exact f_25
      have hm_34 : M_6 26 = some (aJ G 240 rx) := by rw [hF_10 26 ]; exact f_26
      have hm_35 : M_6 27 = some (aJ G 3 dm) := by rw [hF_10 27 ]; exact f_27
      have hm_36 : M_6 28 = some (aI G 3 rc) := by rw [hF_10 28 ]; exact f_28
      have hm_37 : M_6 qa = some (cQuestion ad qa ao vr) := by rw [hF_10 qa ]; exact f_qa
      have hm_38 : M_6 (qa + 1) = some (aI G 6 (nF kn)) := by rw [hF_10 (qa + 1) ]; exact f_qa_1
      have hm_39 : M_6 (qa + 2) = some (aZ G 6 (bF nq)) := by rw [hF_10 (qa + 2) ]; exact f_qa_2
      have hm_40 : M_6 (qa + 3) = some (aI G 6 (nF pn)) := by rw [hF_10 (qa + 3) ]; exact f_qa_3
      have hm_41 : M_6 (qa + 4) = some (aI G 6 (nF av)) := by rw [hF_10 (qa + 4) ]; exact f_qa_4
      have hm_42 : M_6 (qa + 5) = some (aI G 24 (nF ro)) := by rw [hF_10 (qa + 5) ]; exact f_qa_5
      have hm_43 : M_6 (qa + 6) = some (aI G 24 (nF te)) := by rw [hF_10 (qa + 6) ]; exact f_qa_6
      have hm_44 : M_6 qs = some (cQuestion ad qs sq su) := by rw [hF_10 qs ]; exact f_qs
      have hm_45 : M_6 (qs + 1) = some (aI G 6 (nF kb)) := by rw [hF_10 (qs + 1) ]; exact f_qs_1
      have hm_46 : M_6 (qs + 2) = some (aZ G 6 (bF nb)) := by rw [hF_10 (qs + 2) ]; exact f_qs_2
      have hm_47 : M_6 (qs + 3) = some (aI G 6 (nF pb)) := by rw [hF_10 (qs + 3) ]; exact f_qs_3
      have hm_48 : M_6 (qs + 4) = some (aI G 6 (nF ab)) := by rw [hF_10 (qs + 4) ]; exact f_qs_4
      have hm_49 : M_6 (qs + 5) = some (aI G 24 (nF rbb)) := by rw [hF_10 (qs + 5) ]; exact f_qs_5
      have hm_50 : M_6 (qs + 6) = some (aI G 24 (nF tbb)) := by rw [hF_10 (qs + 6) ]; exact f_qs_6
      have hm_51 : M_6 60 = some (cModel ad tw n jn ao vr sn len pt zs bg fw) := by rw [hF_10 60 ]; exact f_60
      have hm_52 : M_6 61 = some (aI G 36 (nF le)) := by rw [hF_10 61 ]; exact f_61
      have hm_53 : M_6 62 = some (aI G 36 (nF mo)) := by rw [hF_10 62 ]; exact f_62
      have hm_54 : M_6 63 = some (aI G 36 (nF al)) := by rw [hF_10 63 ]; exact f_63
      have hm_55 : M_6 64 = some (aZ G 6 (bF ho)) := by rw [hF_10 64 ]; exact f_64
      have hm_56 : M_6 65 = some (aI G 120 (nF mk)) := by rw [hF_10 65 ]; exact f_65
      have hm_57 : M_6 66 = some (aI G 120 mf) := by rw [hF_10 66 ]; exact f_66
      have hm_58 : M_6 67 = some (aI G 120 mu) := by rw [hF_10 67 ]; exact f_67
      have hm_59 : M_6 68 = some (aI G 121 (nF mz)) := by rw [hF_10 68 ]; exact f_68
      have hm_60 : M_6 69 = some (aI G 726 (nF rr)) := by rw [hF_10 69 ]; exact f_69
      have hm_61 : M_6 70 = some (aI G 726 (nF ee)) := by rw [hF_10 70 ]; exact f_70
      have hm_62 : M_6 71 = some (aI G 40 (nF lst)) := by rw [hF_10 71 ]; exact f_71
      have hm_63 : M_6 72 = some (aI G 40 (nF oa)) := by rw [hF_10 72 ]; exact f_72
      have hm_64 : M_6 73 = some (aI G 40 (nF ob)) := by rw [hF_10 73 ]; exact f_73
      have hm_65 : M_6 74 = some (aI G 120 s74) := by rw [hF_10 74 ]; exact f_74
      have hm_66 : M_6 75 = some (aI G 12 ak) := by rw [hF_10 75 ]; exact f_75
      have hm_67 : M_6 76 = some (aZ G 12 (bF nm)) := by rw [hF_10 76 ]; exact f_76
      have hm_68 : M_6 77 = some (aI G 12 (nF ap)) := by rw [hF_10 77 ]; exact f_77
      have hm_69 : M_6 78 = some (aI G 48 pr) := by rw [hF_10 78 ]; exact f_78
      have hm_70 : M_6 79 = some (aI G 48 pf) := by rw [hF_10 79 ]; exact f_79
      have hm_71 : M_6 80 = some (aB G 400 tf) := by rw [hF_10 80 ]; exact f_80
      have hm_72 : M_6 81 = some (aI G 5 fv) := by rw [hF_10 81 ]; exact f_81
      have hm_73 : M_6 82 = some (aZ G 384000 (bF tr)) := by rw [hF_10 82 ]; exact f_82
      have hm_74 : M_6 83 = some (aI G 3 (oF gv)) := by rw [hF_10 83 ]; exact f_83
      have hm_75 : M_6 84 = some (aI G 3 fo) := by rw [hF_10 84 ]; exact f_84
      have hm_76 : M_6 85 = some (aZ G 40 (bF re)) := by rw [hF_10 85 ]; exact f_85
      have hm_77 : M_6 86 = some (aZ G 120 (bF us)) := by rw [hF_10 86 ]; exact f_86
      have hm_78 : M_6 87 = some (aZ G 120 (bF nx)) := by rw [hF_10 87 ]; exact f_87
      have hm_79 : M_6 99 = some (aJ G 1 of) := by rw [hF_10 99 ]; exact f_99
      have hm_80 : M_6 16 = some (cLines ad ) := by rw [hF_10 16 ]; exact h16
      have hL_81 : LSm G ad M_6 n kd fm to sz rl en := fL.keep (fun j hj => hF_10 j )
      rw [hr_9]
      refine lv_istore (lv' := [(5, .int (nI 1)), (0, .ref b), (1, .ref (ad 0)), (2, .ref (ad 60)), (3, .ref (ad 99)), (4, .int (nI i))]) hx hb dL_law_391 hl (by decide) rfl (fun ls hl => ?_)
      refine lv_aload_n hx hb dL_law_393 rfl (lv_at hl 3 rfl) ?_
      refine lv_aload_n hx hb dL_law_394 rfl (lv_at hl 1 rfl) ?_
      refine lv_iload hx hb dL_law_395 (lv_at hl 5 rfl) ?_
      refine lv_iconst (v := nI 1) hx hb dL_law_397 (by decide) ?_
      refine lv_iadd hx hb dL_law_398 ?_
      refine n_eq (nI_add i 1) ?_
      refine va_sld (A := fr z) hx hb hX hbl hbz hI.S (vp_in_nI (n := i + 1) (by omega) (by omega)) dL_law_399 ?_
      rw [nI_clamp (by omega)]
      refine lv_aload_n hx hb dL_law_400 rfl (lv_at hl 1 rfl) ?_
      refine lv_iload hx hb dL_law_401 (lv_at hl 5 rfl) ?_
      refine lv_iconst (v := nI 2) hx hb dL_law_403 (by decide) ?_
      refine lv_iadd hx hb dL_law_404 ?_
      refine n_eq (nI_add i 2) ?_
      refine va_sld (A := fr z) hx hb hX hbl hbz hI.S (vp_in_nI (n := i + 2) (by omega) (by omega)) dL_law_405 ?_
      rw [nI_clamp (by omega)]
      refine lv_if_eq (tgt := 413) hx hb dL_law_406 (by decide) (fun c_82 => ?_) (fun c_82 => ?_)
      · -- 406: xs (i + 2) eq
        refine lv_iconst (v := nI 0) hx hb dL_law_413 (by decide) ?_
        refine n_eq (show _ = bI false from rfl) ?_
        refine k_Ni (va_runV (As := [.int (xs (i + 1)), .int (bI false)]) (rest := []) ⟨hx, hb, hml, hown, hts⟩ (c_X10_holds_a l G z ad M_6 (th := tw) (ln := n) (on := jn) (ao := ao) (vr := vr) (sn := sn) (tp := len) (pt := pt) (zs := zs) (bg := bg) (fa := fw) (x0 := xs (i + 1)) (b := false) hm_51 hc_1) (cwV 2 hts (gV (lwg_of t_1149 rfl) (lwg_of t_1150 rfl) (lwg_of t_1151 rfl) (lwg_of t_13 rfl) (lwg_of t_1152 rfl)) rfl rfl rfl (by decide +kernel) ⟨Nat.le_of_ble_eq_true rfl, Nat.le_of_ble_eq_true rfl⟩) (hI.preV hm_51 rfl) rfl rfl hl.1 rfl (lv_room (Nat.le_of_ble_eq_true rfl)) dL_law_414 ⟨(show _ ≤ (601024 : Nat) from by omega), (show _ ≤ (7293034 : Nat) from by omega)⟩) hI (fun r_83 M_85 H_86 locs_87 hp_84 hI => ?_)
        obtain ⟨hr_88, hm_89, hF_90⟩ := hp_84
        have hm_91 : M_85 0 = some (cStore ad qa qs fw) := by rw [hF_90 0 (by omega)]; exact hm_11
        have hm_92 : M_85 1 = some (cTape ad len) := by rw [hF_90 1 (by omega)]; exact hm_12
        have hm_93 : M_85 2 = some (aI G 400 (nF tb)) := by rw [hF_90 2 (by omega)]; exact hm_13
        have hm_94 : M_85 3 = some (cLaws ad ) := by rw [hF_90 3 (by omega)]; exact hm_14
        have hm_95 : M_85 4 = some (aI G 36 (nF le)) := by rw [hF_90 4 (by omega)]; exact hm_15
        have hm_96 : M_85 5 = some (aI G 36 (nF mo)) := by rw [hF_90 5 (by omega)]; exact hm_16
        have hm_97 : M_85 6 = some (aI G 36 (nF al)) := by rw [hF_90 6 (by omega)]; exact hm_17
        have hm_98 : M_85 7 = some (aZ G 6 (bF ho)) := by rw [hF_90 7 (by omega)]; exact hm_18
        have hm_99 : M_85 8 = some (cOnes ad jn) := by rw [hF_90 8 (by omega)]; exact hm_19
        have hm_100 : M_85 9 = some (aI G 40 (nF hg)) := by rw [hF_90 9 (by omega)]; exact hm_20
        have hm_101 : M_85 10 = some (aI G 40 (nF lst)) := by rw [hF_90 10 (by omega)]; exact hm_21
        have hm_102 : M_85 11 = some (aI G 40 (nF jd)) := by rw [hF_90 11 (by omega)]; exact hm_22
        have hm_103 : M_85 12 = some (cEnds ad 12 s0) := by rw [hF_90 12 (by omega)]; exact hm_23
        have hm_104 : M_85 13 = some (aI G 6 (nF r0)) := by rw [hF_90 13 (by omega)]; exact hm_24
        have hm_105 : M_85 14 = some (aI G 6 (oF th)) := by rw [hF_90 14 (by omega)]; exact hm_25
        have hm_106 : M_85 15 = some (aI G 6 (oF ol)) := by rw [hF_90 15 (by omega)]; exact hm_26
        have hm_107 : M_85 19 = some (aZ G 120 (bF mm9)) := by rw [hF_90 19 (by omega)]; exact hm_27
        have hm_108 : M_85 20 = some (aI G 120 ff) := by rw [hF_90 20 (by omega)]; exact hm_28
        have hm_109 : M_85 21 = some (aI G 120 lq) := by rw [hF_90 21 (by omega)]; exact hm_29
        have hm_110 : M_85 22 = some (cReader ad ra rb rt rv) := by rw [hF_90 22 (by omega)]; exact hm_30
        have hm_111 : M_85 23 = some (cMatcher ad qm pz) := by rw [hF_90 23 (by omega)]; exact hm_31
        have hm_112 : M_85 24 = some (aJ G 2160 sx) := by rw [hF_90 24 (by omega)]; exact hm_32
        have hm_113 : M_85 25 = some (aI G 6 (nF ft)) := by rw [hF_90 25 (by omega)]; exact hm_33
        have hm_114 : M_85 26 = some (aJ G 240 rx) := by rw [hF_90 26 (by omega)]; exact hm_34
        have hm_115 : M_85 27 = some (aJ G 3 dm) := by rw [hF_90 27 (by omega)]; exact hm_35
        have hm_116 : M_85 28 = some (aI G 3 rc) := by rw [hF_90 28 (by omega)]; exact hm_36
        have hm_117 : M_85 qa = some (cQuestion ad qa ao vr) := by rw [hF_90 qa (by omega)]; exact hm_37
        have hm_118 : M_85 (qa + 1) = some (aI G 6 (nF kn)) := by rw [hF_90 (qa + 1) (by omega)]; exact hm_38
        have hm_119 : M_85 (qa + 2) = some (aZ G 6 (bF nq)) := by rw [hF_90 (qa + 2) (by omega)]; exact hm_39
        have hm_120 : M_85 (qa + 3) = some (aI G 6 (nF pn)) := by rw [hF_90 (qa + 3) (by omega)]; exact hm_40
        have hm_121 : M_85 (qa + 4) = some (aI G 6 (nF av)) := by rw [hF_90 (qa + 4) (by omega)]; exact hm_41
        have hm_122 : M_85 (qa + 5) = some (aI G 24 (nF ro)) := by rw [hF_90 (qa + 5) (by omega)]; exact hm_42
        have hm_123 : M_85 (qa + 6) = some (aI G 24 (nF te)) := by rw [hF_90 (qa + 6) (by omega)]; exact hm_43
        have hm_124 : M_85 qs = some (cQuestion ad qs sq su) := by rw [hF_90 qs (by omega)]; exact hm_44
        have hm_125 : M_85 (qs + 1) = some (aI G 6 (nF kb)) := by rw [hF_90 (qs + 1) (by omega)]; exact hm_45
        have hm_126 : M_85 (qs + 2) = some (aZ G 6 (bF nb)) := by rw [hF_90 (qs + 2) (by omega)]; exact hm_46
        have hm_127 : M_85 (qs + 3) = some (aI G 6 (nF pb)) := by rw [hF_90 (qs + 3) (by omega)]; exact hm_47
        have hm_128 : M_85 (qs + 4) = some (aI G 6 (nF ab)) := by rw [hF_90 (qs + 4) (by omega)]; exact hm_48
        have hm_129 : M_85 (qs + 5) = some (aI G 24 (nF rbb)) := by rw [hF_90 (qs + 5) (by omega)]; exact hm_49
        have hm_130 : M_85 (qs + 6) = some (aI G 24 (nF tbb)) := by rw [hF_90 (qs + 6) (by omega)]; exact hm_50
        have hm_131 : M_85 61 = some (aI G 36 (nF le)) := by rw [hF_90 61 (by omega)]; exact hm_52
        have hm_132 : M_85 62 = some (aI G 36 (nF mo)) := by rw [hF_90 62 (by omega)]; exact hm_53
        have hm_133 : M_85 63 = some (aI G 36 (nF al)) := by rw [hF_90 63 (by omega)]; exact hm_54
        have hm_134 : M_85 64 = some (aZ G 6 (bF ho)) := by rw [hF_90 64 (by omega)]; exact hm_55
        have hm_135 : M_85 65 = some (aI G 120 (nF mk)) := by rw [hF_90 65 (by omega)]; exact hm_56
        have hm_136 : M_85 66 = some (aI G 120 mf) := by rw [hF_90 66 (by omega)]; exact hm_57
        have hm_137 : M_85 67 = some (aI G 120 mu) := by rw [hF_90 67 (by omega)]; exact hm_58
        have hm_138 : M_85 68 = some (aI G 121 (nF mz)) := by rw [hF_90 68 (by omega)]; exact hm_59
        have hm_139 : M_85 69 = some (aI G 726 (nF rr)) := by rw [hF_90 69 (by omega)]; exact hm_60
        have hm_140 : M_85 70 = some (aI G 726 (nF ee)) := by rw [hF_90 70 (by omega)]; exact hm_61
        have hm_141 : M_85 71 = some (aI G 40 (nF lst)) := by rw [hF_90 71 (by omega)]; exact hm_62
        have hm_142 : M_85 72 = some (aI G 40 (nF oa)) := by rw [hF_90 72 (by omega)]; exact hm_63
        have hm_143 : M_85 73 = some (aI G 40 (nF ob)) := by rw [hF_90 73 (by omega)]; exact hm_64
        have hm_144 : M_85 74 = some (aI G 120 s74) := by rw [hF_90 74 (by omega)]; exact hm_65
        have hm_145 : M_85 75 = some (aI G 12 ak) := by rw [hF_90 75 (by omega)]; exact hm_66
        have hm_146 : M_85 76 = some (aZ G 12 (bF nm)) := by rw [hF_90 76 (by omega)]; exact hm_67
        have hm_147 : M_85 77 = some (aI G 12 (nF ap)) := by rw [hF_90 77 (by omega)]; exact hm_68
        have hm_148 : M_85 78 = some (aI G 48 pr) := by rw [hF_90 78 (by omega)]; exact hm_69
        have hm_149 : M_85 79 = some (aI G 48 pf) := by rw [hF_90 79 (by omega)]; exact hm_70
        have hm_150 : M_85 80 = some (aB G 400 tf) := by rw [hF_90 80 (by omega)]; exact hm_71
        have hm_151 : M_85 81 = some (aI G 5 fv) := by rw [hF_90 81 (by omega)]; exact hm_72
        have hm_152 : M_85 82 = some (aZ G 384000 (bF tr)) := by rw [hF_90 82 (by omega)]; exact hm_73
        have hm_153 : M_85 83 = some (aI G 3 (oF gv)) := by rw [hF_90 83 (by omega)]; exact hm_74
        have hm_154 : M_85 84 = some (aI G 3 fo) := by rw [hF_90 84 (by omega)]; exact hm_75
        have hm_155 : M_85 85 = some (aZ G 40 (bF re)) := by rw [hF_90 85 (by omega)]; exact hm_76
        have hm_156 : M_85 86 = some (aZ G 120 (bF us)) := by rw [hF_90 86 (by omega)]; exact hm_77
        have hm_157 : M_85 87 = some (aZ G 120 (bF nx)) := by rw [hF_90 87 (by omega)]; exact hm_78
        have hm_158 : M_85 99 = some (aJ G 1 of) := by rw [hF_90 99 (by omega)]; exact hm_79
        have hm_159 : M_85 16 = some (cLines ad ) := by rw [hF_90 16 (by omega)]; exact hm_80
        have hL_160 : LSm G ad M_85 n kd fm to sz rl en := hL_81.keep (fun j hj => hF_90 j (by omega))
        have hF_161 : ∀ j : Nat, j ≠ 60 → M_85 j = M j := fun j q0 => (hF_90 j q0).trans (hF_10 j )
        rw [hr_88]
        refine lv_istore (lv' := [(6, .int (nI 0)), (5, .int (nI 1)), (0, .ref b), (1, .ref (ad 0)), (2, .ref (ad 60)), (3, .ref (ad 99)), (4, .int (nI i))]) hx hb dL_law_417 hl (by decide) rfl (fun ls hl => ?_)
        refine lv_aload_n hx hb dL_law_419 rfl (lv_at hl 4 rfl) ?_
        refine k_Ri (va_runV (As := []) (rest := []) ⟨hx, hb, hml, hown, hts⟩ (c_X10_thrown l G z ad M_85 (th := 1) (ln := n) (on := jn) (ao := ao) (vr := vr) (sn := sn) (tp := len) (pt := pt) (zs := zs) (bg := bg) (fa := fw) hm_89) (cwV 0 hts (gV (lwg_of t_997 rfl) (lwg_of t_998 rfl) (lwg_of t_999 rfl) (lwg_of t_13 rfl) (lwg_of t_1000 rfl)) rfl rfl rfl (by decide +kernel) ⟨Nat.le_of_ble_eq_true rfl, Nat.le_of_ble_eq_true rfl⟩) (hI.preV hm_89 rfl) rfl rfl hl.1 rfl (lv_room (Nat.le_of_ble_eq_true rfl)) dL_law_420 ⟨(show _ ≤ (601024 : Nat) from by omega), (show _ ≤ (7293034 : Nat) from by omega)⟩) (fun _ h => h) (fun r_162 hp_163 => ?_)
        rw [hp_163]
        refine lv_iload hx hb dL_law_423 (lv_at hl 1 rfl) ?_
        refine lv_icmp_eq (tgt := 430) hx hb dL_law_425 (by decide) (fun c_164 => ?_) (fun c_164 => ?_)
        · -- 425: nI 1 eq
          refine lv_iload hx hb dL_law_430 (lv_at hl 1 rfl) ?_
          refine lv_if_ne (tgt := 454) hx hb dL_law_432 (by decide) (fun c_165 => ?_) (fun c_165 => ?_)
          · -- 432: nI 1 ne
            refine lv_goto (tgt := 1333) hx hb dL_law_454 (by decide) ?_
            refine W.widen (k := cz + 10) (n := sy + 300) (by omega) (by omega) ?_
            exact kk ad M_85 H_86 locs_87 ls n kd fm to sz rl en qa qs fw len tb le mo al ho jn hg lst jd s0 r0 th ol e0 mm9 ff lq ra rb rt rv qm pz sx ft rx dm rc ao vr kn nq pn av ro te sq su kb nb pb ab rbb tbb 1 sn pt zs bg mk mf mu mz rr ee oa ob s74 ak nm ap pr pf tf fv tr gv fo re us nx of hL_160 w1 w2 w3 w4 w5 w6 w7 w8 w9 w10 w11 w12 w13 w14 w15 w16 w17 w18 w19 w20 w21 w22 w23 w24 w25 w26 w27 w28 w29 (fun h9 => by rw [hF_161 17 (by omega), hF_161 18 (by omega)]; exact w30 h9) (by rw [hF_161 29 (by omega)]; exact w31) (fun j9 h9 => by rw [hF_161 j9 (by omega)]; exact w32 j9 h9) hm_91 hm_92 hm_93 hm_94 hm_95 hm_96 hm_97 hm_98 hm_99 hm_100 hm_101 hm_102 hm_103 hm_104 hm_105 hm_106 hm_107 hm_108 hm_109 hm_110 hm_111 hm_112 hm_113 hm_114 hm_115 hm_116 hm_117 hm_118 hm_119 hm_120 hm_121 hm_122 hm_123 hm_124 hm_125 hm_126 hm_127 hm_128 hm_129 hm_130 hm_89 hm_131 hm_132 hm_133 hm_134 hm_135 hm_136 hm_137 hm_138 hm_139 hm_140 hm_141 hm_142 hm_143 hm_144 hm_145 hm_146 hm_147 hm_148 hm_149 hm_150 hm_151 hm_152 hm_153 hm_154 hm_155 hm_156 hm_157 hm_158 hI (lv_sub hl [2, 3, 4, 5, 6] rfl)
          · -- 432: nI 1 eq
            exact absurd c_165 (by decide)
        · -- 425: nI 1 ne
          exact absurd (by decide) c_164
      · -- 406: xs (i + 2) ne
        exact absurd (by assumption) c_82
    · -- 379: xs (i + 2) ne
      refine lv_iconst (v := nI 1) hx hb dL_law_382 (by decide) ?_
      refine n_eq (show _ = bI true from rfl) ?_
      refine lv_goto (tgt := 387) hx hb dL_law_383 (by decide) ?_
      refine lv_aload_n hx hb dL_law_387 rfl (lv_at hl 3 rfl) ?_
      refine k_Ni (vx_runSW (As := [.ref (ad 0), .int (xs (i + 1)), .int (bI true), .ref (ad 99)]) (rest := []) ⟨hx, hb, hml, hown, hts⟩ (c_L_holds_a l hst G z ad M (qa := qa) (qs := qs) (fw := fw) (x0 := xs (i + 1)) (b := true) f_0 hc_1) (vx_cwSW 4 hts (gSW (lwg_of t_585 rfl) (lwg_of t_586 rfl) (lwg_of t_0 rfl) (lwg_of t_587 rfl)) rfl rfl rfl (by decide +kernel) ⟨Nat.le_of_ble_eq_true rfl, Nat.le_of_ble_eq_true rfl⟩) hI.preS rfl rfl hl.1 rfl (lv_room (Nat.le_of_ble_eq_true rfl)) dL_law_388 ⟨(show _ ≤ (601024 : Nat) from by omega), (show _ ≤ (7293034 : Nat) from by omega)⟩) hI (fun r_166 M_168 H_169 locs_170 hp_167 hI => ?_)
      obtain ⟨hr_171, hF_172⟩ := hp_167
      have hm_173 : M_168 0 = some (cStore ad qa qs fw) := by rw [hF_172 0 ]; exact f_0
      have hm_174 : M_168 1 = some (cTape ad len) := by rw [hF_172 1 ]; exact f_1
      have hm_175 : M_168 2 = some (aI G 400 (nF tb)) := by rw [hF_172 2 ]; exact f_2
      have hm_176 : M_168 3 = some (cLaws ad ) := by rw [hF_172 3 ]; exact f_3
      have hm_177 : M_168 4 = some (aI G 36 (nF le)) := by rw [hF_172 4 ]; exact f_4
      have hm_178 : M_168 5 = some (aI G 36 (nF mo)) := by rw [hF_172 5 ]; exact f_5
      have hm_179 : M_168 6 = some (aI G 36 (nF al)) := by rw [hF_172 6 ]; exact f_6
      have hm_180 : M_168 7 = some (aZ G 6 (bF ho)) := by rw [hF_172 7 ]; exact f_7
      have hm_181 : M_168 8 = some (cOnes ad jn) := by rw [hF_172 8 ]; exact f_8
      have hm_182 : M_168 9 = some (aI G 40 (nF hg)) := by rw [hF_172 9 ]; exact f_9
      have hm_183 : M_168 10 = some (aI G 40 (nF lst)) := by rw [hF_172 10 ]; exact f_10
      have hm_184 : M_168 11 = some (aI G 40 (nF jd)) := by rw [hF_172 11 ]; exact f_11
      have hm_185 : M_168 12 = some (cEnds ad 12 s0) := by rw [hF_172 12 ]; exact f_12
      have hm_186 : M_168 13 = some (aI G 6 (nF r0)) := by rw [hF_172 13 ]; exact f_13
      have hm_187 : M_168 14 = some (aI G 6 (oF th)) := by rw [hF_172 14 ]; exact f_14
      have hm_188 : M_168 15 = some (aI G 6 (oF ol)) := by rw [hF_172 15 ]; exact f_15
      have hm_189 : M_168 19 = some (aZ G 120 (bF mm9)) := by rw [hF_172 19 ]; exact f_19
      have hm_190 : M_168 20 = some (aI G 120 ff) := by rw [hF_172 20 ]; exact f_20
      have hm_191 : M_168 21 = some (aI G 120 lq) := by rw [hF_172 21 ]; exact f_21
      have hm_192 : M_168 22 = some (cReader ad ra rb rt rv) := by rw [hF_172 22 ]; exact f_22
      have hm_193 : M_168 23 = some (cMatcher ad qm pz) := by rw [hF_172 23 ]; exact f_23
      have hm_194 : M_168 24 = some (aJ G 2160 sx) := by rw [hF_172 24 ]; exact f_24
      have hm_195 : M_168 25 = some (aI G 6 (nF ft)) := by rw [hF_172 25 ]; exact f_25
      have hm_196 : M_168 26 = some (aJ G 240 rx) := by rw [hF_172 26 ]; exact f_26
      have hm_197 : M_168 27 = some (aJ G 3 dm) := by rw [hF_172 27 ]; exact f_27
      have hm_198 : M_168 28 = some (aI G 3 rc) := by rw [hF_172 28 ]; exact f_28
      have hm_199 : M_168 qa = some (cQuestion ad qa ao vr) := by rw [hF_172 qa ]; exact f_qa
      have hm_200 : M_168 (qa + 1) = some (aI G 6 (nF kn)) := by rw [hF_172 (qa + 1) ]; exact f_qa_1
      have hm_201 : M_168 (qa + 2) = some (aZ G 6 (bF nq)) := by rw [hF_172 (qa + 2) ]; exact f_qa_2
      have hm_202 : M_168 (qa + 3) = some (aI G 6 (nF pn)) := by rw [hF_172 (qa + 3) ]; exact f_qa_3
      have hm_203 : M_168 (qa + 4) = some (aI G 6 (nF av)) := by rw [hF_172 (qa + 4) ]; exact f_qa_4
      have hm_204 : M_168 (qa + 5) = some (aI G 24 (nF ro)) := by rw [hF_172 (qa + 5) ]; exact f_qa_5
      have hm_205 : M_168 (qa + 6) = some (aI G 24 (nF te)) := by rw [hF_172 (qa + 6) ]; exact f_qa_6
      have hm_206 : M_168 qs = some (cQuestion ad qs sq su) := by rw [hF_172 qs ]; exact f_qs
      have hm_207 : M_168 (qs + 1) = some (aI G 6 (nF kb)) := by rw [hF_172 (qs + 1) ]; exact f_qs_1
      have hm_208 : M_168 (qs + 2) = some (aZ G 6 (bF nb)) := by rw [hF_172 (qs + 2) ]; exact f_qs_2
      have hm_209 : M_168 (qs + 3) = some (aI G 6 (nF pb)) := by rw [hF_172 (qs + 3) ]; exact f_qs_3
      have hm_210 : M_168 (qs + 4) = some (aI G 6 (nF ab)) := by rw [hF_172 (qs + 4) ]; exact f_qs_4
      have hm_211 : M_168 (qs + 5) = some (aI G 24 (nF rbb)) := by rw [hF_172 (qs + 5) ]; exact f_qs_5
      have hm_212 : M_168 (qs + 6) = some (aI G 24 (nF tbb)) := by rw [hF_172 (qs + 6) ]; exact f_qs_6
      have hm_213 : M_168 60 = some (cModel ad tw n jn ao vr sn len pt zs bg fw) := by rw [hF_172 60 ]; exact f_60
      have hm_214 : M_168 61 = some (aI G 36 (nF le)) := by rw [hF_172 61 ]; exact f_61
      have hm_215 : M_168 62 = some (aI G 36 (nF mo)) := by rw [hF_172 62 ]; exact f_62
      have hm_216 : M_168 63 = some (aI G 36 (nF al)) := by rw [hF_172 63 ]; exact f_63
      have hm_217 : M_168 64 = some (aZ G 6 (bF ho)) := by rw [hF_172 64 ]; exact f_64
      have hm_218 : M_168 65 = some (aI G 120 (nF mk)) := by rw [hF_172 65 ]; exact f_65
      have hm_219 : M_168 66 = some (aI G 120 mf) := by rw [hF_172 66 ]; exact f_66
      have hm_220 : M_168 67 = some (aI G 120 mu) := by rw [hF_172 67 ]; exact f_67
      have hm_221 : M_168 68 = some (aI G 121 (nF mz)) := by rw [hF_172 68 ]; exact f_68
      have hm_222 : M_168 69 = some (aI G 726 (nF rr)) := by rw [hF_172 69 ]; exact f_69
      have hm_223 : M_168 70 = some (aI G 726 (nF ee)) := by rw [hF_172 70 ]; exact f_70
      have hm_224 : M_168 71 = some (aI G 40 (nF lst)) := by rw [hF_172 71 ]; exact f_71
      have hm_225 : M_168 72 = some (aI G 40 (nF oa)) := by rw [hF_172 72 ]; exact f_72
      have hm_226 : M_168 73 = some (aI G 40 (nF ob)) := by rw [hF_172 73 ]; exact f_73
      have hm_227 : M_168 74 = some (aI G 120 s74) := by rw [hF_172 74 ]; exact f_74
      have hm_228 : M_168 75 = some (aI G 12 ak) := by rw [hF_172 75 ]; exact f_75
      have hm_229 : M_168 76 = some (aZ G 12 (bF nm)) := by rw [hF_172 76 ]; exact f_76
      have hm_230 : M_168 77 = some (aI G 12 (nF ap)) := by rw [hF_172 77 ]; exact f_77
      have hm_231 : M_168 78 = some (aI G 48 pr) := by rw [hF_172 78 ]; exact f_78
      have hm_232 : M_168 79 = some (aI G 48 pf) := by rw [hF_172 79 ]; exact f_79
      have hm_233 : M_168 80 = some (aB G 400 tf) := by rw [hF_172 80 ]; exact f_80
      have hm_234 : M_168 81 = some (aI G 5 fv) := by rw [hF_172 81 ]; exact f_81
      have hm_235 : M_168 82 = some (aZ G 384000 (bF tr)) := by rw [hF_172 82 ]; exact f_82
      have hm_236 : M_168 83 = some (aI G 3 (oF gv)) := by rw [hF_172 83 ]; exact f_83
      have hm_237 : M_168 84 = some (aI G 3 fo) := by rw [hF_172 84 ]; exact f_84
      have hm_238 : M_168 85 = some (aZ G 40 (bF re)) := by rw [hF_172 85 ]; exact f_85
      have hm_239 : M_168 86 = some (aZ G 120 (bF us)) := by rw [hF_172 86 ]; exact f_86
      have hm_240 : M_168 87 = some (aZ G 120 (bF nx)) := by rw [hF_172 87 ]; exact f_87
      have hm_241 : M_168 99 = some (aJ G 1 of) := by rw [hF_172 99 ]; exact f_99
      have hm_242 : M_168 16 = some (cLines ad ) := by rw [hF_172 16 ]; exact h16
      have hL_243 : LSm G ad M_168 n kd fm to sz rl en := fL.keep (fun j hj => hF_172 j )
      rw [hr_171]
      refine lv_istore (lv' := [(5, .int (nI 1)), (0, .ref b), (1, .ref (ad 0)), (2, .ref (ad 60)), (3, .ref (ad 99)), (4, .int (nI i))]) hx hb dL_law_391 hl (by decide) rfl (fun ls hl => ?_)
      refine lv_aload_n hx hb dL_law_393 rfl (lv_at hl 3 rfl) ?_
      refine lv_aload_n hx hb dL_law_394 rfl (lv_at hl 1 rfl) ?_
      refine lv_iload hx hb dL_law_395 (lv_at hl 5 rfl) ?_
      refine lv_iconst (v := nI 1) hx hb dL_law_397 (by decide) ?_
      refine lv_iadd hx hb dL_law_398 ?_
      refine n_eq (nI_add i 1) ?_
      refine va_sld (A := fr z) hx hb hX hbl hbz hI.S (vp_in_nI (n := i + 1) (by omega) (by omega)) dL_law_399 ?_
      rw [nI_clamp (by omega)]
      refine lv_aload_n hx hb dL_law_400 rfl (lv_at hl 1 rfl) ?_
      refine lv_iload hx hb dL_law_401 (lv_at hl 5 rfl) ?_
      refine lv_iconst (v := nI 2) hx hb dL_law_403 (by decide) ?_
      refine lv_iadd hx hb dL_law_404 ?_
      refine n_eq (nI_add i 2) ?_
      refine va_sld (A := fr z) hx hb hX hbl hbz hI.S (vp_in_nI (n := i + 2) (by omega) (by omega)) dL_law_405 ?_
      rw [nI_clamp (by omega)]
      refine lv_if_eq (tgt := 413) hx hb dL_law_406 (by decide) (fun c_244 => ?_) (fun c_244 => ?_)
      · -- 406: xs (i + 2) eq
        exact absurd c_244 (by assumption)
      · -- 406: xs (i + 2) ne
        refine lv_iconst (v := nI 1) hx hb dL_law_409 (by decide) ?_
        refine n_eq (show _ = bI true from rfl) ?_
        refine lv_goto (tgt := 414) hx hb dL_law_410 (by decide) ?_
        refine k_Ni (va_runV (As := [.int (xs (i + 1)), .int (bI true)]) (rest := []) ⟨hx, hb, hml, hown, hts⟩ (c_X10_holds_a l G z ad M_168 (th := tw) (ln := n) (on := jn) (ao := ao) (vr := vr) (sn := sn) (tp := len) (pt := pt) (zs := zs) (bg := bg) (fa := fw) (x0 := xs (i + 1)) (b := true) hm_213 hc_1) (cwV 2 hts (gV (lwg_of t_1149 rfl) (lwg_of t_1150 rfl) (lwg_of t_1151 rfl) (lwg_of t_13 rfl) (lwg_of t_1152 rfl)) rfl rfl rfl (by decide +kernel) ⟨Nat.le_of_ble_eq_true rfl, Nat.le_of_ble_eq_true rfl⟩) (hI.preV hm_213 rfl) rfl rfl hl.1 rfl (lv_room (Nat.le_of_ble_eq_true rfl)) dL_law_414 ⟨(show _ ≤ (601024 : Nat) from by omega), (show _ ≤ (7293034 : Nat) from by omega)⟩) hI (fun r_245 M_247 H_248 locs_249 hp_246 hI => ?_)
        obtain ⟨hr_250, hm_251, hF_252⟩ := hp_246
        have hm_253 : M_247 0 = some (cStore ad qa qs fw) := by rw [hF_252 0 (by omega)]; exact hm_173
        have hm_254 : M_247 1 = some (cTape ad len) := by rw [hF_252 1 (by omega)]; exact hm_174
        have hm_255 : M_247 2 = some (aI G 400 (nF tb)) := by rw [hF_252 2 (by omega)]; exact hm_175
        have hm_256 : M_247 3 = some (cLaws ad ) := by rw [hF_252 3 (by omega)]; exact hm_176
        have hm_257 : M_247 4 = some (aI G 36 (nF le)) := by rw [hF_252 4 (by omega)]; exact hm_177
        have hm_258 : M_247 5 = some (aI G 36 (nF mo)) := by rw [hF_252 5 (by omega)]; exact hm_178
        have hm_259 : M_247 6 = some (aI G 36 (nF al)) := by rw [hF_252 6 (by omega)]; exact hm_179
        have hm_260 : M_247 7 = some (aZ G 6 (bF ho)) := by rw [hF_252 7 (by omega)]; exact hm_180
        have hm_261 : M_247 8 = some (cOnes ad jn) := by rw [hF_252 8 (by omega)]; exact hm_181
        have hm_262 : M_247 9 = some (aI G 40 (nF hg)) := by rw [hF_252 9 (by omega)]; exact hm_182
        have hm_263 : M_247 10 = some (aI G 40 (nF lst)) := by rw [hF_252 10 (by omega)]; exact hm_183
        have hm_264 : M_247 11 = some (aI G 40 (nF jd)) := by rw [hF_252 11 (by omega)]; exact hm_184
        have hm_265 : M_247 12 = some (cEnds ad 12 s0) := by rw [hF_252 12 (by omega)]; exact hm_185
        have hm_266 : M_247 13 = some (aI G 6 (nF r0)) := by rw [hF_252 13 (by omega)]; exact hm_186
        have hm_267 : M_247 14 = some (aI G 6 (oF th)) := by rw [hF_252 14 (by omega)]; exact hm_187
        have hm_268 : M_247 15 = some (aI G 6 (oF ol)) := by rw [hF_252 15 (by omega)]; exact hm_188
        have hm_269 : M_247 19 = some (aZ G 120 (bF mm9)) := by rw [hF_252 19 (by omega)]; exact hm_189
        have hm_270 : M_247 20 = some (aI G 120 ff) := by rw [hF_252 20 (by omega)]; exact hm_190
        have hm_271 : M_247 21 = some (aI G 120 lq) := by rw [hF_252 21 (by omega)]; exact hm_191
        have hm_272 : M_247 22 = some (cReader ad ra rb rt rv) := by rw [hF_252 22 (by omega)]; exact hm_192
        have hm_273 : M_247 23 = some (cMatcher ad qm pz) := by rw [hF_252 23 (by omega)]; exact hm_193
        have hm_274 : M_247 24 = some (aJ G 2160 sx) := by rw [hF_252 24 (by omega)]; exact hm_194
        have hm_275 : M_247 25 = some (aI G 6 (nF ft)) := by rw [hF_252 25 (by omega)]; exact hm_195
        have hm_276 : M_247 26 = some (aJ G 240 rx) := by rw [hF_252 26 (by omega)]; exact hm_196
        have hm_277 : M_247 27 = some (aJ G 3 dm) := by rw [hF_252 27 (by omega)]; exact hm_197
        have hm_278 : M_247 28 = some (aI G 3 rc) := by rw [hF_252 28 (by omega)]; exact hm_198
        have hm_279 : M_247 qa = some (cQuestion ad qa ao vr) := by rw [hF_252 qa (by omega)]; exact hm_199
        have hm_280 : M_247 (qa + 1) = some (aI G 6 (nF kn)) := by rw [hF_252 (qa + 1) (by omega)]; exact hm_200
        have hm_281 : M_247 (qa + 2) = some (aZ G 6 (bF nq)) := by rw [hF_252 (qa + 2) (by omega)]; exact hm_201
        have hm_282 : M_247 (qa + 3) = some (aI G 6 (nF pn)) := by rw [hF_252 (qa + 3) (by omega)]; exact hm_202
        have hm_283 : M_247 (qa + 4) = some (aI G 6 (nF av)) := by rw [hF_252 (qa + 4) (by omega)]; exact hm_203
        have hm_284 : M_247 (qa + 5) = some (aI G 24 (nF ro)) := by rw [hF_252 (qa + 5) (by omega)]; exact hm_204
        have hm_285 : M_247 (qa + 6) = some (aI G 24 (nF te)) := by rw [hF_252 (qa + 6) (by omega)]; exact hm_205
        have hm_286 : M_247 qs = some (cQuestion ad qs sq su) := by rw [hF_252 qs (by omega)]; exact hm_206
        have hm_287 : M_247 (qs + 1) = some (aI G 6 (nF kb)) := by rw [hF_252 (qs + 1) (by omega)]; exact hm_207
        have hm_288 : M_247 (qs + 2) = some (aZ G 6 (bF nb)) := by rw [hF_252 (qs + 2) (by omega)]; exact hm_208
        have hm_289 : M_247 (qs + 3) = some (aI G 6 (nF pb)) := by rw [hF_252 (qs + 3) (by omega)]; exact hm_209
        have hm_290 : M_247 (qs + 4) = some (aI G 6 (nF ab)) := by rw [hF_252 (qs + 4) (by omega)]; exact hm_210
        have hm_291 : M_247 (qs + 5) = some (aI G 24 (nF rbb)) := by rw [hF_252 (qs + 5) (by omega)]; exact hm_211
        have hm_292 : M_247 (qs + 6) = some (aI G 24 (nF tbb)) := by rw [hF_252 (qs + 6) (by omega)]; exact hm_212
        have hm_293 : M_247 61 = some (aI G 36 (nF le)) := by rw [hF_252 61 (by omega)]; exact hm_214
        have hm_294 : M_247 62 = some (aI G 36 (nF mo)) := by rw [hF_252 62 (by omega)]; exact hm_215
        have hm_295 : M_247 63 = some (aI G 36 (nF al)) := by rw [hF_252 63 (by omega)]; exact hm_216
        have hm_296 : M_247 64 = some (aZ G 6 (bF ho)) := by rw [hF_252 64 (by omega)]; exact hm_217
        have hm_297 : M_247 65 = some (aI G 120 (nF mk)) := by rw [hF_252 65 (by omega)]; exact hm_218
        have hm_298 : M_247 66 = some (aI G 120 mf) := by rw [hF_252 66 (by omega)]; exact hm_219
        have hm_299 : M_247 67 = some (aI G 120 mu) := by rw [hF_252 67 (by omega)]; exact hm_220
        have hm_300 : M_247 68 = some (aI G 121 (nF mz)) := by rw [hF_252 68 (by omega)]; exact hm_221
        have hm_301 : M_247 69 = some (aI G 726 (nF rr)) := by rw [hF_252 69 (by omega)]; exact hm_222
        have hm_302 : M_247 70 = some (aI G 726 (nF ee)) := by rw [hF_252 70 (by omega)]; exact hm_223
        have hm_303 : M_247 71 = some (aI G 40 (nF lst)) := by rw [hF_252 71 (by omega)]; exact hm_224
        have hm_304 : M_247 72 = some (aI G 40 (nF oa)) := by rw [hF_252 72 (by omega)]; exact hm_225
        have hm_305 : M_247 73 = some (aI G 40 (nF ob)) := by rw [hF_252 73 (by omega)]; exact hm_226
        have hm_306 : M_247 74 = some (aI G 120 s74) := by rw [hF_252 74 (by omega)]; exact hm_227
        have hm_307 : M_247 75 = some (aI G 12 ak) := by rw [hF_252 75 (by omega)]; exact hm_228
        have hm_308 : M_247 76 = some (aZ G 12 (bF nm)) := by rw [hF_252 76 (by omega)]; exact hm_229
        have hm_309 : M_247 77 = some (aI G 12 (nF ap)) := by rw [hF_252 77 (by omega)]; exact hm_230
        have hm_310 : M_247 78 = some (aI G 48 pr) := by rw [hF_252 78 (by omega)]; exact hm_231
        have hm_311 : M_247 79 = some (aI G 48 pf) := by rw [hF_252 79 (by omega)]; exact hm_232
        have hm_312 : M_247 80 = some (aB G 400 tf) := by rw [hF_252 80 (by omega)]; exact hm_233
        have hm_313 : M_247 81 = some (aI G 5 fv) := by rw [hF_252 81 (by omega)]; exact hm_234
        have hm_314 : M_247 82 = some (aZ G 384000 (bF tr)) := by rw [hF_252 82 (by omega)]; exact hm_235
        have hm_315 : M_247 83 = some (aI G 3 (oF gv)) := by rw [hF_252 83 (by omega)]; exact hm_236
        have hm_316 : M_247 84 = some (aI G 3 fo) := by rw [hF_252 84 (by omega)]; exact hm_237
        have hm_317 : M_247 85 = some (aZ G 40 (bF re)) := by rw [hF_252 85 (by omega)]; exact hm_238
        have hm_318 : M_247 86 = some (aZ G 120 (bF us)) := by rw [hF_252 86 (by omega)]; exact hm_239
        have hm_319 : M_247 87 = some (aZ G 120 (bF nx)) := by rw [hF_252 87 (by omega)]; exact hm_240
        have hm_320 : M_247 99 = some (aJ G 1 of) := by rw [hF_252 99 (by omega)]; exact hm_241
        have hm_321 : M_247 16 = some (cLines ad ) := by rw [hF_252 16 (by omega)]; exact hm_242
        have hL_322 : LSm G ad M_247 n kd fm to sz rl en := hL_243.keep (fun j hj => hF_252 j (by omega))
        have hF_323 : ∀ j : Nat, j ≠ 60 → M_247 j = M j := fun j q0 => (hF_252 j q0).trans (hF_172 j )
        rw [hr_250]
        refine lv_istore (lv' := [(6, .int (nI 0)), (5, .int (nI 1)), (0, .ref b), (1, .ref (ad 0)), (2, .ref (ad 60)), (3, .ref (ad 99)), (4, .int (nI i))]) hx hb dL_law_417 hl (by decide) rfl (fun ls hl => ?_)
        refine lv_aload_n hx hb dL_law_419 rfl (lv_at hl 4 rfl) ?_
        refine k_Ri (va_runV (As := []) (rest := []) ⟨hx, hb, hml, hown, hts⟩ (c_X10_thrown l G z ad M_247 (th := 1) (ln := n) (on := jn) (ao := ao) (vr := vr) (sn := sn) (tp := len) (pt := pt) (zs := zs) (bg := bg) (fa := fw) hm_251) (cwV 0 hts (gV (lwg_of t_997 rfl) (lwg_of t_998 rfl) (lwg_of t_999 rfl) (lwg_of t_13 rfl) (lwg_of t_1000 rfl)) rfl rfl rfl (by decide +kernel) ⟨Nat.le_of_ble_eq_true rfl, Nat.le_of_ble_eq_true rfl⟩) (hI.preV hm_251 rfl) rfl rfl hl.1 rfl (lv_room (Nat.le_of_ble_eq_true rfl)) dL_law_420 ⟨(show _ ≤ (601024 : Nat) from by omega), (show _ ≤ (7293034 : Nat) from by omega)⟩) (fun _ h => h) (fun r_324 hp_325 => ?_)
        rw [hp_325]
        refine lv_iload hx hb dL_law_423 (lv_at hl 1 rfl) ?_
        refine lv_icmp_eq (tgt := 430) hx hb dL_law_425 (by decide) (fun c_326 => ?_) (fun c_326 => ?_)
        · -- 425: nI 1 eq
          refine lv_iload hx hb dL_law_430 (lv_at hl 1 rfl) ?_
          refine lv_if_ne (tgt := 454) hx hb dL_law_432 (by decide) (fun c_327 => ?_) (fun c_327 => ?_)
          · -- 432: nI 1 ne
            refine lv_goto (tgt := 1333) hx hb dL_law_454 (by decide) ?_
            refine W.widen (k := cz + 10) (n := sy + 300) (by omega) (by omega) ?_
            exact kk ad M_247 H_248 locs_249 ls n kd fm to sz rl en qa qs fw len tb le mo al ho jn hg lst jd s0 r0 th ol e0 mm9 ff lq ra rb rt rv qm pz sx ft rx dm rc ao vr kn nq pn av ro te sq su kb nb pb ab rbb tbb 1 sn pt zs bg mk mf mu mz rr ee oa ob s74 ak nm ap pr pf tf fv tr gv fo re us nx of hL_322 w1 w2 w3 w4 w5 w6 w7 w8 w9 w10 w11 w12 w13 w14 w15 w16 w17 w18 w19 w20 w21 w22 w23 w24 w25 w26 w27 w28 w29 (fun h9 => by rw [hF_323 17 (by omega), hF_323 18 (by omega)]; exact w30 h9) (by rw [hF_323 29 (by omega)]; exact w31) (fun j9 h9 => by rw [hF_323 j9 (by omega)]; exact w32 j9 h9) hm_253 hm_254 hm_255 hm_256 hm_257 hm_258 hm_259 hm_260 hm_261 hm_262 hm_263 hm_264 hm_265 hm_266 hm_267 hm_268 hm_269 hm_270 hm_271 hm_272 hm_273 hm_274 hm_275 hm_276 hm_277 hm_278 hm_279 hm_280 hm_281 hm_282 hm_283 hm_284 hm_285 hm_286 hm_287 hm_288 hm_289 hm_290 hm_291 hm_292 hm_251 hm_293 hm_294 hm_295 hm_296 hm_297 hm_298 hm_299 hm_300 hm_301 hm_302 hm_303 hm_304 hm_305 hm_306 hm_307 hm_308 hm_309 hm_310 hm_311 hm_312 hm_313 hm_314 hm_315 hm_316 hm_317 hm_318 hm_319 hm_320 hI (lv_sub hl [2, 3, 4, 5, 6] rfl)
          · -- 432: nI 1 eq
            exact absurd c_327 (by decide)
        · -- 425: nI 1 ne
          exact absurd (by decide) c_326
  · skip
    refine lv_aload_n hx hb dL_law_366 rfl (lv_at hl 1 rfl) ?_
    obtain ⟨t1, ht1, et1⟩ := hc_2
    refine lv_aload_n hx hb dL_law_367 rfl (lv_at hl 0 rfl) ?_
    refine lv_iload hx hb dL_law_368 (lv_at hl 4 rfl) ?_
    refine lv_iconst (v := nI 1) hx hb dL_law_370 (by decide) ?_
    refine lv_iadd hx hb dL_law_371 ?_
    refine n_eq (nI_add i 1) ?_
    refine va_sld (A := fr z) hx hb hX hbl hbz hI.S (vp_in_nI (n := i + 1) (by omega) (by omega)) dL_law_372 ?_
    rw [nI_clamp (by omega)]
    refine n_eq (show _ = nI t1 from et1) ?_
    refine lv_aload_n hx hb dL_law_373 rfl (lv_at hl 0 rfl) ?_
    refine lv_iload hx hb dL_law_374 (lv_at hl 4 rfl) ?_
    refine lv_iconst (v := nI 2) hx hb dL_law_376 (by decide) ?_
    refine lv_iadd hx hb dL_law_377 ?_
    refine n_eq (nI_add i 2) ?_
    refine va_sld (A := fr z) hx hb hX hbl hbz hI.S (vp_in_nI (n := i + 2) (by omega) (by omega)) dL_law_378 ?_
    rw [nI_clamp (by omega)]
    refine lv_if_eq (tgt := 386) hx hb dL_law_379 (by decide) (fun c_328 => ?_) (fun c_328 => ?_)
    · -- 379: xs (i + 2) eq
      refine lv_iconst (v := nI 0) hx hb dL_law_386 (by decide) ?_
      refine n_eq (show _ = bI false from rfl) ?_
      refine lv_aload_n hx hb dL_law_387 rfl (lv_at hl 3 rfl) ?_
      refine k_Ni (vx_runSW (As := [.ref (ad 0), .int (nI t1), .int (bI false), .ref (ad 99)]) (rest := []) ⟨hx, hb, hml, hown, hts⟩ (c_L_holds l hst G z ad M (qa := qa) (qs := qs) (fw := fw) (ho := ho) (kd := t1) (b := false) (of := of) f_0 f_3 f_7 f_99 ht1) (vx_cwSW 4 hts (gSW (lwg_of t_585 rfl) (lwg_of t_586 rfl) (lwg_of t_0 rfl) (lwg_of t_587 rfl)) rfl rfl rfl (by decide +kernel) ⟨Nat.le_of_ble_eq_true rfl, Nat.le_of_ble_eq_true rfl⟩) hI.preS rfl rfl hl.1 rfl (lv_room (Nat.le_of_ble_eq_true rfl)) dL_law_388 ⟨(show _ ≤ (601024 : Nat) from by omega), (show _ ≤ (7293034 : Nat) from by omega)⟩) hI (fun r_329 M_331 H_332 locs_333 hp_330 hI => ?_)
      obtain ⟨hr_334, hm_335, hm_336, hF_337⟩ := hp_330
      have hm_338 : M_331 0 = some (cStore ad qa qs fw) := by rw [hF_337 0 (by omega) (by omega)]; exact f_0
      have hm_339 : M_331 1 = some (cTape ad len) := by rw [hF_337 1 (by omega) (by omega)]; exact f_1
      have hm_340 : M_331 2 = some (aI G 400 (nF tb)) := by rw [hF_337 2 (by omega) (by omega)]; exact f_2
      have hm_341 : M_331 3 = some (cLaws ad ) := by rw [hF_337 3 (by omega) (by omega)]; exact f_3
      have hm_342 : M_331 4 = some (aI G 36 (nF le)) := by rw [hF_337 4 (by omega) (by omega)]; exact f_4
      have hm_343 : M_331 5 = some (aI G 36 (nF mo)) := by rw [hF_337 5 (by omega) (by omega)]; exact f_5
      have hm_344 : M_331 6 = some (aI G 36 (nF al)) := by rw [hF_337 6 (by omega) (by omega)]; exact f_6
      have hm_345 : M_331 8 = some (cOnes ad jn) := by rw [hF_337 8 (by omega) (by omega)]; exact f_8
      have hm_346 : M_331 9 = some (aI G 40 (nF hg)) := by rw [hF_337 9 (by omega) (by omega)]; exact f_9
      have hm_347 : M_331 10 = some (aI G 40 (nF lst)) := by rw [hF_337 10 (by omega) (by omega)]; exact f_10
      have hm_348 : M_331 11 = some (aI G 40 (nF jd)) := by rw [hF_337 11 (by omega) (by omega)]; exact f_11
      have hm_349 : M_331 12 = some (cEnds ad 12 s0) := by rw [hF_337 12 (by omega) (by omega)]; exact f_12
      have hm_350 : M_331 13 = some (aI G 6 (nF r0)) := by rw [hF_337 13 (by omega) (by omega)]; exact f_13
      have hm_351 : M_331 14 = some (aI G 6 (oF th)) := by rw [hF_337 14 (by omega) (by omega)]; exact f_14
      have hm_352 : M_331 15 = some (aI G 6 (oF ol)) := by rw [hF_337 15 (by omega) (by omega)]; exact f_15
      have hm_353 : M_331 19 = some (aZ G 120 (bF mm9)) := by rw [hF_337 19 (by omega) (by omega)]; exact f_19
      have hm_354 : M_331 20 = some (aI G 120 ff) := by rw [hF_337 20 (by omega) (by omega)]; exact f_20
      have hm_355 : M_331 21 = some (aI G 120 lq) := by rw [hF_337 21 (by omega) (by omega)]; exact f_21
      have hm_356 : M_331 22 = some (cReader ad ra rb rt rv) := by rw [hF_337 22 (by omega) (by omega)]; exact f_22
      have hm_357 : M_331 23 = some (cMatcher ad qm pz) := by rw [hF_337 23 (by omega) (by omega)]; exact f_23
      have hm_358 : M_331 24 = some (aJ G 2160 sx) := by rw [hF_337 24 (by omega) (by omega)]; exact f_24
      have hm_359 : M_331 25 = some (aI G 6 (nF ft)) := by rw [hF_337 25 (by omega) (by omega)]; exact f_25
      have hm_360 : M_331 26 = some (aJ G 240 rx) := by rw [hF_337 26 (by omega) (by omega)]; exact f_26
      have hm_361 : M_331 27 = some (aJ G 3 dm) := by rw [hF_337 27 (by omega) (by omega)]; exact f_27
      have hm_362 : M_331 28 = some (aI G 3 rc) := by rw [hF_337 28 (by omega) (by omega)]; exact f_28
      have hm_363 : M_331 qa = some (cQuestion ad qa ao vr) := by rw [hF_337 qa (by omega) (by omega)]; exact f_qa
      have hm_364 : M_331 (qa + 1) = some (aI G 6 (nF kn)) := by rw [hF_337 (qa + 1) (by omega) (by omega)]; exact f_qa_1
      have hm_365 : M_331 (qa + 2) = some (aZ G 6 (bF nq)) := by rw [hF_337 (qa + 2) (by omega) (by omega)]; exact f_qa_2
      have hm_366 : M_331 (qa + 3) = some (aI G 6 (nF pn)) := by rw [hF_337 (qa + 3) (by omega) (by omega)]; exact f_qa_3
      have hm_367 : M_331 (qa + 4) = some (aI G 6 (nF av)) := by rw [hF_337 (qa + 4) (by omega) (by omega)]; exact f_qa_4
      have hm_368 : M_331 (qa + 5) = some (aI G 24 (nF ro)) := by rw [hF_337 (qa + 5) (by omega) (by omega)]; exact f_qa_5
      have hm_369 : M_331 (qa + 6) = some (aI G 24 (nF te)) := by rw [hF_337 (qa + 6) (by omega) (by omega)]; exact f_qa_6
      have hm_370 : M_331 qs = some (cQuestion ad qs sq su) := by rw [hF_337 qs (by omega) (by omega)]; exact f_qs
      have hm_371 : M_331 (qs + 1) = some (aI G 6 (nF kb)) := by rw [hF_337 (qs + 1) (by omega) (by omega)]; exact f_qs_1
      have hm_372 : M_331 (qs + 2) = some (aZ G 6 (bF nb)) := by rw [hF_337 (qs + 2) (by omega) (by omega)]; exact f_qs_2
      have hm_373 : M_331 (qs + 3) = some (aI G 6 (nF pb)) := by rw [hF_337 (qs + 3) (by omega) (by omega)]; exact f_qs_3
      have hm_374 : M_331 (qs + 4) = some (aI G 6 (nF ab)) := by rw [hF_337 (qs + 4) (by omega) (by omega)]; exact f_qs_4
      have hm_375 : M_331 (qs + 5) = some (aI G 24 (nF rbb)) := by rw [hF_337 (qs + 5) (by omega) (by omega)]; exact f_qs_5
      have hm_376 : M_331 (qs + 6) = some (aI G 24 (nF tbb)) := by rw [hF_337 (qs + 6) (by omega) (by omega)]; exact f_qs_6
      have hm_377 : M_331 60 = some (cModel ad tw n jn ao vr sn len pt zs bg fw) := by rw [hF_337 60 (by omega) (by omega)]; exact f_60
      have hm_378 : M_331 61 = some (aI G 36 (nF le)) := by rw [hF_337 61 (by omega) (by omega)]; exact f_61
      have hm_379 : M_331 62 = some (aI G 36 (nF mo)) := by rw [hF_337 62 (by omega) (by omega)]; exact f_62
      have hm_380 : M_331 63 = some (aI G 36 (nF al)) := by rw [hF_337 63 (by omega) (by omega)]; exact f_63
      have hm_381 : M_331 64 = some (aZ G 6 (bF ho)) := by rw [hF_337 64 (by omega) (by omega)]; exact f_64
      have hm_382 : M_331 65 = some (aI G 120 (nF mk)) := by rw [hF_337 65 (by omega) (by omega)]; exact f_65
      have hm_383 : M_331 66 = some (aI G 120 mf) := by rw [hF_337 66 (by omega) (by omega)]; exact f_66
      have hm_384 : M_331 67 = some (aI G 120 mu) := by rw [hF_337 67 (by omega) (by omega)]; exact f_67
      have hm_385 : M_331 68 = some (aI G 121 (nF mz)) := by rw [hF_337 68 (by omega) (by omega)]; exact f_68
      have hm_386 : M_331 69 = some (aI G 726 (nF rr)) := by rw [hF_337 69 (by omega) (by omega)]; exact f_69
      have hm_387 : M_331 70 = some (aI G 726 (nF ee)) := by rw [hF_337 70 (by omega) (by omega)]; exact f_70
      have hm_388 : M_331 71 = some (aI G 40 (nF lst)) := by rw [hF_337 71 (by omega) (by omega)]; exact f_71
      have hm_389 : M_331 72 = some (aI G 40 (nF oa)) := by rw [hF_337 72 (by omega) (by omega)]; exact f_72
      have hm_390 : M_331 73 = some (aI G 40 (nF ob)) := by rw [hF_337 73 (by omega) (by omega)]; exact f_73
      have hm_391 : M_331 74 = some (aI G 120 s74) := by rw [hF_337 74 (by omega) (by omega)]; exact f_74
      have hm_392 : M_331 75 = some (aI G 12 ak) := by rw [hF_337 75 (by omega) (by omega)]; exact f_75
      have hm_393 : M_331 76 = some (aZ G 12 (bF nm)) := by rw [hF_337 76 (by omega) (by omega)]; exact f_76
      have hm_394 : M_331 77 = some (aI G 12 (nF ap)) := by rw [hF_337 77 (by omega) (by omega)]; exact f_77
      have hm_395 : M_331 78 = some (aI G 48 pr) := by rw [hF_337 78 (by omega) (by omega)]; exact f_78
      have hm_396 : M_331 79 = some (aI G 48 pf) := by rw [hF_337 79 (by omega) (by omega)]; exact f_79
      have hm_397 : M_331 80 = some (aB G 400 tf) := by rw [hF_337 80 (by omega) (by omega)]; exact f_80
      have hm_398 : M_331 81 = some (aI G 5 fv) := by rw [hF_337 81 (by omega) (by omega)]; exact f_81
      have hm_399 : M_331 82 = some (aZ G 384000 (bF tr)) := by rw [hF_337 82 (by omega) (by omega)]; exact f_82
      have hm_400 : M_331 83 = some (aI G 3 (oF gv)) := by rw [hF_337 83 (by omega) (by omega)]; exact f_83
      have hm_401 : M_331 84 = some (aI G 3 fo) := by rw [hF_337 84 (by omega) (by omega)]; exact f_84
      have hm_402 : M_331 85 = some (aZ G 40 (bF re)) := by rw [hF_337 85 (by omega) (by omega)]; exact f_85
      have hm_403 : M_331 86 = some (aZ G 120 (bF us)) := by rw [hF_337 86 (by omega) (by omega)]; exact f_86
      have hm_404 : M_331 87 = some (aZ G 120 (bF nx)) := by rw [hF_337 87 (by omega) (by omega)]; exact f_87
      have hm_405 : M_331 16 = some (cLines ad ) := by rw [hF_337 16 (by omega) (by omega)]; exact h16
      have hL_406 : LSm G ad M_331 n kd fm to sz rl en := fL.keep (fun j hj => hF_337 j (by omega) (by omega))
      have hF_407 : ∀ j : Nat, j ≠ 7 → j ≠ 99 → M_331 j = M j := fun j q0 q1 => (hF_337 j q0 q1)
      rw [hr_334]
      refine lv_istore (lv' := [(5, .int (nI 0)), (0, .ref b), (1, .ref (ad 0)), (2, .ref (ad 60)), (3, .ref (ad 99)), (4, .int (nI i))]) hx hb dL_law_391 hl (by decide) rfl (fun ls hl => ?_)
      refine lv_aload_n hx hb dL_law_393 rfl (lv_at hl 3 rfl) ?_
      refine lv_aload_n hx hb dL_law_394 rfl (lv_at hl 1 rfl) ?_
      refine lv_iload hx hb dL_law_395 (lv_at hl 5 rfl) ?_
      refine lv_iconst (v := nI 1) hx hb dL_law_397 (by decide) ?_
      refine lv_iadd hx hb dL_law_398 ?_
      refine n_eq (nI_add i 1) ?_
      refine va_sld (A := fr z) hx hb hX hbl hbz hI.S (vp_in_nI (n := i + 1) (by omega) (by omega)) dL_law_399 ?_
      rw [nI_clamp (by omega)]
      refine n_eq (show _ = nI t1 from et1) ?_
      refine lv_aload_n hx hb dL_law_400 rfl (lv_at hl 1 rfl) ?_
      refine lv_iload hx hb dL_law_401 (lv_at hl 5 rfl) ?_
      refine lv_iconst (v := nI 2) hx hb dL_law_403 (by decide) ?_
      refine lv_iadd hx hb dL_law_404 ?_
      refine n_eq (nI_add i 2) ?_
      refine va_sld (A := fr z) hx hb hX hbl hbz hI.S (vp_in_nI (n := i + 2) (by omega) (by omega)) dL_law_405 ?_
      rw [nI_clamp (by omega)]
      refine lv_if_eq (tgt := 413) hx hb dL_law_406 (by decide) (fun c_408 => ?_) (fun c_408 => ?_)
      · -- 406: xs (i + 2) eq
        refine lv_iconst (v := nI 0) hx hb dL_law_413 (by decide) ?_
        refine n_eq (show _ = bI false from rfl) ?_
        refine k_Ni (va_runV (As := [.int (nI t1), .int (bI false)]) (rest := []) ⟨hx, hb, hml, hown, hts⟩ (c_X10_holds l G z ad M_331 (th := tw) (ln := n) (on := jn) (ao := ao) (vr := vr) (sn := sn) (tp := len) (pt := pt) (zs := zs) (bg := bg) (fa := fw) (ho := ho) (kd := t1) (b := false) hm_377 hm_381 ht1) (cwV 2 hts (gV (lwg_of t_1149 rfl) (lwg_of t_1150 rfl) (lwg_of t_1151 rfl) (lwg_of t_13 rfl) (lwg_of t_1152 rfl)) rfl rfl rfl (by decide +kernel) ⟨Nat.le_of_ble_eq_true rfl, Nat.le_of_ble_eq_true rfl⟩) (hI.preV hm_377 rfl) rfl rfl hl.1 rfl (lv_room (Nat.le_of_ble_eq_true rfl)) dL_law_414 ⟨(show _ ≤ (601024 : Nat) from by omega), (show _ ≤ (7293034 : Nat) from by omega)⟩) hI (fun r_409 M_411 H_412 locs_413 hp_410 hI => ?_)
        obtain ⟨hr_414, hm_415, hm_416, hF_417⟩ := hp_410
        have hm_418 : M_411 0 = some (cStore ad qa qs fw) := by rw [hF_417 0 (by omega) (by omega)]; exact hm_338
        have hm_419 : M_411 1 = some (cTape ad len) := by rw [hF_417 1 (by omega) (by omega)]; exact hm_339
        have hm_420 : M_411 2 = some (aI G 400 (nF tb)) := by rw [hF_417 2 (by omega) (by omega)]; exact hm_340
        have hm_421 : M_411 3 = some (cLaws ad ) := by rw [hF_417 3 (by omega) (by omega)]; exact hm_341
        have hm_422 : M_411 4 = some (aI G 36 (nF le)) := by rw [hF_417 4 (by omega) (by omega)]; exact hm_342
        have hm_423 : M_411 5 = some (aI G 36 (nF mo)) := by rw [hF_417 5 (by omega) (by omega)]; exact hm_343
        have hm_424 : M_411 6 = some (aI G 36 (nF al)) := by rw [hF_417 6 (by omega) (by omega)]; exact hm_344
        have hm_425 : M_411 7 = some (aZ G 6 (bF (va_up ho t1 false))) := by rw [hF_417 7 (by omega) (by omega)]; exact hm_335
        have hm_426 : M_411 8 = some (cOnes ad jn) := by rw [hF_417 8 (by omega) (by omega)]; exact hm_345
        have hm_427 : M_411 9 = some (aI G 40 (nF hg)) := by rw [hF_417 9 (by omega) (by omega)]; exact hm_346
        have hm_428 : M_411 10 = some (aI G 40 (nF lst)) := by rw [hF_417 10 (by omega) (by omega)]; exact hm_347
        have hm_429 : M_411 11 = some (aI G 40 (nF jd)) := by rw [hF_417 11 (by omega) (by omega)]; exact hm_348
        have hm_430 : M_411 12 = some (cEnds ad 12 s0) := by rw [hF_417 12 (by omega) (by omega)]; exact hm_349
        have hm_431 : M_411 13 = some (aI G 6 (nF r0)) := by rw [hF_417 13 (by omega) (by omega)]; exact hm_350
        have hm_432 : M_411 14 = some (aI G 6 (oF th)) := by rw [hF_417 14 (by omega) (by omega)]; exact hm_351
        have hm_433 : M_411 15 = some (aI G 6 (oF ol)) := by rw [hF_417 15 (by omega) (by omega)]; exact hm_352
        have hm_434 : M_411 19 = some (aZ G 120 (bF mm9)) := by rw [hF_417 19 (by omega) (by omega)]; exact hm_353
        have hm_435 : M_411 20 = some (aI G 120 ff) := by rw [hF_417 20 (by omega) (by omega)]; exact hm_354
        have hm_436 : M_411 21 = some (aI G 120 lq) := by rw [hF_417 21 (by omega) (by omega)]; exact hm_355
        have hm_437 : M_411 22 = some (cReader ad ra rb rt rv) := by rw [hF_417 22 (by omega) (by omega)]; exact hm_356
        have hm_438 : M_411 23 = some (cMatcher ad qm pz) := by rw [hF_417 23 (by omega) (by omega)]; exact hm_357
        have hm_439 : M_411 24 = some (aJ G 2160 sx) := by rw [hF_417 24 (by omega) (by omega)]; exact hm_358
        have hm_440 : M_411 25 = some (aI G 6 (nF ft)) := by rw [hF_417 25 (by omega) (by omega)]; exact hm_359
        have hm_441 : M_411 26 = some (aJ G 240 rx) := by rw [hF_417 26 (by omega) (by omega)]; exact hm_360
        have hm_442 : M_411 27 = some (aJ G 3 dm) := by rw [hF_417 27 (by omega) (by omega)]; exact hm_361
        have hm_443 : M_411 28 = some (aI G 3 rc) := by rw [hF_417 28 (by omega) (by omega)]; exact hm_362
        have hm_444 : M_411 qa = some (cQuestion ad qa ao vr) := by rw [hF_417 qa (by omega) (by omega)]; exact hm_363
        have hm_445 : M_411 (qa + 1) = some (aI G 6 (nF kn)) := by rw [hF_417 (qa + 1) (by omega) (by omega)]; exact hm_364
        have hm_446 : M_411 (qa + 2) = some (aZ G 6 (bF nq)) := by rw [hF_417 (qa + 2) (by omega) (by omega)]; exact hm_365
        have hm_447 : M_411 (qa + 3) = some (aI G 6 (nF pn)) := by rw [hF_417 (qa + 3) (by omega) (by omega)]; exact hm_366
        have hm_448 : M_411 (qa + 4) = some (aI G 6 (nF av)) := by rw [hF_417 (qa + 4) (by omega) (by omega)]; exact hm_367
        have hm_449 : M_411 (qa + 5) = some (aI G 24 (nF ro)) := by rw [hF_417 (qa + 5) (by omega) (by omega)]; exact hm_368
        have hm_450 : M_411 (qa + 6) = some (aI G 24 (nF te)) := by rw [hF_417 (qa + 6) (by omega) (by omega)]; exact hm_369
        have hm_451 : M_411 qs = some (cQuestion ad qs sq su) := by rw [hF_417 qs (by omega) (by omega)]; exact hm_370
        have hm_452 : M_411 (qs + 1) = some (aI G 6 (nF kb)) := by rw [hF_417 (qs + 1) (by omega) (by omega)]; exact hm_371
        have hm_453 : M_411 (qs + 2) = some (aZ G 6 (bF nb)) := by rw [hF_417 (qs + 2) (by omega) (by omega)]; exact hm_372
        have hm_454 : M_411 (qs + 3) = some (aI G 6 (nF pb)) := by rw [hF_417 (qs + 3) (by omega) (by omega)]; exact hm_373
        have hm_455 : M_411 (qs + 4) = some (aI G 6 (nF ab)) := by rw [hF_417 (qs + 4) (by omega) (by omega)]; exact hm_374
        have hm_456 : M_411 (qs + 5) = some (aI G 24 (nF rbb)) := by rw [hF_417 (qs + 5) (by omega) (by omega)]; exact hm_375
        have hm_457 : M_411 (qs + 6) = some (aI G 24 (nF tbb)) := by rw [hF_417 (qs + 6) (by omega) (by omega)]; exact hm_376
        have hm_458 : M_411 61 = some (aI G 36 (nF le)) := by rw [hF_417 61 (by omega) (by omega)]; exact hm_378
        have hm_459 : M_411 62 = some (aI G 36 (nF mo)) := by rw [hF_417 62 (by omega) (by omega)]; exact hm_379
        have hm_460 : M_411 63 = some (aI G 36 (nF al)) := by rw [hF_417 63 (by omega) (by omega)]; exact hm_380
        have hm_461 : M_411 65 = some (aI G 120 (nF mk)) := by rw [hF_417 65 (by omega) (by omega)]; exact hm_382
        have hm_462 : M_411 66 = some (aI G 120 mf) := by rw [hF_417 66 (by omega) (by omega)]; exact hm_383
        have hm_463 : M_411 67 = some (aI G 120 mu) := by rw [hF_417 67 (by omega) (by omega)]; exact hm_384
        have hm_464 : M_411 68 = some (aI G 121 (nF mz)) := by rw [hF_417 68 (by omega) (by omega)]; exact hm_385
        have hm_465 : M_411 69 = some (aI G 726 (nF rr)) := by rw [hF_417 69 (by omega) (by omega)]; exact hm_386
        have hm_466 : M_411 70 = some (aI G 726 (nF ee)) := by rw [hF_417 70 (by omega) (by omega)]; exact hm_387
        have hm_467 : M_411 71 = some (aI G 40 (nF lst)) := by rw [hF_417 71 (by omega) (by omega)]; exact hm_388
        have hm_468 : M_411 72 = some (aI G 40 (nF oa)) := by rw [hF_417 72 (by omega) (by omega)]; exact hm_389
        have hm_469 : M_411 73 = some (aI G 40 (nF ob)) := by rw [hF_417 73 (by omega) (by omega)]; exact hm_390
        have hm_470 : M_411 74 = some (aI G 120 s74) := by rw [hF_417 74 (by omega) (by omega)]; exact hm_391
        have hm_471 : M_411 75 = some (aI G 12 ak) := by rw [hF_417 75 (by omega) (by omega)]; exact hm_392
        have hm_472 : M_411 76 = some (aZ G 12 (bF nm)) := by rw [hF_417 76 (by omega) (by omega)]; exact hm_393
        have hm_473 : M_411 77 = some (aI G 12 (nF ap)) := by rw [hF_417 77 (by omega) (by omega)]; exact hm_394
        have hm_474 : M_411 78 = some (aI G 48 pr) := by rw [hF_417 78 (by omega) (by omega)]; exact hm_395
        have hm_475 : M_411 79 = some (aI G 48 pf) := by rw [hF_417 79 (by omega) (by omega)]; exact hm_396
        have hm_476 : M_411 80 = some (aB G 400 tf) := by rw [hF_417 80 (by omega) (by omega)]; exact hm_397
        have hm_477 : M_411 81 = some (aI G 5 fv) := by rw [hF_417 81 (by omega) (by omega)]; exact hm_398
        have hm_478 : M_411 82 = some (aZ G 384000 (bF tr)) := by rw [hF_417 82 (by omega) (by omega)]; exact hm_399
        have hm_479 : M_411 83 = some (aI G 3 (oF gv)) := by rw [hF_417 83 (by omega) (by omega)]; exact hm_400
        have hm_480 : M_411 84 = some (aI G 3 fo) := by rw [hF_417 84 (by omega) (by omega)]; exact hm_401
        have hm_481 : M_411 85 = some (aZ G 40 (bF re)) := by rw [hF_417 85 (by omega) (by omega)]; exact hm_402
        have hm_482 : M_411 86 = some (aZ G 120 (bF us)) := by rw [hF_417 86 (by omega) (by omega)]; exact hm_403
        have hm_483 : M_411 87 = some (aZ G 120 (bF nx)) := by rw [hF_417 87 (by omega) (by omega)]; exact hm_404
        have hm_484 : M_411 99 = some (aJ G 1 (vp_updL of 0 (bL (decide (ho t1 ≠ false))))) := by rw [hF_417 99 (by omega) (by omega)]; exact hm_336
        have hm_485 : M_411 16 = some (cLines ad ) := by rw [hF_417 16 (by omega) (by omega)]; exact hm_405
        have hL_486 : LSm G ad M_411 n kd fm to sz rl en := hL_406.keep (fun j hj => hF_417 j (by omega) (by omega))
        have hF_487 : ∀ j : Nat, j ≠ 7 → j ≠ 99 → j ≠ 60 → j ≠ 64 → M_411 j = M j := fun j q0 q1 q2 q3 => (hF_417 j q2 q3).trans (hF_407 j q0 q1)
        rw [hr_414]
        refine lv_istore (lv' := [(6, .int (bI (decide (ho t1 ≠ false)))), (5, .int (nI 0)), (0, .ref b), (1, .ref (ad 0)), (2, .ref (ad 60)), (3, .ref (ad 99)), (4, .int (nI i))]) hx hb dL_law_417 hl (by decide) rfl (fun ls hl => ?_)
        refine lv_aload_n hx hb dL_law_419 rfl (lv_at hl 4 rfl) ?_
        refine k_Ri (va_runV (As := []) (rest := []) ⟨hx, hb, hml, hown, hts⟩ (c_X10_thrown l G z ad M_411 (th := 0) (ln := n) (on := jn) (ao := ao) (vr := vr) (sn := sn) (tp := len) (pt := pt) (zs := zs) (bg := bg) (fa := fw) hm_415) (cwV 0 hts (gV (lwg_of t_997 rfl) (lwg_of t_998 rfl) (lwg_of t_999 rfl) (lwg_of t_13 rfl) (lwg_of t_1000 rfl)) rfl rfl rfl (by decide +kernel) ⟨Nat.le_of_ble_eq_true rfl, Nat.le_of_ble_eq_true rfl⟩) (hI.preV hm_415 rfl) rfl rfl hl.1 rfl (lv_room (Nat.le_of_ble_eq_true rfl)) dL_law_420 ⟨(show _ ≤ (601024 : Nat) from by omega), (show _ ≤ (7293034 : Nat) from by omega)⟩) (fun _ h => h) (fun r_488 hp_489 => ?_)
        rw [hp_489]
        refine lv_iload hx hb dL_law_423 (lv_at hl 1 rfl) ?_
        refine lv_icmp_eq (tgt := 430) hx hb dL_law_425 (by decide) (fun c_490 => ?_) (fun c_490 => ?_)
        · -- 425: nI 0 eq
          refine lv_iload hx hb dL_law_430 (lv_at hl 1 rfl) ?_
          refine lv_if_ne (tgt := 454) hx hb dL_law_432 (by decide) (fun c_491 => ?_) (fun c_491 => ?_)
          · -- 432: nI 0 ne
            exact absurd (by decide) c_491
          · -- 432: nI 0 eq
            refine lv_aload_n hx hb dL_law_435 rfl (lv_at hl 5 rfl) ?_
            refine lv_iconst (v := nI 0) hx hb dL_law_436 (by decide) ?_
            refine h_lald (i := 0) hx hb hI hm_484 (by omega) (by decide) dL_law_437 ?_
            refine n_eql (show _ = bL (decide (ho t1 ≠ false)) from updL_0) ?_
            refine lv_iload hx hb dL_law_438 (lv_at hl 0 rfl) ?_
            refine lv_if_eq (tgt := 447) hx hb dL_law_440 (by decide) (fun c_492 => ?_) (fun c_492 => ?_)
            · -- 440: bI (decide (ho t1 ≠ false)) eq
              have c_492 : decide (ho t1 ≠ false) = false := bI_f (c_492)
              refine lv_lconst (v := 0) hx hb dL_law_447 (by decide) ?_
              refine W.lcmp hx hb dL_law_448 ?_
              refine lv_if_eq (tgt := 454) hx hb dL_law_449 (by decide) (fun c_493 => ?_) (fun c_493 => ?_)
              · -- 449: lg_cmp (bL (decide (ho t1 ≠ false))) (0 : Int64) eq
                have c_493 : bL (decide (ho t1 ≠ false)) = (0 : Int64) := (lg_cmp_eq _ _).mp c_493
                refine lv_goto (tgt := 1333) hx hb dL_law_454 (by decide) ?_
                refine W.widen (k := cz + 10) (n := sy + 300) (by omega) (by omega) ?_
                exact kk ad M_411 H_412 locs_413 ls n kd fm to sz rl en qa qs fw len tb le mo al (va_up ho t1 false) jn hg lst jd s0 r0 th ol e0 mm9 ff lq ra rb rt rv qm pz sx ft rx dm rc ao vr kn nq pn av ro te sq su kb nb pb ab rbb tbb 0 sn pt zs bg mk mf mu mz rr ee oa ob s74 ak nm ap pr pf tf fv tr gv fo re us nx (vp_updL of 0 (bL (decide (ho t1 ≠ false)))) hL_486 w1 w2 w3 w4 w5 w6 w7 w8 w9 w10 w11 w12 w13 w14 w15 w16 w17 w18 w19 w20 w21 w22 w23 w24 w25 w26 w27 w28 w29 (fun h9 => by rw [hF_487 17 (by omega) (by omega) (by omega) (by omega), hF_487 18 (by omega) (by omega) (by omega) (by omega)]; exact w30 h9) (by rw [hF_487 29 (by omega) (by omega) (by omega) (by omega)]; exact w31) (fun j9 h9 => by rw [hF_487 j9 (by omega) (by omega) (by omega) (by omega)]; exact w32 j9 h9) hm_418 hm_419 hm_420 hm_421 hm_422 hm_423 hm_424 hm_425 hm_426 hm_427 hm_428 hm_429 hm_430 hm_431 hm_432 hm_433 hm_434 hm_435 hm_436 hm_437 hm_438 hm_439 hm_440 hm_441 hm_442 hm_443 hm_444 hm_445 hm_446 hm_447 hm_448 hm_449 hm_450 hm_451 hm_452 hm_453 hm_454 hm_455 hm_456 hm_457 hm_415 hm_458 hm_459 hm_460 hm_416 hm_461 hm_462 hm_463 hm_464 hm_465 hm_466 hm_467 hm_468 hm_469 hm_470 hm_471 hm_472 hm_473 hm_474 hm_475 hm_476 hm_477 hm_478 hm_479 hm_480 hm_481 hm_482 hm_483 hm_484 hI (lv_sub hl [2, 3, 4, 5, 6] rfl)
              · -- 449: lg_cmp (bL (decide (ho t1 ≠ false))) (0 : Int64) ne
                have c_493 : bL (decide (ho t1 ≠ false)) ≠ (0 : Int64) := (fun h => c_493 ((lg_cmp_eq _ _).mpr h))
                exact absurd (by rw [bL, show (decide (ho t1 ≠ false)) = false from by assumption]; rfl) c_493
            · -- 440: bI (decide (ho t1 ≠ false)) ne
              have c_492 : decide (ho t1 ≠ false) = true := bI_t (c_492)
              refine lv_lconst (v := 1) hx hb dL_law_443 (by decide) ?_
              refine lv_goto (tgt := 448) hx hb dL_law_444 (by decide) ?_
              refine W.lcmp hx hb dL_law_448 ?_
              refine lv_if_eq (tgt := 454) hx hb dL_law_449 (by decide) (fun c_494 => ?_) (fun c_494 => ?_)
              · -- 449: lg_cmp (bL (decide (ho t1 ≠ false))) (1 : Int64) eq
                have c_494 : bL (decide (ho t1 ≠ false)) = (1 : Int64) := (lg_cmp_eq _ _).mp c_494
                refine lv_goto (tgt := 1333) hx hb dL_law_454 (by decide) ?_
                refine W.widen (k := cz + 10) (n := sy + 300) (by omega) (by omega) ?_
                exact kk ad M_411 H_412 locs_413 ls n kd fm to sz rl en qa qs fw len tb le mo al (va_up ho t1 false) jn hg lst jd s0 r0 th ol e0 mm9 ff lq ra rb rt rv qm pz sx ft rx dm rc ao vr kn nq pn av ro te sq su kb nb pb ab rbb tbb 0 sn pt zs bg mk mf mu mz rr ee oa ob s74 ak nm ap pr pf tf fv tr gv fo re us nx (vp_updL of 0 (bL (decide (ho t1 ≠ false)))) hL_486 w1 w2 w3 w4 w5 w6 w7 w8 w9 w10 w11 w12 w13 w14 w15 w16 w17 w18 w19 w20 w21 w22 w23 w24 w25 w26 w27 w28 w29 (fun h9 => by rw [hF_487 17 (by omega) (by omega) (by omega) (by omega), hF_487 18 (by omega) (by omega) (by omega) (by omega)]; exact w30 h9) (by rw [hF_487 29 (by omega) (by omega) (by omega) (by omega)]; exact w31) (fun j9 h9 => by rw [hF_487 j9 (by omega) (by omega) (by omega) (by omega)]; exact w32 j9 h9) hm_418 hm_419 hm_420 hm_421 hm_422 hm_423 hm_424 hm_425 hm_426 hm_427 hm_428 hm_429 hm_430 hm_431 hm_432 hm_433 hm_434 hm_435 hm_436 hm_437 hm_438 hm_439 hm_440 hm_441 hm_442 hm_443 hm_444 hm_445 hm_446 hm_447 hm_448 hm_449 hm_450 hm_451 hm_452 hm_453 hm_454 hm_455 hm_456 hm_457 hm_415 hm_458 hm_459 hm_460 hm_416 hm_461 hm_462 hm_463 hm_464 hm_465 hm_466 hm_467 hm_468 hm_469 hm_470 hm_471 hm_472 hm_473 hm_474 hm_475 hm_476 hm_477 hm_478 hm_479 hm_480 hm_481 hm_482 hm_483 hm_484 hI (lv_sub hl [2, 3, 4, 5, 6] rfl)
              · -- 449: lg_cmp (bL (decide (ho t1 ≠ false))) (1 : Int64) ne
                have c_494 : bL (decide (ho t1 ≠ false)) ≠ (1 : Int64) := (fun h => c_494 ((lg_cmp_eq _ _).mpr h))
                exact absurd (by rw [bL, show (decide (ho t1 ≠ false)) = true from by assumption]; rfl) c_494
        · -- 425: nI 0 ne
          exact absurd (by decide) c_490
      · -- 406: xs (i + 2) ne
        exact absurd (by assumption) c_408
    · -- 379: xs (i + 2) ne
      refine lv_iconst (v := nI 1) hx hb dL_law_382 (by decide) ?_
      refine n_eq (show _ = bI true from rfl) ?_
      refine lv_goto (tgt := 387) hx hb dL_law_383 (by decide) ?_
      refine lv_aload_n hx hb dL_law_387 rfl (lv_at hl 3 rfl) ?_
      refine k_Ni (vx_runSW (As := [.ref (ad 0), .int (nI t1), .int (bI true), .ref (ad 99)]) (rest := []) ⟨hx, hb, hml, hown, hts⟩ (c_L_holds l hst G z ad M (qa := qa) (qs := qs) (fw := fw) (ho := ho) (kd := t1) (b := true) (of := of) f_0 f_3 f_7 f_99 ht1) (vx_cwSW 4 hts (gSW (lwg_of t_585 rfl) (lwg_of t_586 rfl) (lwg_of t_0 rfl) (lwg_of t_587 rfl)) rfl rfl rfl (by decide +kernel) ⟨Nat.le_of_ble_eq_true rfl, Nat.le_of_ble_eq_true rfl⟩) hI.preS rfl rfl hl.1 rfl (lv_room (Nat.le_of_ble_eq_true rfl)) dL_law_388 ⟨(show _ ≤ (601024 : Nat) from by omega), (show _ ≤ (7293034 : Nat) from by omega)⟩) hI (fun r_495 M_497 H_498 locs_499 hp_496 hI => ?_)
      obtain ⟨hr_500, hm_501, hm_502, hF_503⟩ := hp_496
      have hm_504 : M_497 0 = some (cStore ad qa qs fw) := by rw [hF_503 0 (by omega) (by omega)]; exact f_0
      have hm_505 : M_497 1 = some (cTape ad len) := by rw [hF_503 1 (by omega) (by omega)]; exact f_1
      have hm_506 : M_497 2 = some (aI G 400 (nF tb)) := by rw [hF_503 2 (by omega) (by omega)]; exact f_2
      have hm_507 : M_497 3 = some (cLaws ad ) := by rw [hF_503 3 (by omega) (by omega)]; exact f_3
      have hm_508 : M_497 4 = some (aI G 36 (nF le)) := by rw [hF_503 4 (by omega) (by omega)]; exact f_4
      have hm_509 : M_497 5 = some (aI G 36 (nF mo)) := by rw [hF_503 5 (by omega) (by omega)]; exact f_5
      have hm_510 : M_497 6 = some (aI G 36 (nF al)) := by rw [hF_503 6 (by omega) (by omega)]; exact f_6
      have hm_511 : M_497 8 = some (cOnes ad jn) := by rw [hF_503 8 (by omega) (by omega)]; exact f_8
      have hm_512 : M_497 9 = some (aI G 40 (nF hg)) := by rw [hF_503 9 (by omega) (by omega)]; exact f_9
      have hm_513 : M_497 10 = some (aI G 40 (nF lst)) := by rw [hF_503 10 (by omega) (by omega)]; exact f_10
      have hm_514 : M_497 11 = some (aI G 40 (nF jd)) := by rw [hF_503 11 (by omega) (by omega)]; exact f_11
      have hm_515 : M_497 12 = some (cEnds ad 12 s0) := by rw [hF_503 12 (by omega) (by omega)]; exact f_12
      have hm_516 : M_497 13 = some (aI G 6 (nF r0)) := by rw [hF_503 13 (by omega) (by omega)]; exact f_13
      have hm_517 : M_497 14 = some (aI G 6 (oF th)) := by rw [hF_503 14 (by omega) (by omega)]; exact f_14
      have hm_518 : M_497 15 = some (aI G 6 (oF ol)) := by rw [hF_503 15 (by omega) (by omega)]; exact f_15
      have hm_519 : M_497 19 = some (aZ G 120 (bF mm9)) := by rw [hF_503 19 (by omega) (by omega)]; exact f_19
      have hm_520 : M_497 20 = some (aI G 120 ff) := by rw [hF_503 20 (by omega) (by omega)]; exact f_20
      have hm_521 : M_497 21 = some (aI G 120 lq) := by rw [hF_503 21 (by omega) (by omega)]; exact f_21
      have hm_522 : M_497 22 = some (cReader ad ra rb rt rv) := by rw [hF_503 22 (by omega) (by omega)]; exact f_22
      have hm_523 : M_497 23 = some (cMatcher ad qm pz) := by rw [hF_503 23 (by omega) (by omega)]; exact f_23
      have hm_524 : M_497 24 = some (aJ G 2160 sx) := by rw [hF_503 24 (by omega) (by omega)]; exact f_24
      have hm_525 : M_497 25 = some (aI G 6 (nF ft)) := by rw [hF_503 25 (by omega) (by omega)]; exact f_25
      have hm_526 : M_497 26 = some (aJ G 240 rx) := by rw [hF_503 26 (by omega) (by omega)]; exact f_26
      have hm_527 : M_497 27 = some (aJ G 3 dm) := by rw [hF_503 27 (by omega) (by omega)]; exact f_27
      have hm_528 : M_497 28 = some (aI G 3 rc) := by rw [hF_503 28 (by omega) (by omega)]; exact f_28
      have hm_529 : M_497 qa = some (cQuestion ad qa ao vr) := by rw [hF_503 qa (by omega) (by omega)]; exact f_qa
      have hm_530 : M_497 (qa + 1) = some (aI G 6 (nF kn)) := by rw [hF_503 (qa + 1) (by omega) (by omega)]; exact f_qa_1
      have hm_531 : M_497 (qa + 2) = some (aZ G 6 (bF nq)) := by rw [hF_503 (qa + 2) (by omega) (by omega)]; exact f_qa_2
      have hm_532 : M_497 (qa + 3) = some (aI G 6 (nF pn)) := by rw [hF_503 (qa + 3) (by omega) (by omega)]; exact f_qa_3
      have hm_533 : M_497 (qa + 4) = some (aI G 6 (nF av)) := by rw [hF_503 (qa + 4) (by omega) (by omega)]; exact f_qa_4
      have hm_534 : M_497 (qa + 5) = some (aI G 24 (nF ro)) := by rw [hF_503 (qa + 5) (by omega) (by omega)]; exact f_qa_5
      have hm_535 : M_497 (qa + 6) = some (aI G 24 (nF te)) := by rw [hF_503 (qa + 6) (by omega) (by omega)]; exact f_qa_6
      have hm_536 : M_497 qs = some (cQuestion ad qs sq su) := by rw [hF_503 qs (by omega) (by omega)]; exact f_qs
      have hm_537 : M_497 (qs + 1) = some (aI G 6 (nF kb)) := by rw [hF_503 (qs + 1) (by omega) (by omega)]; exact f_qs_1
      have hm_538 : M_497 (qs + 2) = some (aZ G 6 (bF nb)) := by rw [hF_503 (qs + 2) (by omega) (by omega)]; exact f_qs_2
      have hm_539 : M_497 (qs + 3) = some (aI G 6 (nF pb)) := by rw [hF_503 (qs + 3) (by omega) (by omega)]; exact f_qs_3
      have hm_540 : M_497 (qs + 4) = some (aI G 6 (nF ab)) := by rw [hF_503 (qs + 4) (by omega) (by omega)]; exact f_qs_4
      have hm_541 : M_497 (qs + 5) = some (aI G 24 (nF rbb)) := by rw [hF_503 (qs + 5) (by omega) (by omega)]; exact f_qs_5
      have hm_542 : M_497 (qs + 6) = some (aI G 24 (nF tbb)) := by rw [hF_503 (qs + 6) (by omega) (by omega)]; exact f_qs_6
      have hm_543 : M_497 60 = some (cModel ad tw n jn ao vr sn len pt zs bg fw) := by rw [hF_503 60 (by omega) (by omega)]; exact f_60
      have hm_544 : M_497 61 = some (aI G 36 (nF le)) := by rw [hF_503 61 (by omega) (by omega)]; exact f_61
      have hm_545 : M_497 62 = some (aI G 36 (nF mo)) := by rw [hF_503 62 (by omega) (by omega)]; exact f_62
      have hm_546 : M_497 63 = some (aI G 36 (nF al)) := by rw [hF_503 63 (by omega) (by omega)]; exact f_63
      have hm_547 : M_497 64 = some (aZ G 6 (bF ho)) := by rw [hF_503 64 (by omega) (by omega)]; exact f_64
      have hm_548 : M_497 65 = some (aI G 120 (nF mk)) := by rw [hF_503 65 (by omega) (by omega)]; exact f_65
      have hm_549 : M_497 66 = some (aI G 120 mf) := by rw [hF_503 66 (by omega) (by omega)]; exact f_66
      have hm_550 : M_497 67 = some (aI G 120 mu) := by rw [hF_503 67 (by omega) (by omega)]; exact f_67
      have hm_551 : M_497 68 = some (aI G 121 (nF mz)) := by rw [hF_503 68 (by omega) (by omega)]; exact f_68
      have hm_552 : M_497 69 = some (aI G 726 (nF rr)) := by rw [hF_503 69 (by omega) (by omega)]; exact f_69
      have hm_553 : M_497 70 = some (aI G 726 (nF ee)) := by rw [hF_503 70 (by omega) (by omega)]; exact f_70
      have hm_554 : M_497 71 = some (aI G 40 (nF lst)) := by rw [hF_503 71 (by omega) (by omega)]; exact f_71
      have hm_555 : M_497 72 = some (aI G 40 (nF oa)) := by rw [hF_503 72 (by omega) (by omega)]; exact f_72
      have hm_556 : M_497 73 = some (aI G 40 (nF ob)) := by rw [hF_503 73 (by omega) (by omega)]; exact f_73
      have hm_557 : M_497 74 = some (aI G 120 s74) := by rw [hF_503 74 (by omega) (by omega)]; exact f_74
      have hm_558 : M_497 75 = some (aI G 12 ak) := by rw [hF_503 75 (by omega) (by omega)]; exact f_75
      have hm_559 : M_497 76 = some (aZ G 12 (bF nm)) := by rw [hF_503 76 (by omega) (by omega)]; exact f_76
      have hm_560 : M_497 77 = some (aI G 12 (nF ap)) := by rw [hF_503 77 (by omega) (by omega)]; exact f_77
      have hm_561 : M_497 78 = some (aI G 48 pr) := by rw [hF_503 78 (by omega) (by omega)]; exact f_78
      have hm_562 : M_497 79 = some (aI G 48 pf) := by rw [hF_503 79 (by omega) (by omega)]; exact f_79
      have hm_563 : M_497 80 = some (aB G 400 tf) := by rw [hF_503 80 (by omega) (by omega)]; exact f_80
      have hm_564 : M_497 81 = some (aI G 5 fv) := by rw [hF_503 81 (by omega) (by omega)]; exact f_81
      have hm_565 : M_497 82 = some (aZ G 384000 (bF tr)) := by rw [hF_503 82 (by omega) (by omega)]; exact f_82
      have hm_566 : M_497 83 = some (aI G 3 (oF gv)) := by rw [hF_503 83 (by omega) (by omega)]; exact f_83
      have hm_567 : M_497 84 = some (aI G 3 fo) := by rw [hF_503 84 (by omega) (by omega)]; exact f_84
      have hm_568 : M_497 85 = some (aZ G 40 (bF re)) := by rw [hF_503 85 (by omega) (by omega)]; exact f_85
      have hm_569 : M_497 86 = some (aZ G 120 (bF us)) := by rw [hF_503 86 (by omega) (by omega)]; exact f_86
      have hm_570 : M_497 87 = some (aZ G 120 (bF nx)) := by rw [hF_503 87 (by omega) (by omega)]; exact f_87
      have hm_571 : M_497 16 = some (cLines ad ) := by rw [hF_503 16 (by omega) (by omega)]; exact h16
      have hL_572 : LSm G ad M_497 n kd fm to sz rl en := fL.keep (fun j hj => hF_503 j (by omega) (by omega))
      have hF_573 : ∀ j : Nat, j ≠ 7 → j ≠ 99 → M_497 j = M j := fun j q0 q1 => (hF_503 j q0 q1)
      rw [hr_500]
      refine lv_istore (lv' := [(5, .int (nI 0)), (0, .ref b), (1, .ref (ad 0)), (2, .ref (ad 60)), (3, .ref (ad 99)), (4, .int (nI i))]) hx hb dL_law_391 hl (by decide) rfl (fun ls hl => ?_)
      refine lv_aload_n hx hb dL_law_393 rfl (lv_at hl 3 rfl) ?_
      refine lv_aload_n hx hb dL_law_394 rfl (lv_at hl 1 rfl) ?_
      refine lv_iload hx hb dL_law_395 (lv_at hl 5 rfl) ?_
      refine lv_iconst (v := nI 1) hx hb dL_law_397 (by decide) ?_
      refine lv_iadd hx hb dL_law_398 ?_
      refine n_eq (nI_add i 1) ?_
      refine va_sld (A := fr z) hx hb hX hbl hbz hI.S (vp_in_nI (n := i + 1) (by omega) (by omega)) dL_law_399 ?_
      rw [nI_clamp (by omega)]
      refine n_eq (show _ = nI t1 from et1) ?_
      refine lv_aload_n hx hb dL_law_400 rfl (lv_at hl 1 rfl) ?_
      refine lv_iload hx hb dL_law_401 (lv_at hl 5 rfl) ?_
      refine lv_iconst (v := nI 2) hx hb dL_law_403 (by decide) ?_
      refine lv_iadd hx hb dL_law_404 ?_
      refine n_eq (nI_add i 2) ?_
      refine va_sld (A := fr z) hx hb hX hbl hbz hI.S (vp_in_nI (n := i + 2) (by omega) (by omega)) dL_law_405 ?_
      rw [nI_clamp (by omega)]
      refine lv_if_eq (tgt := 413) hx hb dL_law_406 (by decide) (fun c_574 => ?_) (fun c_574 => ?_)
      · -- 406: xs (i + 2) eq
        exact absurd c_574 (by assumption)
      · -- 406: xs (i + 2) ne
        refine lv_iconst (v := nI 1) hx hb dL_law_409 (by decide) ?_
        refine n_eq (show _ = bI true from rfl) ?_
        refine lv_goto (tgt := 414) hx hb dL_law_410 (by decide) ?_
        refine k_Ni (va_runV (As := [.int (nI t1), .int (bI true)]) (rest := []) ⟨hx, hb, hml, hown, hts⟩ (c_X10_holds l G z ad M_497 (th := tw) (ln := n) (on := jn) (ao := ao) (vr := vr) (sn := sn) (tp := len) (pt := pt) (zs := zs) (bg := bg) (fa := fw) (ho := ho) (kd := t1) (b := true) hm_543 hm_547 ht1) (cwV 2 hts (gV (lwg_of t_1149 rfl) (lwg_of t_1150 rfl) (lwg_of t_1151 rfl) (lwg_of t_13 rfl) (lwg_of t_1152 rfl)) rfl rfl rfl (by decide +kernel) ⟨Nat.le_of_ble_eq_true rfl, Nat.le_of_ble_eq_true rfl⟩) (hI.preV hm_543 rfl) rfl rfl hl.1 rfl (lv_room (Nat.le_of_ble_eq_true rfl)) dL_law_414 ⟨(show _ ≤ (601024 : Nat) from by omega), (show _ ≤ (7293034 : Nat) from by omega)⟩) hI (fun r_575 M_577 H_578 locs_579 hp_576 hI => ?_)
        obtain ⟨hr_580, hm_581, hm_582, hF_583⟩ := hp_576
        have hm_584 : M_577 0 = some (cStore ad qa qs fw) := by rw [hF_583 0 (by omega) (by omega)]; exact hm_504
        have hm_585 : M_577 1 = some (cTape ad len) := by rw [hF_583 1 (by omega) (by omega)]; exact hm_505
        have hm_586 : M_577 2 = some (aI G 400 (nF tb)) := by rw [hF_583 2 (by omega) (by omega)]; exact hm_506
        have hm_587 : M_577 3 = some (cLaws ad ) := by rw [hF_583 3 (by omega) (by omega)]; exact hm_507
        have hm_588 : M_577 4 = some (aI G 36 (nF le)) := by rw [hF_583 4 (by omega) (by omega)]; exact hm_508
        have hm_589 : M_577 5 = some (aI G 36 (nF mo)) := by rw [hF_583 5 (by omega) (by omega)]; exact hm_509
        have hm_590 : M_577 6 = some (aI G 36 (nF al)) := by rw [hF_583 6 (by omega) (by omega)]; exact hm_510
        have hm_591 : M_577 7 = some (aZ G 6 (bF (va_up ho t1 true))) := by rw [hF_583 7 (by omega) (by omega)]; exact hm_501
        have hm_592 : M_577 8 = some (cOnes ad jn) := by rw [hF_583 8 (by omega) (by omega)]; exact hm_511
        have hm_593 : M_577 9 = some (aI G 40 (nF hg)) := by rw [hF_583 9 (by omega) (by omega)]; exact hm_512
        have hm_594 : M_577 10 = some (aI G 40 (nF lst)) := by rw [hF_583 10 (by omega) (by omega)]; exact hm_513
        have hm_595 : M_577 11 = some (aI G 40 (nF jd)) := by rw [hF_583 11 (by omega) (by omega)]; exact hm_514
        have hm_596 : M_577 12 = some (cEnds ad 12 s0) := by rw [hF_583 12 (by omega) (by omega)]; exact hm_515
        have hm_597 : M_577 13 = some (aI G 6 (nF r0)) := by rw [hF_583 13 (by omega) (by omega)]; exact hm_516
        have hm_598 : M_577 14 = some (aI G 6 (oF th)) := by rw [hF_583 14 (by omega) (by omega)]; exact hm_517
        have hm_599 : M_577 15 = some (aI G 6 (oF ol)) := by rw [hF_583 15 (by omega) (by omega)]; exact hm_518
        have hm_600 : M_577 19 = some (aZ G 120 (bF mm9)) := by rw [hF_583 19 (by omega) (by omega)]; exact hm_519
        have hm_601 : M_577 20 = some (aI G 120 ff) := by rw [hF_583 20 (by omega) (by omega)]; exact hm_520
        have hm_602 : M_577 21 = some (aI G 120 lq) := by rw [hF_583 21 (by omega) (by omega)]; exact hm_521
        have hm_603 : M_577 22 = some (cReader ad ra rb rt rv) := by rw [hF_583 22 (by omega) (by omega)]; exact hm_522
        have hm_604 : M_577 23 = some (cMatcher ad qm pz) := by rw [hF_583 23 (by omega) (by omega)]; exact hm_523
        have hm_605 : M_577 24 = some (aJ G 2160 sx) := by rw [hF_583 24 (by omega) (by omega)]; exact hm_524
        have hm_606 : M_577 25 = some (aI G 6 (nF ft)) := by rw [hF_583 25 (by omega) (by omega)]; exact hm_525
        have hm_607 : M_577 26 = some (aJ G 240 rx) := by rw [hF_583 26 (by omega) (by omega)]; exact hm_526
        have hm_608 : M_577 27 = some (aJ G 3 dm) := by rw [hF_583 27 (by omega) (by omega)]; exact hm_527
        have hm_609 : M_577 28 = some (aI G 3 rc) := by rw [hF_583 28 (by omega) (by omega)]; exact hm_528
        have hm_610 : M_577 qa = some (cQuestion ad qa ao vr) := by rw [hF_583 qa (by omega) (by omega)]; exact hm_529
        have hm_611 : M_577 (qa + 1) = some (aI G 6 (nF kn)) := by rw [hF_583 (qa + 1) (by omega) (by omega)]; exact hm_530
        have hm_612 : M_577 (qa + 2) = some (aZ G 6 (bF nq)) := by rw [hF_583 (qa + 2) (by omega) (by omega)]; exact hm_531
        have hm_613 : M_577 (qa + 3) = some (aI G 6 (nF pn)) := by rw [hF_583 (qa + 3) (by omega) (by omega)]; exact hm_532
        have hm_614 : M_577 (qa + 4) = some (aI G 6 (nF av)) := by rw [hF_583 (qa + 4) (by omega) (by omega)]; exact hm_533
        have hm_615 : M_577 (qa + 5) = some (aI G 24 (nF ro)) := by rw [hF_583 (qa + 5) (by omega) (by omega)]; exact hm_534
        have hm_616 : M_577 (qa + 6) = some (aI G 24 (nF te)) := by rw [hF_583 (qa + 6) (by omega) (by omega)]; exact hm_535
        have hm_617 : M_577 qs = some (cQuestion ad qs sq su) := by rw [hF_583 qs (by omega) (by omega)]; exact hm_536
        have hm_618 : M_577 (qs + 1) = some (aI G 6 (nF kb)) := by rw [hF_583 (qs + 1) (by omega) (by omega)]; exact hm_537
        have hm_619 : M_577 (qs + 2) = some (aZ G 6 (bF nb)) := by rw [hF_583 (qs + 2) (by omega) (by omega)]; exact hm_538
        have hm_620 : M_577 (qs + 3) = some (aI G 6 (nF pb)) := by rw [hF_583 (qs + 3) (by omega) (by omega)]; exact hm_539
        have hm_621 : M_577 (qs + 4) = some (aI G 6 (nF ab)) := by rw [hF_583 (qs + 4) (by omega) (by omega)]; exact hm_540
        have hm_622 : M_577 (qs + 5) = some (aI G 24 (nF rbb)) := by rw [hF_583 (qs + 5) (by omega) (by omega)]; exact hm_541
        have hm_623 : M_577 (qs + 6) = some (aI G 24 (nF tbb)) := by rw [hF_583 (qs + 6) (by omega) (by omega)]; exact hm_542
        have hm_624 : M_577 61 = some (aI G 36 (nF le)) := by rw [hF_583 61 (by omega) (by omega)]; exact hm_544
        have hm_625 : M_577 62 = some (aI G 36 (nF mo)) := by rw [hF_583 62 (by omega) (by omega)]; exact hm_545
        have hm_626 : M_577 63 = some (aI G 36 (nF al)) := by rw [hF_583 63 (by omega) (by omega)]; exact hm_546
        have hm_627 : M_577 65 = some (aI G 120 (nF mk)) := by rw [hF_583 65 (by omega) (by omega)]; exact hm_548
        have hm_628 : M_577 66 = some (aI G 120 mf) := by rw [hF_583 66 (by omega) (by omega)]; exact hm_549
        have hm_629 : M_577 67 = some (aI G 120 mu) := by rw [hF_583 67 (by omega) (by omega)]; exact hm_550
        have hm_630 : M_577 68 = some (aI G 121 (nF mz)) := by rw [hF_583 68 (by omega) (by omega)]; exact hm_551
        have hm_631 : M_577 69 = some (aI G 726 (nF rr)) := by rw [hF_583 69 (by omega) (by omega)]; exact hm_552
        have hm_632 : M_577 70 = some (aI G 726 (nF ee)) := by rw [hF_583 70 (by omega) (by omega)]; exact hm_553
        have hm_633 : M_577 71 = some (aI G 40 (nF lst)) := by rw [hF_583 71 (by omega) (by omega)]; exact hm_554
        have hm_634 : M_577 72 = some (aI G 40 (nF oa)) := by rw [hF_583 72 (by omega) (by omega)]; exact hm_555
        have hm_635 : M_577 73 = some (aI G 40 (nF ob)) := by rw [hF_583 73 (by omega) (by omega)]; exact hm_556
        have hm_636 : M_577 74 = some (aI G 120 s74) := by rw [hF_583 74 (by omega) (by omega)]; exact hm_557
        have hm_637 : M_577 75 = some (aI G 12 ak) := by rw [hF_583 75 (by omega) (by omega)]; exact hm_558
        have hm_638 : M_577 76 = some (aZ G 12 (bF nm)) := by rw [hF_583 76 (by omega) (by omega)]; exact hm_559
        have hm_639 : M_577 77 = some (aI G 12 (nF ap)) := by rw [hF_583 77 (by omega) (by omega)]; exact hm_560
        have hm_640 : M_577 78 = some (aI G 48 pr) := by rw [hF_583 78 (by omega) (by omega)]; exact hm_561
        have hm_641 : M_577 79 = some (aI G 48 pf) := by rw [hF_583 79 (by omega) (by omega)]; exact hm_562
        have hm_642 : M_577 80 = some (aB G 400 tf) := by rw [hF_583 80 (by omega) (by omega)]; exact hm_563
        have hm_643 : M_577 81 = some (aI G 5 fv) := by rw [hF_583 81 (by omega) (by omega)]; exact hm_564
        have hm_644 : M_577 82 = some (aZ G 384000 (bF tr)) := by rw [hF_583 82 (by omega) (by omega)]; exact hm_565
        have hm_645 : M_577 83 = some (aI G 3 (oF gv)) := by rw [hF_583 83 (by omega) (by omega)]; exact hm_566
        have hm_646 : M_577 84 = some (aI G 3 fo) := by rw [hF_583 84 (by omega) (by omega)]; exact hm_567
        have hm_647 : M_577 85 = some (aZ G 40 (bF re)) := by rw [hF_583 85 (by omega) (by omega)]; exact hm_568
        have hm_648 : M_577 86 = some (aZ G 120 (bF us)) := by rw [hF_583 86 (by omega) (by omega)]; exact hm_569
        have hm_649 : M_577 87 = some (aZ G 120 (bF nx)) := by rw [hF_583 87 (by omega) (by omega)]; exact hm_570
        have hm_650 : M_577 99 = some (aJ G 1 (vp_updL of 0 (bL (decide (ho t1 ≠ true))))) := by rw [hF_583 99 (by omega) (by omega)]; exact hm_502
        have hm_651 : M_577 16 = some (cLines ad ) := by rw [hF_583 16 (by omega) (by omega)]; exact hm_571
        have hL_652 : LSm G ad M_577 n kd fm to sz rl en := hL_572.keep (fun j hj => hF_583 j (by omega) (by omega))
        have hF_653 : ∀ j : Nat, j ≠ 7 → j ≠ 99 → j ≠ 60 → j ≠ 64 → M_577 j = M j := fun j q0 q1 q2 q3 => (hF_583 j q2 q3).trans (hF_573 j q0 q1)
        rw [hr_580]
        refine lv_istore (lv' := [(6, .int (bI (decide (ho t1 ≠ true)))), (5, .int (nI 0)), (0, .ref b), (1, .ref (ad 0)), (2, .ref (ad 60)), (3, .ref (ad 99)), (4, .int (nI i))]) hx hb dL_law_417 hl (by decide) rfl (fun ls hl => ?_)
        refine lv_aload_n hx hb dL_law_419 rfl (lv_at hl 4 rfl) ?_
        refine k_Ri (va_runV (As := []) (rest := []) ⟨hx, hb, hml, hown, hts⟩ (c_X10_thrown l G z ad M_577 (th := 0) (ln := n) (on := jn) (ao := ao) (vr := vr) (sn := sn) (tp := len) (pt := pt) (zs := zs) (bg := bg) (fa := fw) hm_581) (cwV 0 hts (gV (lwg_of t_997 rfl) (lwg_of t_998 rfl) (lwg_of t_999 rfl) (lwg_of t_13 rfl) (lwg_of t_1000 rfl)) rfl rfl rfl (by decide +kernel) ⟨Nat.le_of_ble_eq_true rfl, Nat.le_of_ble_eq_true rfl⟩) (hI.preV hm_581 rfl) rfl rfl hl.1 rfl (lv_room (Nat.le_of_ble_eq_true rfl)) dL_law_420 ⟨(show _ ≤ (601024 : Nat) from by omega), (show _ ≤ (7293034 : Nat) from by omega)⟩) (fun _ h => h) (fun r_654 hp_655 => ?_)
        rw [hp_655]
        refine lv_iload hx hb dL_law_423 (lv_at hl 1 rfl) ?_
        refine lv_icmp_eq (tgt := 430) hx hb dL_law_425 (by decide) (fun c_656 => ?_) (fun c_656 => ?_)
        · -- 425: nI 0 eq
          refine lv_iload hx hb dL_law_430 (lv_at hl 1 rfl) ?_
          refine lv_if_ne (tgt := 454) hx hb dL_law_432 (by decide) (fun c_657 => ?_) (fun c_657 => ?_)
          · -- 432: nI 0 ne
            exact absurd (by decide) c_657
          · -- 432: nI 0 eq
            refine lv_aload_n hx hb dL_law_435 rfl (lv_at hl 5 rfl) ?_
            refine lv_iconst (v := nI 0) hx hb dL_law_436 (by decide) ?_
            refine h_lald (i := 0) hx hb hI hm_650 (by omega) (by decide) dL_law_437 ?_
            refine n_eql (show _ = bL (decide (ho t1 ≠ true)) from updL_0) ?_
            refine lv_iload hx hb dL_law_438 (lv_at hl 0 rfl) ?_
            refine lv_if_eq (tgt := 447) hx hb dL_law_440 (by decide) (fun c_658 => ?_) (fun c_658 => ?_)
            · -- 440: bI (decide (ho t1 ≠ true)) eq
              have c_658 : decide (ho t1 ≠ true) = false := bI_f (c_658)
              refine lv_lconst (v := 0) hx hb dL_law_447 (by decide) ?_
              refine W.lcmp hx hb dL_law_448 ?_
              refine lv_if_eq (tgt := 454) hx hb dL_law_449 (by decide) (fun c_659 => ?_) (fun c_659 => ?_)
              · -- 449: lg_cmp (bL (decide (ho t1 ≠ true))) (0 : Int64) eq
                have c_659 : bL (decide (ho t1 ≠ true)) = (0 : Int64) := (lg_cmp_eq _ _).mp c_659
                refine lv_goto (tgt := 1333) hx hb dL_law_454 (by decide) ?_
                refine W.widen (k := cz + 10) (n := sy + 300) (by omega) (by omega) ?_
                exact kk ad M_577 H_578 locs_579 ls n kd fm to sz rl en qa qs fw len tb le mo al (va_up ho t1 true) jn hg lst jd s0 r0 th ol e0 mm9 ff lq ra rb rt rv qm pz sx ft rx dm rc ao vr kn nq pn av ro te sq su kb nb pb ab rbb tbb 0 sn pt zs bg mk mf mu mz rr ee oa ob s74 ak nm ap pr pf tf fv tr gv fo re us nx (vp_updL of 0 (bL (decide (ho t1 ≠ true)))) hL_652 w1 w2 w3 w4 w5 w6 w7 w8 w9 w10 w11 w12 w13 w14 w15 w16 w17 w18 w19 w20 w21 w22 w23 w24 w25 w26 w27 w28 w29 (fun h9 => by rw [hF_653 17 (by omega) (by omega) (by omega) (by omega), hF_653 18 (by omega) (by omega) (by omega) (by omega)]; exact w30 h9) (by rw [hF_653 29 (by omega) (by omega) (by omega) (by omega)]; exact w31) (fun j9 h9 => by rw [hF_653 j9 (by omega) (by omega) (by omega) (by omega)]; exact w32 j9 h9) hm_584 hm_585 hm_586 hm_587 hm_588 hm_589 hm_590 hm_591 hm_592 hm_593 hm_594 hm_595 hm_596 hm_597 hm_598 hm_599 hm_600 hm_601 hm_602 hm_603 hm_604 hm_605 hm_606 hm_607 hm_608 hm_609 hm_610 hm_611 hm_612 hm_613 hm_614 hm_615 hm_616 hm_617 hm_618 hm_619 hm_620 hm_621 hm_622 hm_623 hm_581 hm_624 hm_625 hm_626 hm_582 hm_627 hm_628 hm_629 hm_630 hm_631 hm_632 hm_633 hm_634 hm_635 hm_636 hm_637 hm_638 hm_639 hm_640 hm_641 hm_642 hm_643 hm_644 hm_645 hm_646 hm_647 hm_648 hm_649 hm_650 hI (lv_sub hl [2, 3, 4, 5, 6] rfl)
              · -- 449: lg_cmp (bL (decide (ho t1 ≠ true))) (0 : Int64) ne
                have c_659 : bL (decide (ho t1 ≠ true)) ≠ (0 : Int64) := (fun h => c_659 ((lg_cmp_eq _ _).mpr h))
                exact absurd (by rw [bL, show (decide (ho t1 ≠ true)) = false from by assumption]; rfl) c_659
            · -- 440: bI (decide (ho t1 ≠ true)) ne
              have c_658 : decide (ho t1 ≠ true) = true := bI_t (c_658)
              refine lv_lconst (v := 1) hx hb dL_law_443 (by decide) ?_
              refine lv_goto (tgt := 448) hx hb dL_law_444 (by decide) ?_
              refine W.lcmp hx hb dL_law_448 ?_
              refine lv_if_eq (tgt := 454) hx hb dL_law_449 (by decide) (fun c_660 => ?_) (fun c_660 => ?_)
              · -- 449: lg_cmp (bL (decide (ho t1 ≠ true))) (1 : Int64) eq
                have c_660 : bL (decide (ho t1 ≠ true)) = (1 : Int64) := (lg_cmp_eq _ _).mp c_660
                refine lv_goto (tgt := 1333) hx hb dL_law_454 (by decide) ?_
                refine W.widen (k := cz + 10) (n := sy + 300) (by omega) (by omega) ?_
                exact kk ad M_577 H_578 locs_579 ls n kd fm to sz rl en qa qs fw len tb le mo al (va_up ho t1 true) jn hg lst jd s0 r0 th ol e0 mm9 ff lq ra rb rt rv qm pz sx ft rx dm rc ao vr kn nq pn av ro te sq su kb nb pb ab rbb tbb 0 sn pt zs bg mk mf mu mz rr ee oa ob s74 ak nm ap pr pf tf fv tr gv fo re us nx (vp_updL of 0 (bL (decide (ho t1 ≠ true)))) hL_652 w1 w2 w3 w4 w5 w6 w7 w8 w9 w10 w11 w12 w13 w14 w15 w16 w17 w18 w19 w20 w21 w22 w23 w24 w25 w26 w27 w28 w29 (fun h9 => by rw [hF_653 17 (by omega) (by omega) (by omega) (by omega), hF_653 18 (by omega) (by omega) (by omega) (by omega)]; exact w30 h9) (by rw [hF_653 29 (by omega) (by omega) (by omega) (by omega)]; exact w31) (fun j9 h9 => by rw [hF_653 j9 (by omega) (by omega) (by omega) (by omega)]; exact w32 j9 h9) hm_584 hm_585 hm_586 hm_587 hm_588 hm_589 hm_590 hm_591 hm_592 hm_593 hm_594 hm_595 hm_596 hm_597 hm_598 hm_599 hm_600 hm_601 hm_602 hm_603 hm_604 hm_605 hm_606 hm_607 hm_608 hm_609 hm_610 hm_611 hm_612 hm_613 hm_614 hm_615 hm_616 hm_617 hm_618 hm_619 hm_620 hm_621 hm_622 hm_623 hm_581 hm_624 hm_625 hm_626 hm_582 hm_627 hm_628 hm_629 hm_630 hm_631 hm_632 hm_633 hm_634 hm_635 hm_636 hm_637 hm_638 hm_639 hm_640 hm_641 hm_642 hm_643 hm_644 hm_645 hm_646 hm_647 hm_648 hm_649 hm_650 hI (lv_sub hl [2, 3, 4, 5, 6] rfl)
              · -- 449: lg_cmp (bL (decide (ho t1 ≠ true))) (1 : Int64) ne
                have c_660 : bL (decide (ho t1 ≠ true)) ≠ (1 : Int64) := (fun h => c_660 ((lg_cmp_eq _ _).mpr h))
                exact absurd (by rw [bL, show (decide (ho t1 ≠ true)) = true from by assumption]; rfl) c_660
        · -- 425: nI 0 ne
          exact absurd (by decide) c_656
