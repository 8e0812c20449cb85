theorem cnt3_le (u : Nat) : cnt3 u ≤ 3 := by
  simp only [cnt3]
  split <;> split <;> split <;> omega
theorem way_eq {R : Nat → Prop} {x y : Int32} (h1 : ∃ o : Option Nat, x = oI o ∧ (∀ i, o = some i → i < 40 ∧ R i ∧ ∀ j, j < i → ¬ R j) ∧ (o = none → ∀ j, ¬ R j)) (h2 : ∃ o : Option Nat, y = oI o ∧ (∀ i, o = some i → R i ∧ ∀ j, j < i → ¬ R j) ∧ (o = none → ∀ j, j < 121 → ¬ R j)) : x = y := by
  obtain ⟨o1, rfl, a1, a2⟩ := h1
  obtain ⟨o2, rfl, b1, b2⟩ := h2
  cases o1 with
  | none =>
    cases o2 with
    | none => rfl
    | some j => exact absurd (b1 j rfl).1 (a2 rfl j)
  | some i =>
    have hi := a1 i rfl
    cases o2 with
    | none => exact absurd hi.2.1 (b2 rfl i (by omega))
    | some j =>
      have hj := b1 j rfl
      rcases Nat.lt_trichotomy i j with h | h | h
      · exact absurd hi.2.1 (hj.2 i h)
      · rw [h]
      · exact absurd hj.1 (hi.2.2 j h)

set_option maxHeartbeats 8000000 in
set_option maxRecDepth 100000 in
theorem law_12 {p : Program} {l : Launch} {e : Env} {s : State} {m : MethodId} {below : List Frame} {meth : Method} {c : Code} {b L : Nat} {xs : Nat → Int32} {Q : State → Prop} {G : GG} {z : Nat} {ad : Nat → Nat} {M : Mem} {H : Heap} {locs : List Loc} {ls : Array Slot} {i cz sy : Nat} (hst : l.stackTraces = false) (hx : p.tables.exec = Jvm.exec) (hb : c.code = code) (hml : c.maxLocals = 7) (hown : s.vm.findClass RL = some m.cls) {cx : Cond} (hts : ∀ w ∈ cx :: lwg, w.before #[Value.ref b] s = true) (hX : va_X b L xs s s.heap) (hbl : b < s.heap.size) (hbz : ¬ z ≤ b) (hI : Iv G z ad M s H locs) (hl : lv_has ls 7 [(0, .ref b), (1, .ref (ad 0)), (2, .ref (ad 60)), (3, .ref (ad 99)), (4, .int (nI i))]) (hiL : i + 6 ≤ L) (hL : L ≤ 3072) (hcz : cz + 10 ≤ 601024) (hsy : sy + 300 ≤ 7293034) {n : Nat} {kd : Nat → Nat} {fm : Nat → Int32} {to : Nat → Int32} {sz : Nat → Nat} {rl : Nat → Nat → Nat} {en : Nat → Nat → Nat} {qa : Nat} {qs : Nat} {fw : Int32} {len : Nat} {tb : Nat → Nat} {le : Nat → Nat} {mo : Nat → Nat} {al : Nat → Nat} {ho : Nat → Bool} {jn : Nat} {hg : Nat → Nat} {lst : Nat → Nat} {jd : Nat → Nat} {s0 : Nat} {r0 : Nat → Nat} {th : Nat → Option Nat} {ol : Nat → Option Nat} {e0 : Nat → Nat} {mm9 : Nat → Bool} {ff : Nat → Int32} {lq : Nat → Int32} {ra : Nat} {rb : Nat} {rt : Int32} {rv : Int32} {qm : Nat} {pz : Nat} {sx : Nat → Int64} {ft : Nat → Nat} {rx : Nat → Int64} {dm : Nat → Int64} {rc : Nat → Int32} {ao : Nat} {vr : Nat} {kn : Nat → Nat} {nq : Nat → Bool} {pn : Nat → Nat} {av : Nat → Nat} {ro : Nat → Nat} {te : Nat → Nat} {sq : Nat} {su : Nat} {kb : Nat → Nat} {nb : Nat → Bool} {pb : Nat → Nat} {ab : Nat → Nat} {rbb : Nat → Nat} {tbb : Nat → Nat} {tw : Nat} {sn : Nat} {pt : Nat} {zs : Nat} {bg : Nat} {mk : Nat → Nat} {mf : Nat → Int32} {mu : Nat → Int32} {mz : Nat → Nat} {rr : Nat → Nat} {ee : Nat → Nat} {oa : Nat → Nat} {ob : Nat → Nat} {s74 : Nat → Int32} {ak : Nat → Int32} {nm : Nat → Bool} {ap : Nat → Nat} {pr : Nat → Int32} {pf : Nat → Int32} {tf : Nat → Int32} {fv : Nat → Int32} {tr : Nat → Bool} {gv : Nat → Option Nat} {fo : Nat → Int32} {re : Nat → Bool} {us : Nat → Bool} {nx : Nat → Bool} {of : Nat → Int64} (fL : LSm G ad M n kd fm to sz rl en) (w1 : LSw n kd sz rl en) (w2 : MRel n kd fm to sz rl en mk mf mu mz rr ee) (w3 : JI jn hg lst jd oa ob) (w4 : len ≤ 400) (w5 : ∀ j, j < len → tb j < 256) (w6 : ∀ j, j < len → tf j = sB (tb j)) (w7 : s0 ≤ 6) (w8 : mz 120 = s0) (w9 : ∀ j, j < s0 → rr (720 + j) = r0 j ∧ ee (720 + j) = e0 j) (w10 : ∀ j, j < s0 → r0 j < 6) (w11 : ∀ j, j < s0 → e0 j < 40 + n) (w12 : ∀ j, j < s0 → th j = thE e0 j) (w13 : ∀ j, j < s0 → ol j = olE e0 j) (w14 : ∀ j, j < 36 → le j < 100) (w15 : ∀ j, j < 36 → mo j < 100) (w16 : ∀ j, j < 36 → al j ≤ 100) (w17 : ∀ i, i < n → (0 : Int32) ≤ fm i) (w18 : ∀ i, i < n → ∀ k, hgs sz en i k = true → fm k ≤ fm i) (w19 : ao ≤ 6) (w20 : vr < 8) (w21 : ∀ i, i < ao → ap i ≤ 4 ∧ (ak i = nI (kn i) ∧ kn i < 6) ∧ ∀ p8, p8 < ap i → (pr (4 * i + p8) = nI (ro (i * 4 + p8)) ∧ ro (i * 4 + p8) < 6) ∧ te (i * 4 + p8) < 43 ∧ pf (4 * i + p8) = tmI (te (i * 4 + p8))) (w22 : ∀ i, i < ao → nm i = nq i ∧ ap i = pn i) (w23 : ∀ i, i < ao → av i < 8) (w24 : ∀ i, i < ao → (av i).testBit 0 = false → ∀ p9, p9 < pn i → te (i * 4 + p9) ≠ 40) (w25 : ∀ v, v < 3 → vr.testBit v = true → ∃ i, i < ao ∧ nq i = false ∧ ∃ k, k < pn i ∧ te (i * 4 + k) = 40 + v) (w26 : 29 < qa ∧ qa < 38) (w27 : 29 < qs ∧ qs < 38) (w28 : qa + 7 ≤ qs ∨ qs + 7 ≤ qa) (w29 : 29 < qm ∧ qm < 51) (w30 : n = 0 → (∃ mcn : Int32, M 17 = some (cList ad mcn G.2.2.2.2 0)) ∧ M 18 = none) (w31 : M 29 = none) (w32 : ∀ j, 100 + 5 * n ≤ j → M j = none) (f_0 : M 0 = some (cStore ad qa qs fw)) (f_1 : M 1 = some (cTape ad len)) (f_2 : M 2 = some (aI G 400 (nF tb))) (f_3 : M 3 = some (cLaws ad )) (f_4 : M 4 = some (aI G 36 (nF le))) (f_5 : M 5 = some (aI G 36 (nF mo))) (f_6 : M 6 = some (aI G 36 (nF al))) (f_7 : M 7 = some (aZ G 6 (bF ho))) (f_8 : M 8 = some (cOnes ad jn)) (f_9 : M 9 = some (aI G 40 (nF hg))) (f_10 : M 10 = some (aI G 40 (nF lst))) (f_11 : M 11 = some (aI G 40 (nF jd))) (f_12 : M 12 = some (cEnds ad 12 s0)) (f_13 : M 13 = some (aI G 6 (nF r0))) (f_14 : M 14 = some (aI G 6 (oF th))) (f_15 : M 15 = some (aI G 6 (oF ol))) (f_19 : M 19 = some (aZ G 120 (bF mm9))) (f_20 : M 20 = some (aI G 120 ff)) (f_21 : M 21 = some (aI G 120 lq)) (f_22 : M 22 = some (cReader ad ra rb rt rv)) (f_23 : M 23 = some (cMatcher ad qm pz)) (f_24 : M 24 = some (aJ G 2160 sx)) (f_25 : M 25 = some (aI G 6 (nF ft))) (f_26 : M 26 = some (aJ G 240 rx)) (f_27 : M 27 = some (aJ G 3 dm)) (f_28 : M 28 = some (aI G 3 rc)) (f_qa : M qa = some (cQuestion ad qa ao vr)) (f_qa_1 : M (qa + 1) = some (aI G 6 (nF kn))) (f_qa_2 : M (qa + 2) = some (aZ G 6 (bF nq))) (f_qa_3 : M (qa + 3) = some (aI G 6 (nF pn))) (f_qa_4 : M (qa + 4) = some (aI G 6 (nF av))) (f_qa_5 : M (qa + 5) = some (aI G 24 (nF ro))) (f_qa_6 : M (qa + 6) = some (aI G 24 (nF te))) (f_qs : M qs = some (cQuestion ad qs sq su)) (f_qs_1 : M (qs + 1) = some (aI G 6 (nF kb))) (f_qs_2 : M (qs + 2) = some (aZ G 6 (bF nb))) (f_qs_3 : M (qs + 3) = some (aI G 6 (nF pb))) (f_qs_4 : M (qs + 4) = some (aI G 6 (nF ab))) (f_qs_5 : M (qs + 5) = some (aI G 24 (nF rbb))) (f_qs_6 : M (qs + 6) = some (aI G 24 (nF tbb))) (f_60 : M 60 = some (cModel ad tw n jn ao vr sn len pt zs bg fw)) (f_61 : M 61 = some (aI G 36 (nF le))) (f_62 : M 62 = some (aI G 36 (nF mo))) (f_63 : M 63 = some (aI G 36 (nF al))) (f_64 : M 64 = some (aZ G 6 (bF ho))) (f_65 : M 65 = some (aI G 120 (nF mk))) (f_66 : M 66 = some (aI G 120 mf)) (f_67 : M 67 = some (aI G 120 mu)) (f_68 : M 68 = some (aI G 121 (nF mz))) (f_69 : M 69 = some (aI G 726 (nF rr))) (f_70 : M 70 = some (aI G 726 (nF ee))) (f_71 : M 71 = some (aI G 40 (nF lst))) (f_72 : M 72 = some (aI G 40 (nF oa))) (f_73 : M 73 = some (aI G 40 (nF ob))) (f_74 : M 74 = some (aI G 120 s74)) (f_75 : M 75 = some (aI G 12 ak)) (f_76 : M 76 = some (aZ G 12 (bF nm))) (f_77 : M 77 = some (aI G 12 (nF ap))) (f_78 : M 78 = some (aI G 48 pr)) (f_79 : M 79 = some (aI G 48 pf)) (f_80 : M 80 = some (aB G 400 tf)) (f_81 : M 81 = some (aI G 5 fv)) (f_82 : M 82 = some (aZ G 384000 (bF tr))) (f_83 : M 83 = some (aI G 3 (oF gv))) (f_84 : M 84 = some (aI G 3 fo)) (f_85 : M 85 = some (aZ G 40 (bF re))) (f_86 : M 86 = some (aZ G 120 (bF us))) (f_87 : M 87 = some (aZ G 120 (bF nx))) (f_99 : M 99 = some (aJ G 1 of)) (kk : ∀ (ad1 : Nat → Nat) (M1 : Mem) (H1 : Heap) (locs1 : List Loc) (ls1 : Array Slot) (n : Nat) (kd : Nat → Nat) (fm : Nat → Int32) (to : Nat → Int32) (sz : Nat → Nat) (rl : Nat → Nat → Nat) (en : Nat → Nat → Nat) (qa : Nat) (qs : Nat) (fw : Int32) (len : Nat) (tb : Nat → Nat) (le : Nat → Nat) (mo : Nat → Nat) (al : Nat → Nat) (ho : Nat → Bool) (jn : Nat) (hg : Nat → Nat) (lst : Nat → Nat) (jd : Nat → Nat) (s0 : Nat) (r0 : Nat → Nat) (th : Nat → Option Nat) (ol : Nat → Option Nat) (e0 : Nat → Nat) (mm9 : Nat → Bool) (ff : Nat → Int32) (lq : Nat → Int32) (ra : Nat) (rb : Nat) (rt : Int32) (rv : Int32) (qm : Nat) (pz : Nat) (sx : Nat → Int64) (ft : Nat → Nat) (rx : Nat → Int64) (dm : Nat → Int64) (rc : Nat → Int32) (ao : Nat) (vr : Nat) (kn : Nat → Nat) (nq : Nat → Bool) (pn : Nat → Nat) (av : Nat → Nat) (ro : Nat → Nat) (te : Nat → Nat) (sq : Nat) (su : Nat) (kb : Nat → Nat) (nb : Nat → Bool) (pb : Nat → Nat) (ab : Nat → Nat) (rbb : Nat → Nat) (tbb : Nat → Nat) (tw : Nat) (sn : Nat) (pt : Nat) (zs : Nat) (bg : Nat) (mk : Nat → Nat) (mf : Nat → Int32) (mu : Nat → Int32) (mz : Nat → Nat) (rr : Nat → Nat) (ee : Nat → Nat) (oa : Nat → Nat) (ob : Nat → Nat) (s74 : Nat → Int32) (ak : Nat → Int32) (nm : Nat → Bool) (ap : Nat → Nat) (pr : Nat → Int32) (pf : Nat → Int32) (tf : Nat → Int32) (fv : Nat → Int32) (tr : Nat → Bool) (gv : Nat → Option Nat) (fo : Nat → Int32) (re : Nat → Bool) (us : Nat → Bool) (nx : Nat → Bool) (of : Nat → Int64), (LSm G ad1 M1 n kd fm to sz rl en) → (LSw n kd sz rl en) → (MRel n kd fm to sz rl en mk mf mu mz rr ee) → (JI jn hg lst jd oa ob) → (len ≤ 400) → (∀ j, j < len → tb j < 256) → (∀ j, j < len → tf j = sB (tb j)) → (s0 ≤ 6) → (mz 120 = s0) → (∀ j, j < s0 → rr (720 + j) = r0 j ∧ ee (720 + j) = e0 j) → (∀ j, j < s0 → r0 j < 6) → (∀ j, j < s0 → e0 j < 40 + n) → (∀ j, j < s0 → th j = thE e0 j) → (∀ j, j < s0 → ol j = olE e0 j) → (∀ j, j < 36 → le j < 100) → (∀ j, j < 36 → mo j < 100) → (∀ j, j < 36 → al j ≤ 100) → (∀ i, i < n → (0 : Int32) ≤ fm i) → (∀ i, i < n → ∀ k, hgs sz en i k = true → fm k ≤ fm i) → (ao ≤ 6) → (vr < 8) → (∀ i, i < ao → ap i ≤ 4 ∧ (ak i = nI (kn i) ∧ kn i < 6) ∧ ∀ p8, p8 < ap i → (pr (4 * i + p8) = nI (ro (i * 4 + p8)) ∧ ro (i * 4 + p8) < 6) ∧ te (i * 4 + p8) < 43 ∧ pf (4 * i + p8) = tmI (te (i * 4 + p8))) → (∀ i, i < ao → nm i = nq i ∧ ap i = pn i) → (∀ i, i < ao → av i < 8) → (∀ i, i < ao → (av i).testBit 0 = false → ∀ p9, p9 < pn i → te (i * 4 + p9) ≠ 40) → (∀ v, v < 3 → vr.testBit v = true → ∃ i, i < ao ∧ nq i = false ∧ ∃ k, k < pn i ∧ te (i * 4 + k) = 40 + v) → (29 < qa ∧ qa < 38) → (29 < qs ∧ qs < 38) → (qa + 7 ≤ qs ∨ qs + 7 ≤ qa) → (29 < qm ∧ qm < 51) → (n = 0 → (∃ mcn : Int32, M1 17 = some (cList ad1 mcn G.2.2.2.2 0)) ∧ M1 18 = none) → (M1 29 = none) → (∀ j, 100 + 5 * n ≤ j → M1 j = none) → (M1 0 = some (cStore ad1 qa qs fw)) → (M1 1 = some (cTape ad1 len)) → (M1 2 = some (aI G 400 (nF tb))) → (M1 3 = some (cLaws ad1 )) → (M1 4 = some (aI G 36 (nF le))) → (M1 5 = some (aI G 36 (nF mo))) → (M1 6 = some (aI G 36 (nF al))) → (M1 7 = some (aZ G 6 (bF ho))) → (M1 8 = some (cOnes ad1 jn)) → (M1 9 = some (aI G 40 (nF hg))) → (M1 10 = some (aI G 40 (nF lst))) → (M1 11 = some (aI G 40 (nF jd))) → (M1 12 = some (cEnds ad1 12 s0)) → (M1 13 = some (aI G 6 (nF r0))) → (M1 14 = some (aI G 6 (oF th))) → (M1 15 = some (aI G 6 (oF ol))) → (M1 19 = some (aZ G 120 (bF mm9))) → (M1 20 = some (aI G 120 ff)) → (M1 21 = some (aI G 120 lq)) → (M1 22 = some (cReader ad1 ra rb rt rv)) → (M1 23 = some (cMatcher ad1 qm pz)) → (M1 24 = some (aJ G 2160 sx)) → (M1 25 = some (aI G 6 (nF ft))) → (M1 26 = some (aJ G 240 rx)) → (M1 27 = some (aJ G 3 dm)) → (M1 28 = some (aI G 3 rc)) → (M1 qa = some (cQuestion ad1 qa ao vr)) → (M1 (qa + 1) = some (aI G 6 (nF kn))) → (M1 (qa + 2) = some (aZ G 6 (bF nq))) → (M1 (qa + 3) = some (aI G 6 (nF pn))) → (M1 (qa + 4) = some (aI G 6 (nF av))) → (M1 (qa + 5) = some (aI G 24 (nF ro))) → (M1 (qa + 6) = some (aI G 24 (nF te))) → (M1 qs = some (cQuestion ad1 qs sq su)) → (M1 (qs + 1) = some (aI G 6 (nF kb))) → (M1 (qs + 2) = some (aZ G 6 (bF nb))) → (M1 (qs + 3) = some (aI G 6 (nF pb))) → (M1 (qs + 4) = some (aI G 6 (nF ab))) → (M1 (qs + 5) = some (aI G 24 (nF rbb))) → (M1 (qs + 6) = some (aI G 24 (nF tbb))) → (M1 60 = some (cModel ad1 tw n jn ao vr sn len pt zs bg fw)) → (M1 61 = some (aI G 36 (nF le))) → (M1 62 = some (aI G 36 (nF mo))) → (M1 63 = some (aI G 36 (nF al))) → (M1 64 = some (aZ G 6 (bF ho))) → (M1 65 = some (aI G 120 (nF mk))) → (M1 66 = some (aI G 120 mf)) → (M1 67 = some (aI G 120 mu)) → (M1 68 = some (aI G 121 (nF mz))) → (M1 69 = some (aI G 726 (nF rr))) → (M1 70 = some (aI G 726 (nF ee))) → (M1 71 = some (aI G 40 (nF lst))) → (M1 72 = some (aI G 40 (nF oa))) → (M1 73 = some (aI G 40 (nF ob))) → (M1 74 = some (aI G 120 s74)) → (M1 75 = some (aI G 12 ak)) → (M1 76 = some (aZ G 12 (bF nm))) → (M1 77 = some (aI G 12 (nF ap))) → (M1 78 = some (aI G 48 pr)) → (M1 79 = some (aI G 48 pf)) → (M1 80 = some (aB G 400 tf)) → (M1 81 = some (aI G 5 fv)) → (M1 82 = some (aZ G 384000 (bF tr))) → (M1 83 = some (aI G 3 (oF gv))) → (M1 84 = some (aI G 3 fo)) → (M1 85 = some (aZ G 40 (bF re))) → (M1 86 = some (aZ G 120 (bF us))) → (M1 87 = some (aZ G 120 (bF nx))) → (M1 99 = some (aJ G 1 of)) → Iv G z ad1 M1 s H1 locs1 → lv_has ls1 7 [(0, .ref b), (1, .ref (ad1 0)), (2, .ref (ad1 60)), (3, .ref (ad1 99)), (4, .int (nI i))] → W p l e room_1 s m #[Value.ref b] below meth c H1 locs1 (cz + 10) (sy + 300) Q (F0 m 1333 ls1 [])) : W p l e room_1 s m #[Value.ref b] below meth c H locs cz sy Q (F0 m 913 ls []) := by
  have h16 := fL.1
  have hw1 := w1.1
  have hlst := ji_lst w3
  rcases (in_or n (xs (i + 1)) (by omega) : (xs (i + 1) < 0 ∨ ¬ xs (i + 1) < nI n) ∨ (∃ t : Nat, t < n ∧ xs (i + 1) = nI t)) with hc_1 | hc_2
  · skip
    refine lv_aload_n hx hb dL_law_913 rfl (lv_at hl 1 rfl) ?_
    refine lv_aload_n hx hb dL_law_914 rfl (lv_at hl 0 rfl) ?_
    refine lv_iload hx hb dL_law_915 (lv_at hl 4 rfl) ?_
    refine lv_iconst (v := nI 1) hx hb dL_law_917 (by decide) ?_
    refine lv_iadd hx hb dL_law_918 ?_
    refine n_eq (nI_add i 1) ?_
    refine va_sld (A := fr z) hx hb hX hbl hbz hI.S (vp_in_nI (n := i + 1) (by omega) (by omega)) dL_law_919 ?_
    rw [nI_clamp (by omega)]
    refine lv_aload_n hx hb dL_law_920 rfl (lv_at hl 0 rfl) ?_
    refine lv_iload hx hb dL_law_921 (lv_at hl 4 rfl) ?_
    refine lv_iconst (v := nI 2) hx hb dL_law_923 (by decide) ?_
    refine lv_iadd hx hb dL_law_924 ?_
    refine n_eq (nI_add i 2) ?_
    refine va_sld (A := fr z) hx hb hX hbl hbz hI.S (vp_in_nI (n := i + 2) (by omega) (by omega)) dL_law_925 ?_
    rw [nI_clamp (by omega)]
    refine lv_aload_n hx hb dL_law_926 rfl (lv_at hl 0 rfl) ?_
    refine lv_iload hx hb dL_law_927 (lv_at hl 4 rfl) ?_
    refine lv_iconst (v := nI 3) hx hb dL_law_929 (by decide) ?_
    refine lv_iadd hx hb dL_law_930 ?_
    refine n_eq (nI_add i 3) ?_
    refine va_sld (A := fr z) hx hb hX hbl hbz hI.S (vp_in_nI (n := i + 3) (by omega) (by omega)) dL_law_931 ?_
    rw [nI_clamp (by omega)]
    refine lv_aload_n hx hb dL_law_932 rfl (lv_at hl 3 rfl) ?_
    refine k_Ni (vx_runSW (As := [.ref (ad 0), .int (xs (i + 1)), .int (xs (i + 2)), .int (xs (i + 3)), .ref (ad 99)]) (rest := []) ⟨hx, hb, hml, hown, hts⟩ (c_L_ended_a l hst G z ad M (n := n) (kd := kd) (fm := fm) (to := to) (sz := sz) (rl := rl) (en := en) (qa := qa) (qs := qs) (fw := fw) (x0 := xs (i + 1)) (x1 := xs (i + 2)) (x2 := xs (i + 3)) fL f_0 hc_1) (vx_cwSW 5 hts (gSW (lwg_of t_888 rfl) (lwg_of t_889 rfl) (lwg_of t_0 rfl) (lwg_of t_890 rfl)) rfl rfl rfl (by decide +kernel) ⟨Nat.le_of_ble_eq_true rfl, Nat.le_of_ble_eq_true rfl⟩) hI.preS rfl rfl hl.1 rfl (lv_room (Nat.le_of_ble_eq_true rfl)) dL_law_933 ⟨(show _ ≤ (601024 : Nat) from by omega), (show _ ≤ (7293034 : Nat) from by omega)⟩) hI (fun r_3 M_5 H_6 locs_7 hp_4 hI => ?_)
    obtain ⟨hr_8, hF_9⟩ := hp_4
    have hm_10 : M_5 0 = some (cStore ad qa qs fw) := by rw [hF_9 0 ]; exact f_0
    have hm_11 : M_5 1 = some (cTape ad len) := by rw [hF_9 1 ]; exact f_1
    have hm_12 : M_5 2 = some (aI G 400 (nF tb)) := by rw [hF_9 2 ]; exact f_2
    have hm_13 : M_5 3 = some (cLaws ad ) := by rw [hF_9 3 ]; exact f_3
    have hm_14 : M_5 4 = some (aI G 36 (nF le)) := by rw [hF_9 4 ]; exact f_4
    have hm_15 : M_5 5 = some (aI G 36 (nF mo)) := by rw [hF_9 5 ]; exact f_5
    have hm_16 : M_5 6 = some (aI G 36 (nF al)) := by rw [hF_9 6 ]; exact f_6
    have hm_17 : M_5 7 = some (aZ G 6 (bF ho)) := by rw [hF_9 7 ]; exact f_7
    have hm_18 : M_5 8 = some (cOnes ad jn) := by rw [hF_9 8 ]; exact f_8
    have hm_19 : M_5 9 = some (aI G 40 (nF hg)) := by rw [hF_9 9 ]; exact f_9
    have hm_20 : M_5 10 = some (aI G 40 (nF lst)) := by rw [hF_9 10 ]; exact f_10
    have hm_21 : M_5 11 = some (aI G 40 (nF jd)) := by rw [hF_9 11 ]; exact f_11
    have hm_22 : M_5 12 = some (cEnds ad 12 s0) := by rw [hF_9 12 ]; exact f_12
    have hm_23 : M_5 13 = some (aI G 6 (nF r0)) := by rw [hF_9 13 ]; exact f_13
    have hm_24 : M_5 14 = some (aI G 6 (oF th)) := by rw [hF_9 14 ]; exact f_14
    have hm_25 : M_5 15 = some (aI G 6 (oF ol)) := by rw [hF_9 15 ]; exact f_15
    have hm_26 : M_5 19 = some (aZ G 120 (bF mm9)) := by rw [hF_9 19 ]; exact f_19
    have hm_27 : M_5 20 = some (aI G 120 ff) := by rw [hF_9 20 ]; exact f_20
    have hm_28 : M_5 21 = some (aI G 120 lq) := by rw [hF_9 21 ]; exact f_21
    have hm_29 : M_5 22 = some (cReader ad ra rb rt rv) := by rw [hF_9 22 ]; exact f_22
    have hm_30 : M_5 23 = some (cMatcher ad qm pz) := by rw [hF_9 23 ]; exact f_23
    have hm_31 : M_5 24 = some (aJ G 2160 sx) := by rw [hF_9 24 ]; exact f_24
    have hm_32 : M_5 25 = some (aI G 6 (nF ft)) := by rw [hF_9 25 ]; exact f_25
    have hm_33 : M_5 26 = some (aJ G 240 rx) := by rw [hF_9 26 ]; exact f_26
    have hm_34 : M_5 27 = some (aJ G 3 dm) := by rw [hF_9 27 ]; exact f_27
    have hm_35 : M_5 28 = some (aI G 3 rc) := by rw [hF_9 28 ]; exact f_28
    have hm_36 : M_5 qa = some (cQuestion ad qa ao vr) := by rw [hF_9 qa ]; exact f_qa
    have hm_37 : M_5 (qa + 1) = some (aI G 6 (nF kn)) := by rw [hF_9 (qa + 1) ]; exact f_qa_1
    have hm_38 : M_5 (qa + 2) = some (aZ G 6 (bF nq)) := by rw [hF_9 (qa + 2) ]; exact f_qa_2
    have hm_39 : M_5 (qa + 3) = some (aI G 6 (nF pn)) := by rw [hF_9 (qa + 3) ]; exact f_qa_3
    have hm_40 : M_5 (qa + 4) = some (aI G 6 (nF av)) := by rw [hF_9 (qa + 4) ]; exact f_qa_4
    have hm_41 : M_5 (qa + 5) = some (aI G 24 (nF ro)) := by rw [hF_9 (qa + 5) ]; exact f_qa_5
    have hm_42 : M_5 (qa + 6) = some (aI G 24 (nF te)) := by rw [hF_9 (qa + 6) ]; exact f_qa_6
    have hm_43 : M_5 qs = some (cQuestion ad qs sq su) := by rw [hF_9 qs ]; exact f_qs
    have hm_44 : M_5 (qs + 1) = some (aI G 6 (nF kb)) := by rw [hF_9 (qs + 1) ]; exact f_qs_1
    have hm_45 : M_5 (qs + 2) = some (aZ G 6 (bF nb)) := by rw [hF_9 (qs + 2) ]; exact f_qs_2
    have hm_46 : M_5 (qs + 3) = some (aI G 6 (nF pb)) := by rw [hF_9 (qs + 3) ]; exact f_qs_3
    have hm_47 : M_5 (qs + 4) = some (aI G 6 (nF ab)) := by rw [hF_9 (qs + 4) ]; exact f_qs_4
    have hm_48 : M_5 (qs + 5) = some (aI G 24 (nF rbb)) := by rw [hF_9 (qs + 5) ]; exact f_qs_5
    have hm_49 : M_5 (qs + 6) = some (aI G 24 (nF tbb)) := by rw [hF_9 (qs + 6) ]; exact f_qs_6
    have hm_50 : M_5 60 = some (cModel ad tw n jn ao vr sn len pt zs bg fw) := by rw [hF_9 60 ]; exact f_60
    have hm_51 : M_5 61 = some (aI G 36 (nF le)) := by rw [hF_9 61 ]; exact f_61
    have hm_52 : M_5 62 = some (aI G 36 (nF mo)) := by rw [hF_9 62 ]; exact f_62
    have hm_53 : M_5 63 = some (aI G 36 (nF al)) := by rw [hF_9 63 ]; exact f_63
    have hm_54 : M_5 64 = some (aZ G 6 (bF ho)) := by rw [hF_9 64 ]; exact f_64
    have hm_55 : M_5 65 = some (aI G 120 (nF mk)) := by rw [hF_9 65 ]; exact f_65
    have hm_56 : M_5 66 = some (aI G 120 mf) := by rw [hF_9 66 ]; exact f_66
    have hm_57 : M_5 67 = some (aI G 120 mu) := by rw [hF_9 67 ]; exact f_67
    have hm_58 : M_5 68 = some (aI G 121 (nF mz)) := by rw [hF_9 68 ]; exact f_68
    have hm_59 : M_5 69 = some (aI G 726 (nF rr)) := by rw [hF_9 69 ]; exact f_69
    have hm_60 : M_5 70 = some (aI G 726 (nF ee)) := by rw [hF_9 70 ]; exact f_70
    have hm_61 : M_5 71 = some (aI G 40 (nF lst)) := by rw [hF_9 71 ]; exact f_71
    have hm_62 : M_5 72 = some (aI G 40 (nF oa)) := by rw [hF_9 72 ]; exact f_72
    have hm_63 : M_5 73 = some (aI G 40 (nF ob)) := by rw [hF_9 73 ]; exact f_73
    have hm_64 : M_5 74 = some (aI G 120 s74) := by rw [hF_9 74 ]; exact f_74
    have hm_65 : M_5 75 = some (aI G 12 ak) := by rw [hF_9 75 ]; exact f_75
    have hm_66 : M_5 76 = some (aZ G 12 (bF nm)) := by rw [hF_9 76 ]; exact f_76
    have hm_67 : M_5 77 = some (aI G 12 (nF ap)) := by rw [hF_9 77 ]; exact f_77
    have hm_68 : M_5 78 = some (aI G 48 pr) := by rw [hF_9 78 ]; exact f_78
    have hm_69 : M_5 79 = some (aI G 48 pf) := by rw [hF_9 79 ]; exact f_79
    have hm_70 : M_5 80 = some (aB G 400 tf) := by rw [hF_9 80 ]; exact f_80
    have hm_71 : M_5 81 = some (aI G 5 fv) := by rw [hF_9 81 ]; exact f_81
    have hm_72 : M_5 82 = some (aZ G 384000 (bF tr)) := by rw [hF_9 82 ]; exact f_82
    have hm_73 : M_5 83 = some (aI G 3 (oF gv)) := by rw [hF_9 83 ]; exact f_83
    have hm_74 : M_5 84 = some (aI G 3 fo) := by rw [hF_9 84 ]; exact f_84
    have hm_75 : M_5 85 = some (aZ G 40 (bF re)) := by rw [hF_9 85 ]; exact f_85
    have hm_76 : M_5 86 = some (aZ G 120 (bF us)) := by rw [hF_9 86 ]; exact f_86
    have hm_77 : M_5 87 = some (aZ G 120 (bF nx)) := by rw [hF_9 87 ]; exact f_87
    have hm_78 : M_5 99 = some (aJ G 1 of) := by rw [hF_9 99 ]; exact f_99
    have hm_79 : M_5 16 = some (cLines ad ) := by rw [hF_9 16 ]; exact h16
    have hL_80 : LSm G ad M_5 n kd fm to sz rl en := fL.keep (fun j hj => hF_9 j )
    rw [hr_8]
    refine lv_istore (lv' := [(5, .int (nI 1)), (0, .ref b), (1, .ref (ad 0)), (2, .ref (ad 60)), (3, .ref (ad 99)), (4, .int (nI i))]) hx hb dL_law_936 hl (by decide) rfl (fun ls hl => ?_)
    refine lv_aload_n hx hb dL_law_938 rfl (lv_at hl 3 rfl) ?_
    refine lv_aload_n hx hb dL_law_939 rfl (lv_at hl 1 rfl) ?_
    refine lv_iload hx hb dL_law_940 (lv_at hl 5 rfl) ?_
    refine lv_iconst (v := nI 1) hx hb dL_law_942 (by decide) ?_
    refine lv_iadd hx hb dL_law_943 ?_
    refine n_eq (nI_add i 1) ?_
    refine va_sld (A := fr z) hx hb hX hbl hbz hI.S (vp_in_nI (n := i + 1) (by omega) (by omega)) dL_law_944 ?_
    rw [nI_clamp (by omega)]
    refine lv_aload_n hx hb dL_law_945 rfl (lv_at hl 1 rfl) ?_
    refine lv_iload hx hb dL_law_946 (lv_at hl 5 rfl) ?_
    refine lv_iconst (v := nI 2) hx hb dL_law_948 (by decide) ?_
    refine lv_iadd hx hb dL_law_949 ?_
    refine n_eq (nI_add i 2) ?_
    refine va_sld (A := fr z) hx hb hX hbl hbz hI.S (vp_in_nI (n := i + 2) (by omega) (by omega)) dL_law_950 ?_
    rw [nI_clamp (by omega)]
    refine lv_aload_n hx hb dL_law_951 rfl (lv_at hl 1 rfl) ?_
    refine lv_iload hx hb dL_law_952 (lv_at hl 5 rfl) ?_
    refine lv_iconst (v := nI 3) hx hb dL_law_954 (by decide) ?_
    refine lv_iadd hx hb dL_law_955 ?_
    refine n_eq (nI_add i 3) ?_
    refine va_sld (A := fr z) hx hb hX hbl hbz hI.S (vp_in_nI (n := i + 3) (by omega) (by omega)) dL_law_956 ?_
    rw [nI_clamp (by omega)]
    refine k_Ni (va_runV (As := [.int (xs (i + 1)), .int (xs (i + 2)), .int (xs (i + 3))]) (rest := []) ⟨hx, hb, hml, hown, hts⟩ (c_X10_ended_a l G z ad M_5 (th := tw) (on := jn) (ao := ao) (vr := vr) (sn := sn) (tp := len) (pt := pt) (zs := zs) (bg := bg) (fa := fw) (n := n) (x0 := xs (i + 1)) (x1 := xs (i + 2)) (x2 := xs (i + 3)) hm_50 hc_1 hw1) (cwV 3 hts (gV (lwg_of t_1197 rfl) (lwg_of t_1198 rfl) (lwg_of t_1199 rfl) (lwg_of t_13 rfl) (lwg_of t_1200 rfl)) rfl rfl rfl (by decide +kernel) ⟨Nat.le_of_ble_eq_true rfl, Nat.le_of_ble_eq_true rfl⟩) (hI.preV hm_50 rfl) rfl rfl hl.1 rfl (lv_room (Nat.le_of_ble_eq_true rfl)) dL_law_957 ⟨(show _ ≤ (601024 : Nat) from by omega), (show _ ≤ (7293034 : Nat) from by omega)⟩) hI (fun r_81 M_83 H_84 locs_85 hp_82 hI => ?_)
    obtain ⟨hr_86, hm_87, hF_88⟩ := hp_82
    have hm_89 : M_83 0 = some (cStore ad qa qs fw) := by rw [hF_88 0 (by omega)]; exact hm_10
    have hm_90 : M_83 1 = some (cTape ad len) := by rw [hF_88 1 (by omega)]; exact hm_11
    have hm_91 : M_83 2 = some (aI G 400 (nF tb)) := by rw [hF_88 2 (by omega)]; exact hm_12
    have hm_92 : M_83 3 = some (cLaws ad ) := by rw [hF_88 3 (by omega)]; exact hm_13
    have hm_93 : M_83 4 = some (aI G 36 (nF le)) := by rw [hF_88 4 (by omega)]; exact hm_14
    have hm_94 : M_83 5 = some (aI G 36 (nF mo)) := by rw [hF_88 5 (by omega)]; exact hm_15
    have hm_95 : M_83 6 = some (aI G 36 (nF al)) := by rw [hF_88 6 (by omega)]; exact hm_16
    have hm_96 : M_83 7 = some (aZ G 6 (bF ho)) := by rw [hF_88 7 (by omega)]; exact hm_17
    have hm_97 : M_83 8 = some (cOnes ad jn) := by rw [hF_88 8 (by omega)]; exact hm_18
    have hm_98 : M_83 9 = some (aI G 40 (nF hg)) := by rw [hF_88 9 (by omega)]; exact hm_19
    have hm_99 : M_83 10 = some (aI G 40 (nF lst)) := by rw [hF_88 10 (by omega)]; exact hm_20
    have hm_100 : M_83 11 = some (aI G 40 (nF jd)) := by rw [hF_88 11 (by omega)]; exact hm_21
    have hm_101 : M_83 12 = some (cEnds ad 12 s0) := by rw [hF_88 12 (by omega)]; exact hm_22
    have hm_102 : M_83 13 = some (aI G 6 (nF r0)) := by rw [hF_88 13 (by omega)]; exact hm_23
    have hm_103 : M_83 14 = some (aI G 6 (oF th)) := by rw [hF_88 14 (by omega)]; exact hm_24
    have hm_104 : M_83 15 = some (aI G 6 (oF ol)) := by rw [hF_88 15 (by omega)]; exact hm_25
    have hm_105 : M_83 19 = some (aZ G 120 (bF mm9)) := by rw [hF_88 19 (by omega)]; exact hm_26
    have hm_106 : M_83 20 = some (aI G 120 ff) := by rw [hF_88 20 (by omega)]; exact hm_27
    have hm_107 : M_83 21 = some (aI G 120 lq) := by rw [hF_88 21 (by omega)]; exact hm_28
    have hm_108 : M_83 22 = some (cReader ad ra rb rt rv) := by rw [hF_88 22 (by omega)]; exact hm_29
    have hm_109 : M_83 23 = some (cMatcher ad qm pz) := by rw [hF_88 23 (by omega)]; exact hm_30
    have hm_110 : M_83 24 = some (aJ G 2160 sx) := by rw [hF_88 24 (by omega)]; exact hm_31
    have hm_111 : M_83 25 = some (aI G 6 (nF ft)) := by rw [hF_88 25 (by omega)]; exact hm_32
    have hm_112 : M_83 26 = some (aJ G 240 rx) := by rw [hF_88 26 (by omega)]; exact hm_33
    have hm_113 : M_83 27 = some (aJ G 3 dm) := by rw [hF_88 27 (by omega)]; exact hm_34
    have hm_114 : M_83 28 = some (aI G 3 rc) := by rw [hF_88 28 (by omega)]; exact hm_35
    have hm_115 : M_83 qa = some (cQuestion ad qa ao vr) := by rw [hF_88 qa (by omega)]; exact hm_36
    have hm_116 : M_83 (qa + 1) = some (aI G 6 (nF kn)) := by rw [hF_88 (qa + 1) (by omega)]; exact hm_37
    have hm_117 : M_83 (qa + 2) = some (aZ G 6 (bF nq)) := by rw [hF_88 (qa + 2) (by omega)]; exact hm_38
    have hm_118 : M_83 (qa + 3) = some (aI G 6 (nF pn)) := by rw [hF_88 (qa + 3) (by omega)]; exact hm_39
    have hm_119 : M_83 (qa + 4) = some (aI G 6 (nF av)) := by rw [hF_88 (qa + 4) (by omega)]; exact hm_40
    have hm_120 : M_83 (qa + 5) = some (aI G 24 (nF ro)) := by rw [hF_88 (qa + 5) (by omega)]; exact hm_41
    have hm_121 : M_83 (qa + 6) = some (aI G 24 (nF te)) := by rw [hF_88 (qa + 6) (by omega)]; exact hm_42
    have hm_122 : M_83 qs = some (cQuestion ad qs sq su) := by rw [hF_88 qs (by omega)]; exact hm_43
    have hm_123 : M_83 (qs + 1) = some (aI G 6 (nF kb)) := by rw [hF_88 (qs + 1) (by omega)]; exact hm_44
    have hm_124 : M_83 (qs + 2) = some (aZ G 6 (bF nb)) := by rw [hF_88 (qs + 2) (by omega)]; exact hm_45
    have hm_125 : M_83 (qs + 3) = some (aI G 6 (nF pb)) := by rw [hF_88 (qs + 3) (by omega)]; exact hm_46
    have hm_126 : M_83 (qs + 4) = some (aI G 6 (nF ab)) := by rw [hF_88 (qs + 4) (by omega)]; exact hm_47
    have hm_127 : M_83 (qs + 5) = some (aI G 24 (nF rbb)) := by rw [hF_88 (qs + 5) (by omega)]; exact hm_48
    have hm_128 : M_83 (qs + 6) = some (aI G 24 (nF tbb)) := by rw [hF_88 (qs + 6) (by omega)]; exact hm_49
    have hm_129 : M_83 61 = some (aI G 36 (nF le)) := by rw [hF_88 61 (by omega)]; exact hm_51
    have hm_130 : M_83 62 = some (aI G 36 (nF mo)) := by rw [hF_88 62 (by omega)]; exact hm_52
    have hm_131 : M_83 63 = some (aI G 36 (nF al)) := by rw [hF_88 63 (by omega)]; exact hm_53
    have hm_132 : M_83 64 = some (aZ G 6 (bF ho)) := by rw [hF_88 64 (by omega)]; exact hm_54
    have hm_133 : M_83 65 = some (aI G 120 (nF mk)) := by rw [hF_88 65 (by omega)]; exact hm_55
    have hm_134 : M_83 66 = some (aI G 120 mf) := by rw [hF_88 66 (by omega)]; exact hm_56
    have hm_135 : M_83 67 = some (aI G 120 mu) := by rw [hF_88 67 (by omega)]; exact hm_57
    have hm_136 : M_83 68 = some (aI G 121 (nF mz)) := by rw [hF_88 68 (by omega)]; exact hm_58
    have hm_137 : M_83 69 = some (aI G 726 (nF rr)) := by rw [hF_88 69 (by omega)]; exact hm_59
    have hm_138 : M_83 70 = some (aI G 726 (nF ee)) := by rw [hF_88 70 (by omega)]; exact hm_60
    have hm_139 : M_83 71 = some (aI G 40 (nF lst)) := by rw [hF_88 71 (by omega)]; exact hm_61
    have hm_140 : M_83 72 = some (aI G 40 (nF oa)) := by rw [hF_88 72 (by omega)]; exact hm_62
    have hm_141 : M_83 73 = some (aI G 40 (nF ob)) := by rw [hF_88 73 (by omega)]; exact hm_63
    have hm_142 : M_83 74 = some (aI G 120 s74) := by rw [hF_88 74 (by omega)]; exact hm_64
    have hm_143 : M_83 75 = some (aI G 12 ak) := by rw [hF_88 75 (by omega)]; exact hm_65
    have hm_144 : M_83 76 = some (aZ G 12 (bF nm)) := by rw [hF_88 76 (by omega)]; exact hm_66
    have hm_145 : M_83 77 = some (aI G 12 (nF ap)) := by rw [hF_88 77 (by omega)]; exact hm_67
    have hm_146 : M_83 78 = some (aI G 48 pr) := by rw [hF_88 78 (by omega)]; exact hm_68
    have hm_147 : M_83 79 = some (aI G 48 pf) := by rw [hF_88 79 (by omega)]; exact hm_69
    have hm_148 : M_83 80 = some (aB G 400 tf) := by rw [hF_88 80 (by omega)]; exact hm_70
    have hm_149 : M_83 81 = some (aI G 5 fv) := by rw [hF_88 81 (by omega)]; exact hm_71
    have hm_150 : M_83 82 = some (aZ G 384000 (bF tr)) := by rw [hF_88 82 (by omega)]; exact hm_72
    have hm_151 : M_83 83 = some (aI G 3 (oF gv)) := by rw [hF_88 83 (by omega)]; exact hm_73
    have hm_152 : M_83 84 = some (aI G 3 fo) := by rw [hF_88 84 (by omega)]; exact hm_74
    have hm_153 : M_83 85 = some (aZ G 40 (bF re)) := by rw [hF_88 85 (by omega)]; exact hm_75
    have hm_154 : M_83 86 = some (aZ G 120 (bF us)) := by rw [hF_88 86 (by omega)]; exact hm_76
    have hm_155 : M_83 87 = some (aZ G 120 (bF nx)) := by rw [hF_88 87 (by omega)]; exact hm_77
    have hm_156 : M_83 99 = some (aJ G 1 of) := by rw [hF_88 99 (by omega)]; exact hm_78
    have hm_157 : M_83 16 = some (cLines ad ) := by rw [hF_88 16 (by omega)]; exact hm_79
    have hL_158 : LSm G ad M_83 n kd fm to sz rl en := hL_80.keep (fun j hj => hF_88 j (by omega))
    have hF_159 : ∀ j : Nat, j ≠ 60 → M_83 j = M j := fun j q0 => (hF_88 j q0).trans (hF_9 j )
    rw [hr_86]
    refine lv_istore (lv' := [(6, .int (nI 0)), (5, .int (nI 1)), (0, .ref b), (1, .ref (ad 0)), (2, .ref (ad 60)), (3, .ref (ad 99)), (4, .int (nI i))]) hx hb dL_law_960 hl (by decide) rfl (fun ls hl => ?_)
    refine lv_aload_n hx hb dL_law_962 rfl (lv_at hl 4 rfl) ?_
    refine k_Ri (va_runV (As := []) (rest := []) ⟨hx, hb, hml, hown, hts⟩ (c_X10_thrown l G z ad M_83 (th := 1) (ln := n) (on := jn) (ao := ao) (vr := vr) (sn := sn) (tp := len) (pt := pt) (zs := zs) (bg := bg) (fa := fw) hm_87) (cwV 0 hts (gV (lwg_of t_997 rfl) (lwg_of t_998 rfl) (lwg_of t_999 rfl) (lwg_of t_13 rfl) (lwg_of t_1000 rfl)) rfl rfl rfl (by decide +kernel) ⟨Nat.le_of_ble_eq_true rfl, Nat.le_of_ble_eq_true rfl⟩) (hI.preV hm_87 rfl) rfl rfl hl.1 rfl (lv_room (Nat.le_of_ble_eq_true rfl)) dL_law_963 ⟨(show _ ≤ (601024 : Nat) from by omega), (show _ ≤ (7293034 : Nat) from by omega)⟩) (fun _ h => h) (fun r_160 hp_161 => ?_)
    rw [hp_161]
    refine lv_iload hx hb dL_law_966 (lv_at hl 1 rfl) ?_
    refine lv_icmp_eq (tgt := 973) hx hb dL_law_968 (by decide) (fun c_162 => ?_) (fun c_162 => ?_)
    · -- 968: nI 1 eq
      refine lv_iload hx hb dL_law_973 (lv_at hl 1 rfl) ?_
      refine lv_if_ne (tgt := 990) hx hb dL_law_975 (by decide) (fun c_163 => ?_) (fun c_163 => ?_)
      · -- 975: nI 1 ne
        refine lv_goto (tgt := 1333) hx hb dL_law_990 (by decide) ?_
        refine W.widen (k := cz + 10) (n := sy + 300) (by omega) (by omega) ?_
        exact kk ad M_83 H_84 locs_85 ls n kd fm to sz rl en qa qs fw len tb le mo al ho jn hg lst jd s0 r0 th ol e0 mm9 ff lq ra rb rt rv qm pz sx ft rx dm rc ao vr kn nq pn av ro te sq su kb nb pb ab rbb tbb 1 sn pt zs bg mk mf mu mz rr ee oa ob s74 ak nm ap pr pf tf fv tr gv fo re us nx of hL_158 w1 w2 w3 w4 w5 w6 w7 w8 w9 w10 w11 w12 w13 w14 w15 w16 w17 w18 w19 w20 w21 w22 w23 w24 w25 w26 w27 w28 w29 (fun h9 => by rw [hF_159 17 (by omega), hF_159 18 (by omega)]; exact w30 h9) (by rw [hF_159 29 (by omega)]; exact w31) (fun j9 h9 => by rw [hF_159 j9 (by omega)]; exact w32 j9 h9) hm_89 hm_90 hm_91 hm_92 hm_93 hm_94 hm_95 hm_96 hm_97 hm_98 hm_99 hm_100 hm_101 hm_102 hm_103 hm_104 hm_105 hm_106 hm_107 hm_108 hm_109 hm_110 hm_111 hm_112 hm_113 hm_114 hm_115 hm_116 hm_117 hm_118 hm_119 hm_120 hm_121 hm_122 hm_123 hm_124 hm_125 hm_126 hm_127 hm_128 hm_87 hm_129 hm_130 hm_131 hm_132 hm_133 hm_134 hm_135 hm_136 hm_137 hm_138 hm_139 hm_140 hm_141 hm_142 hm_143 hm_144 hm_145 hm_146 hm_147 hm_148 hm_149 hm_150 hm_151 hm_152 hm_153 hm_154 hm_155 hm_156 hI (lv_sub hl [2, 3, 4, 5, 6] rfl)
      · -- 975: nI 1 eq
        exact absurd c_163 (by decide)
    · -- 968: nI 1 ne
      exact absurd (by decide) c_162
  · skip
    refine lv_aload_n hx hb dL_law_913 rfl (lv_at hl 1 rfl) ?_
    obtain ⟨t1, ht1, et1⟩ := hc_2
    have hz6 := (w1.2 t1 ht1).2.1
    rcases (in_or (sz t1) (xs (i + 2)) (by omega) : (xs (i + 2) < 0 ∨ ¬ xs (i + 2) < nI (sz t1)) ∨ (∃ t : Nat, t < sz t1 ∧ xs (i + 2) = nI t)) with hc_164 | hc_165
    · skip
      refine lv_aload_n hx hb dL_law_914 rfl (lv_at hl 0 rfl) ?_
      refine lv_iload hx hb dL_law_915 (lv_at hl 4 rfl) ?_
      refine lv_iconst (v := nI 1) hx hb dL_law_917 (by decide) ?_
      refine lv_iadd hx hb dL_law_918 ?_
      refine n_eq (nI_add i 1) ?_
      refine va_sld (A := fr z) hx hb hX hbl hbz hI.S (vp_in_nI (n := i + 1) (by omega) (by omega)) dL_law_919 ?_
      rw [nI_clamp (by omega)]
      refine n_eq (show _ = nI t1 from et1) ?_
      refine lv_aload_n hx hb dL_law_920 rfl (lv_at hl 0 rfl) ?_
      refine lv_iload hx hb dL_law_921 (lv_at hl 4 rfl) ?_
      refine lv_iconst (v := nI 2) hx hb dL_law_923 (by decide) ?_
      refine lv_iadd hx hb dL_law_924 ?_
      refine n_eq (nI_add i 2) ?_
      refine va_sld (A := fr z) hx hb hX hbl hbz hI.S (vp_in_nI (n := i + 2) (by omega) (by omega)) dL_law_925 ?_
      rw [nI_clamp (by omega)]
      refine lv_aload_n hx hb dL_law_926 rfl (lv_at hl 0 rfl) ?_
      refine lv_iload hx hb dL_law_927 (lv_at hl 4 rfl) ?_
      refine lv_iconst (v := nI 3) hx hb dL_law_929 (by decide) ?_
      refine lv_iadd hx hb dL_law_930 ?_
      refine n_eq (nI_add i 3) ?_
      refine va_sld (A := fr z) hx hb hX hbl hbz hI.S (vp_in_nI (n := i + 3) (by omega) (by omega)) dL_law_931 ?_
      rw [nI_clamp (by omega)]
      refine lv_aload_n hx hb dL_law_932 rfl (lv_at hl 3 rfl) ?_
      refine k_Ni (vx_runSW (As := [.ref (ad 0), .int (nI t1), .int (xs (i + 2)), .int (xs (i + 3)), .ref (ad 99)]) (rest := []) ⟨hx, hb, hml, hown, hts⟩ (c_L_ended_b l hst G z ad M (n := n) (kd := kd) (fm := fm) (to := to) (sz := sz) (rl := rl) (en := en) (qa := qa) (qs := qs) (fw := fw) (q := t1) (x1 := xs (i + 2)) (x2 := xs (i + 3)) fL f_0 w1 ht1 hc_164) (vx_cwSW 5 hts (gSW (lwg_of t_888 rfl) (lwg_of t_889 rfl) (lwg_of t_0 rfl) (lwg_of t_890 rfl)) rfl rfl rfl (by decide +kernel) ⟨Nat.le_of_ble_eq_true rfl, Nat.le_of_ble_eq_true rfl⟩) hI.preS rfl rfl hl.1 rfl (lv_room (Nat.le_of_ble_eq_true rfl)) dL_law_933 ⟨(show _ ≤ (601024 : Nat) from by omega), (show _ ≤ (7293034 : Nat) from by omega)⟩) hI (fun r_166 M_168 H_169 locs_170 hp_167 hI => ?_)
      obtain ⟨hr_171, hF_172⟩ := hp_167
      have hm_173 : M_168 0 = some (cStore ad qa qs fw) := by rw [hF_172 0 ]; exact f_0
      have hm_174 : M_168 1 = some (cTape ad len) := by rw [hF_172 1 ]; exact f_1
      have hm_175 : M_168 2 = some (aI G 400 (nF tb)) := by rw [hF_172 2 ]; exact f_2
      have hm_176 : M_168 3 = some (cLaws ad ) := by rw [hF_172 3 ]; exact f_3
      have hm_177 : M_168 4 = some (aI G 36 (nF le)) := by rw [hF_172 4 ]; exact f_4
      have hm_178 : M_168 5 = some (aI G 36 (nF mo)) := by rw [hF_172 5 ]; exact f_5
      have hm_179 : M_168 6 = some (aI G 36 (nF al)) := by rw [hF_172 6 ]; exact f_6
      have hm_180 : M_168 7 = some (aZ G 6 (bF ho)) := by rw [hF_172 7 ]; exact f_7
      have hm_181 : M_168 8 = some (cOnes ad jn) := by rw [hF_172 8 ]; exact f_8
      have hm_182 : M_168 9 = some (aI G 40 (nF hg)) := by rw [hF_172 9 ]; exact f_9
      have hm_183 : M_168 10 = some (aI G 40 (nF lst)) := by rw [hF_172 10 ]; exact f_10
      have hm_184 : M_168 11 = some (aI G 40 (nF jd)) := by rw [hF_172 11 ]; exact f_11
      have hm_185 : M_168 12 = some (cEnds ad 12 s0) := by rw [hF_172 12 ]; exact f_12
      have hm_186 : M_168 13 = some (aI G 6 (nF r0)) := by rw [hF_172 13 ]; exact f_13
      have hm_187 : M_168 14 = some (aI G 6 (oF th)) := by rw [hF_172 14 ]; exact f_14
      have hm_188 : M_168 15 = some (aI G 6 (oF ol)) := by rw [hF_172 15 ]; exact f_15
      have hm_189 : M_168 19 = some (aZ G 120 (bF mm9)) := by rw [hF_172 19 ]; exact f_19
      have hm_190 : M_168 20 = some (aI G 120 ff) := by rw [hF_172 20 ]; exact f_20
      have hm_191 : M_168 21 = some (aI G 120 lq) := by rw [hF_172 21 ]; exact f_21
      have hm_192 : M_168 22 = some (cReader ad ra rb rt rv) := by rw [hF_172 22 ]; exact f_22
      have hm_193 : M_168 23 = some (cMatcher ad qm pz) := by rw [hF_172 23 ]; exact f_23
      have hm_194 : M_168 24 = some (aJ G 2160 sx) := by rw [hF_172 24 ]; exact f_24
      have hm_195 : M_168 25 = some (aI G 6 (nF ft)) := by rw [hF_172 25 ]; exact f_25
      have hm_196 : M_168 26 = some (aJ G 240 rx) := by rw [hF_172 26 ]; exact f_26
      have hm_197 : M_168 27 = some (aJ G 3 dm) := by rw [hF_172 27 ]; exact f_27
      have hm_198 : M_168 28 = some (aI G 3 rc) := by rw [hF_172 28 ]; exact f_28
      have hm_199 : M_168 qa = some (cQuestion ad qa ao vr) := by rw [hF_172 qa ]; exact f_qa
      have hm_200 : M_168 (qa + 1) = some (aI G 6 (nF kn)) := by rw [hF_172 (qa + 1) ]; exact f_qa_1
      have hm_201 : M_168 (qa + 2) = some (aZ G 6 (bF nq)) := by rw [hF_172 (qa + 2) ]; exact f_qa_2
      have hm_202 : M_168 (qa + 3) = some (aI G 6 (nF pn)) := by rw [hF_172 (qa + 3) ]; exact f_qa_3
      have hm_203 : M_168 (qa + 4) = some (aI G 6 (nF av)) := by rw [hF_172 (qa + 4) ]; exact f_qa_4
      have hm_204 : M_168 (qa + 5) = some (aI G 24 (nF ro)) := by rw [hF_172 (qa + 5) ]; exact f_qa_5
      have hm_205 : M_168 (qa + 6) = some (aI G 24 (nF te)) := by rw [hF_172 (qa + 6) ]; exact f_qa_6
      have hm_206 : M_168 qs = some (cQuestion ad qs sq su) := by rw [hF_172 qs ]; exact f_qs
      have hm_207 : M_168 (qs + 1) = some (aI G 6 (nF kb)) := by rw [hF_172 (qs + 1) ]; exact f_qs_1
      have hm_208 : M_168 (qs + 2) = some (aZ G 6 (bF nb)) := by rw [hF_172 (qs + 2) ]; exact f_qs_2
      have hm_209 : M_168 (qs + 3) = some (aI G 6 (nF pb)) := by rw [hF_172 (qs + 3) ]; exact f_qs_3
      have hm_210 : M_168 (qs + 4) = some (aI G 6 (nF ab)) := by rw [hF_172 (qs + 4) ]; exact f_qs_4
      have hm_211 : M_168 (qs + 5) = some (aI G 24 (nF rbb)) := by rw [hF_172 (qs + 5) ]; exact f_qs_5
      have hm_212 : M_168 (qs + 6) = some (aI G 24 (nF tbb)) := by rw [hF_172 (qs + 6) ]; exact f_qs_6
      have hm_213 : M_168 60 = some (cModel ad tw n jn ao vr sn len pt zs bg fw) := by rw [hF_172 60 ]; exact f_60
      have hm_214 : M_168 61 = some (aI G 36 (nF le)) := by rw [hF_172 61 ]; exact f_61
      have hm_215 : M_168 62 = some (aI G 36 (nF mo)) := by rw [hF_172 62 ]; exact f_62
      have hm_216 : M_168 63 = some (aI G 36 (nF al)) := by rw [hF_172 63 ]; exact f_63
      have hm_217 : M_168 64 = some (aZ G 6 (bF ho)) := by rw [hF_172 64 ]; exact f_64
      have hm_218 : M_168 65 = some (aI G 120 (nF mk)) := by rw [hF_172 65 ]; exact f_65
      have hm_219 : M_168 66 = some (aI G 120 mf) := by rw [hF_172 66 ]; exact f_66
      have hm_220 : M_168 67 = some (aI G 120 mu) := by rw [hF_172 67 ]; exact f_67
      have hm_221 : M_168 68 = some (aI G 121 (nF mz)) := by rw [hF_172 68 ]; exact f_68
      have hm_222 : M_168 69 = some (aI G 726 (nF rr)) := by rw [hF_172 69 ]; exact f_69
      have hm_223 : M_168 70 = some (aI G 726 (nF ee)) := by rw [hF_172 70 ]; exact f_70
      have hm_224 : M_168 71 = some (aI G 40 (nF lst)) := by rw [hF_172 71 ]; exact f_71
      have hm_225 : M_168 72 = some (aI G 40 (nF oa)) := by rw [hF_172 72 ]; exact f_72
      have hm_226 : M_168 73 = some (aI G 40 (nF ob)) := by rw [hF_172 73 ]; exact f_73
      have hm_227 : M_168 74 = some (aI G 120 s74) := by rw [hF_172 74 ]; exact f_74
      have hm_228 : M_168 75 = some (aI G 12 ak) := by rw [hF_172 75 ]; exact f_75
      have hm_229 : M_168 76 = some (aZ G 12 (bF nm)) := by rw [hF_172 76 ]; exact f_76
      have hm_230 : M_168 77 = some (aI G 12 (nF ap)) := by rw [hF_172 77 ]; exact f_77
      have hm_231 : M_168 78 = some (aI G 48 pr) := by rw [hF_172 78 ]; exact f_78
      have hm_232 : M_168 79 = some (aI G 48 pf) := by rw [hF_172 79 ]; exact f_79
      have hm_233 : M_168 80 = some (aB G 400 tf) := by rw [hF_172 80 ]; exact f_80
      have hm_234 : M_168 81 = some (aI G 5 fv) := by rw [hF_172 81 ]; exact f_81
      have hm_235 : M_168 82 = some (aZ G 384000 (bF tr)) := by rw [hF_172 82 ]; exact f_82
      have hm_236 : M_168 83 = some (aI G 3 (oF gv)) := by rw [hF_172 83 ]; exact f_83
      have hm_237 : M_168 84 = some (aI G 3 fo) := by rw [hF_172 84 ]; exact f_84
      have hm_238 : M_168 85 = some (aZ G 40 (bF re)) := by rw [hF_172 85 ]; exact f_85
      have hm_239 : M_168 86 = some (aZ G 120 (bF us)) := by rw [hF_172 86 ]; exact f_86
      have hm_240 : M_168 87 = some (aZ G 120 (bF nx)) := by rw [hF_172 87 ]; exact f_87
      have hm_241 : M_168 99 = some (aJ G 1 of) := by rw [hF_172 99 ]; exact f_99
      have hm_242 : M_168 16 = some (cLines ad ) := by rw [hF_172 16 ]; exact h16
      have hL_243 : LSm G ad M_168 n kd fm to sz rl en := fL.keep (fun j hj => hF_172 j )
      rw [hr_171]
      refine lv_istore (lv' := [(5, .int (nI 2)), (0, .ref b), (1, .ref (ad 0)), (2, .ref (ad 60)), (3, .ref (ad 99)), (4, .int (nI i))]) hx hb dL_law_936 hl (by decide) rfl (fun ls hl => ?_)
      refine lv_aload_n hx hb dL_law_938 rfl (lv_at hl 3 rfl) ?_
      refine lv_aload_n hx hb dL_law_939 rfl (lv_at hl 1 rfl) ?_
      refine lv_iload hx hb dL_law_940 (lv_at hl 5 rfl) ?_
      refine lv_iconst (v := nI 1) hx hb dL_law_942 (by decide) ?_
      refine lv_iadd hx hb dL_law_943 ?_
      refine n_eq (nI_add i 1) ?_
      refine va_sld (A := fr z) hx hb hX hbl hbz hI.S (vp_in_nI (n := i + 1) (by omega) (by omega)) dL_law_944 ?_
      rw [nI_clamp (by omega)]
      refine n_eq (show _ = nI t1 from et1) ?_
      refine lv_aload_n hx hb dL_law_945 rfl (lv_at hl 1 rfl) ?_
      refine lv_iload hx hb dL_law_946 (lv_at hl 5 rfl) ?_
      refine lv_iconst (v := nI 2) hx hb dL_law_948 (by decide) ?_
      refine lv_iadd hx hb dL_law_949 ?_
      refine n_eq (nI_add i 2) ?_
      refine va_sld (A := fr z) hx hb hX hbl hbz hI.S (vp_in_nI (n := i + 2) (by omega) (by omega)) dL_law_950 ?_
      rw [nI_clamp (by omega)]
      refine lv_aload_n hx hb dL_law_951 rfl (lv_at hl 1 rfl) ?_
      refine lv_iload hx hb dL_law_952 (lv_at hl 5 rfl) ?_
      refine lv_iconst (v := nI 3) hx hb dL_law_954 (by decide) ?_
      refine lv_iadd hx hb dL_law_955 ?_
      refine n_eq (nI_add i 3) ?_
      refine va_sld (A := fr z) hx hb hX hbl hbz hI.S (vp_in_nI (n := i + 3) (by omega) (by omega)) dL_law_956 ?_
      rw [nI_clamp (by omega)]
      refine k_Ni (va_runV (As := [.int (nI t1), .int (xs (i + 2)), .int (xs (i + 3))]) (rest := []) ⟨hx, hb, hml, hown, hts⟩ (c_X10_ended_b l G z ad M_168 (th := tw) (on := jn) (ao := ao) (vr := vr) (sn := sn) (tp := len) (pt := pt) (zs := zs) (bg := bg) (fa := fw) (n := n) (kd := kd) (fm := fm) (to := to) (sz := sz) (rl := rl) (en := en) (mk := mk) (mf := mf) (mu := mu) (mz := mz) (rr := rr) (ee := ee) (q := t1) (x1 := xs (i + 2)) (x2 := xs (i + 3)) hm_213 hm_221 w1 w2 ht1 hc_164) (cwV 3 hts (gV (lwg_of t_1197 rfl) (lwg_of t_1198 rfl) (lwg_of t_1199 rfl) (lwg_of t_13 rfl) (lwg_of t_1200 rfl)) rfl rfl rfl (by decide +kernel) ⟨Nat.le_of_ble_eq_true rfl, Nat.le_of_ble_eq_true rfl⟩) (hI.preV hm_213 rfl) rfl rfl hl.1 rfl (lv_room (Nat.le_of_ble_eq_true rfl)) dL_law_957 ⟨(show _ ≤ (601024 : Nat) from by omega), (show _ ≤ (7293034 : Nat) from by omega)⟩) hI (fun r_244 M_246 H_247 locs_248 hp_245 hI => ?_)
      obtain ⟨hr_249, hm_250, hF_251⟩ := hp_245
      have hm_252 : M_246 0 = some (cStore ad qa qs fw) := by rw [hF_251 0 (by omega)]; exact hm_173
      have hm_253 : M_246 1 = some (cTape ad len) := by rw [hF_251 1 (by omega)]; exact hm_174
      have hm_254 : M_246 2 = some (aI G 400 (nF tb)) := by rw [hF_251 2 (by omega)]; exact hm_175
      have hm_255 : M_246 3 = some (cLaws ad ) := by rw [hF_251 3 (by omega)]; exact hm_176
      have hm_256 : M_246 4 = some (aI G 36 (nF le)) := by rw [hF_251 4 (by omega)]; exact hm_177
      have hm_257 : M_246 5 = some (aI G 36 (nF mo)) := by rw [hF_251 5 (by omega)]; exact hm_178
      have hm_258 : M_246 6 = some (aI G 36 (nF al)) := by rw [hF_251 6 (by omega)]; exact hm_179
      have hm_259 : M_246 7 = some (aZ G 6 (bF ho)) := by rw [hF_251 7 (by omega)]; exact hm_180
      have hm_260 : M_246 8 = some (cOnes ad jn) := by rw [hF_251 8 (by omega)]; exact hm_181
      have hm_261 : M_246 9 = some (aI G 40 (nF hg)) := by rw [hF_251 9 (by omega)]; exact hm_182
      have hm_262 : M_246 10 = some (aI G 40 (nF lst)) := by rw [hF_251 10 (by omega)]; exact hm_183
      have hm_263 : M_246 11 = some (aI G 40 (nF jd)) := by rw [hF_251 11 (by omega)]; exact hm_184
      have hm_264 : M_246 12 = some (cEnds ad 12 s0) := by rw [hF_251 12 (by omega)]; exact hm_185
      have hm_265 : M_246 13 = some (aI G 6 (nF r0)) := by rw [hF_251 13 (by omega)]; exact hm_186
      have hm_266 : M_246 14 = some (aI G 6 (oF th)) := by rw [hF_251 14 (by omega)]; exact hm_187
      have hm_267 : M_246 15 = some (aI G 6 (oF ol)) := by rw [hF_251 15 (by omega)]; exact hm_188
      have hm_268 : M_246 19 = some (aZ G 120 (bF mm9)) := by rw [hF_251 19 (by omega)]; exact hm_189
      have hm_269 : M_246 20 = some (aI G 120 ff) := by rw [hF_251 20 (by omega)]; exact hm_190
      have hm_270 : M_246 21 = some (aI G 120 lq) := by rw [hF_251 21 (by omega)]; exact hm_191
      have hm_271 : M_246 22 = some (cReader ad ra rb rt rv) := by rw [hF_251 22 (by omega)]; exact hm_192
      have hm_272 : M_246 23 = some (cMatcher ad qm pz) := by rw [hF_251 23 (by omega)]; exact hm_193
      have hm_273 : M_246 24 = some (aJ G 2160 sx) := by rw [hF_251 24 (by omega)]; exact hm_194
      have hm_274 : M_246 25 = some (aI G 6 (nF ft)) := by rw [hF_251 25 (by omega)]; exact hm_195
      have hm_275 : M_246 26 = some (aJ G 240 rx) := by rw [hF_251 26 (by omega)]; exact hm_196
      have hm_276 : M_246 27 = some (aJ G 3 dm) := by rw [hF_251 27 (by omega)]; exact hm_197
      have hm_277 : M_246 28 = some (aI G 3 rc) := by rw [hF_251 28 (by omega)]; exact hm_198
      have hm_278 : M_246 qa = some (cQuestion ad qa ao vr) := by rw [hF_251 qa (by omega)]; exact hm_199
      have hm_279 : M_246 (qa + 1) = some (aI G 6 (nF kn)) := by rw [hF_251 (qa + 1) (by omega)]; exact hm_200
      have hm_280 : M_246 (qa + 2) = some (aZ G 6 (bF nq)) := by rw [hF_251 (qa + 2) (by omega)]; exact hm_201
      have hm_281 : M_246 (qa + 3) = some (aI G 6 (nF pn)) := by rw [hF_251 (qa + 3) (by omega)]; exact hm_202
      have hm_282 : M_246 (qa + 4) = some (aI G 6 (nF av)) := by rw [hF_251 (qa + 4) (by omega)]; exact hm_203
      have hm_283 : M_246 (qa + 5) = some (aI G 24 (nF ro)) := by rw [hF_251 (qa + 5) (by omega)]; exact hm_204
      have hm_284 : M_246 (qa + 6) = some (aI G 24 (nF te)) := by rw [hF_251 (qa + 6) (by omega)]; exact hm_205
      have hm_285 : M_246 qs = some (cQuestion ad qs sq su) := by rw [hF_251 qs (by omega)]; exact hm_206
      have hm_286 : M_246 (qs + 1) = some (aI G 6 (nF kb)) := by rw [hF_251 (qs + 1) (by omega)]; exact hm_207
      have hm_287 : M_246 (qs + 2) = some (aZ G 6 (bF nb)) := by rw [hF_251 (qs + 2) (by omega)]; exact hm_208
      have hm_288 : M_246 (qs + 3) = some (aI G 6 (nF pb)) := by rw [hF_251 (qs + 3) (by omega)]; exact hm_209
      have hm_289 : M_246 (qs + 4) = some (aI G 6 (nF ab)) := by rw [hF_251 (qs + 4) (by omega)]; exact hm_210
      have hm_290 : M_246 (qs + 5) = some (aI G 24 (nF rbb)) := by rw [hF_251 (qs + 5) (by omega)]; exact hm_211
      have hm_291 : M_246 (qs + 6) = some (aI G 24 (nF tbb)) := by rw [hF_251 (qs + 6) (by omega)]; exact hm_212
      have hm_292 : M_246 61 = some (aI G 36 (nF le)) := by rw [hF_251 61 (by omega)]; exact hm_214
      have hm_293 : M_246 62 = some (aI G 36 (nF mo)) := by rw [hF_251 62 (by omega)]; exact hm_215
      have hm_294 : M_246 63 = some (aI G 36 (nF al)) := by rw [hF_251 63 (by omega)]; exact hm_216
      have hm_295 : M_246 64 = some (aZ G 6 (bF ho)) := by rw [hF_251 64 (by omega)]; exact hm_217
      have hm_296 : M_246 65 = some (aI G 120 (nF mk)) := by rw [hF_251 65 (by omega)]; exact hm_218
      have hm_297 : M_246 66 = some (aI G 120 mf) := by rw [hF_251 66 (by omega)]; exact hm_219
      have hm_298 : M_246 67 = some (aI G 120 mu) := by rw [hF_251 67 (by omega)]; exact hm_220
      have hm_299 : M_246 68 = some (aI G 121 (nF mz)) := by rw [hF_251 68 (by omega)]; exact hm_221
      have hm_300 : M_246 69 = some (aI G 726 (nF rr)) := by rw [hF_251 69 (by omega)]; exact hm_222
      have hm_301 : M_246 70 = some (aI G 726 (nF ee)) := by rw [hF_251 70 (by omega)]; exact hm_223
      have hm_302 : M_246 71 = some (aI G 40 (nF lst)) := by rw [hF_251 71 (by omega)]; exact hm_224
      have hm_303 : M_246 72 = some (aI G 40 (nF oa)) := by rw [hF_251 72 (by omega)]; exact hm_225
      have hm_304 : M_246 73 = some (aI G 40 (nF ob)) := by rw [hF_251 73 (by omega)]; exact hm_226
      have hm_305 : M_246 74 = some (aI G 120 s74) := by rw [hF_251 74 (by omega)]; exact hm_227
      have hm_306 : M_246 75 = some (aI G 12 ak) := by rw [hF_251 75 (by omega)]; exact hm_228
      have hm_307 : M_246 76 = some (aZ G 12 (bF nm)) := by rw [hF_251 76 (by omega)]; exact hm_229
      have hm_308 : M_246 77 = some (aI G 12 (nF ap)) := by rw [hF_251 77 (by omega)]; exact hm_230
      have hm_309 : M_246 78 = some (aI G 48 pr) := by rw [hF_251 78 (by omega)]; exact hm_231
      have hm_310 : M_246 79 = some (aI G 48 pf) := by rw [hF_251 79 (by omega)]; exact hm_232
      have hm_311 : M_246 80 = some (aB G 400 tf) := by rw [hF_251 80 (by omega)]; exact hm_233
      have hm_312 : M_246 81 = some (aI G 5 fv) := by rw [hF_251 81 (by omega)]; exact hm_234
      have hm_313 : M_246 82 = some (aZ G 384000 (bF tr)) := by rw [hF_251 82 (by omega)]; exact hm_235
      have hm_314 : M_246 83 = some (aI G 3 (oF gv)) := by rw [hF_251 83 (by omega)]; exact hm_236
      have hm_315 : M_246 84 = some (aI G 3 fo) := by rw [hF_251 84 (by omega)]; exact hm_237
      have hm_316 : M_246 85 = some (aZ G 40 (bF re)) := by rw [hF_251 85 (by omega)]; exact hm_238
      have hm_317 : M_246 86 = some (aZ G 120 (bF us)) := by rw [hF_251 86 (by omega)]; exact hm_239
      have hm_318 : M_246 87 = some (aZ G 120 (bF nx)) := by rw [hF_251 87 (by omega)]; exact hm_240
      have hm_319 : M_246 99 = some (aJ G 1 of) := by rw [hF_251 99 (by omega)]; exact hm_241
      have hm_320 : M_246 16 = some (cLines ad ) := by rw [hF_251 16 (by omega)]; exact hm_242
      have hL_321 : LSm G ad M_246 n kd fm to sz rl en := hL_243.keep (fun j hj => hF_251 j (by omega))
      have hF_322 : ∀ j : Nat, j ≠ 60 → M_246 j = M j := fun j q0 => (hF_251 j q0).trans (hF_172 j )
      rw [hr_249]
      refine lv_istore (lv' := [(6, .int (nI 0)), (5, .int (nI 2)), (0, .ref b), (1, .ref (ad 0)), (2, .ref (ad 60)), (3, .ref (ad 99)), (4, .int (nI i))]) hx hb dL_law_960 hl (by decide) rfl (fun ls hl => ?_)
      refine lv_aload_n hx hb dL_law_962 rfl (lv_at hl 4 rfl) ?_
      refine k_Ri (va_runV (As := []) (rest := []) ⟨hx, hb, hml, hown, hts⟩ (c_X10_thrown l G z ad M_246 (th := 2) (ln := n) (on := jn) (ao := ao) (vr := vr) (sn := sn) (tp := len) (pt := pt) (zs := zs) (bg := bg) (fa := fw) hm_250) (cwV 0 hts (gV (lwg_of t_997 rfl) (lwg_of t_998 rfl) (lwg_of t_999 rfl) (lwg_of t_13 rfl) (lwg_of t_1000 rfl)) rfl rfl rfl (by decide +kernel) ⟨Nat.le_of_ble_eq_true rfl, Nat.le_of_ble_eq_true rfl⟩) (hI.preV hm_250 rfl) rfl rfl hl.1 rfl (lv_room (Nat.le_of_ble_eq_true rfl)) dL_law_963 ⟨(show _ ≤ (601024 : Nat) from by omega), (show _ ≤ (7293034 : Nat) from by omega)⟩) (fun _ h => h) (fun r_323 hp_324 => ?_)
      rw [hp_324]
      refine lv_iload hx hb dL_law_966 (lv_at hl 1 rfl) ?_
      refine lv_icmp_eq (tgt := 973) hx hb dL_law_968 (by decide) (fun c_325 => ?_) (fun c_325 => ?_)
      · -- 968: nI 2 eq
        refine lv_iload hx hb dL_law_973 (lv_at hl 1 rfl) ?_
        refine lv_if_ne (tgt := 990) hx hb dL_law_975 (by decide) (fun c_326 => ?_) (fun c_326 => ?_)
        · -- 975: nI 2 ne
          refine lv_goto (tgt := 1333) hx hb dL_law_990 (by decide) ?_
          refine W.widen (k := cz + 10) (n := sy + 300) (by omega) (by omega) ?_
          exact kk ad M_246 H_247 locs_248 ls n kd fm to sz rl en qa qs fw len tb le mo al ho jn hg lst jd s0 r0 th ol e0 mm9 ff lq ra rb rt rv qm pz sx ft rx dm rc ao vr kn nq pn av ro te sq su kb nb pb ab rbb tbb 2 sn pt zs bg mk mf mu mz rr ee oa ob s74 ak nm ap pr pf tf fv tr gv fo re us nx of hL_321 w1 w2 w3 w4 w5 w6 w7 w8 w9 w10 w11 w12 w13 w14 w15 w16 w17 w18 w19 w20 w21 w22 w23 w24 w25 w26 w27 w28 w29 (fun h9 => by rw [hF_322 17 (by omega), hF_322 18 (by omega)]; exact w30 h9) (by rw [hF_322 29 (by omega)]; exact w31) (fun j9 h9 => by rw [hF_322 j9 (by omega)]; exact w32 j9 h9) hm_252 hm_253 hm_254 hm_255 hm_256 hm_257 hm_258 hm_259 hm_260 hm_261 hm_262 hm_263 hm_264 hm_265 hm_266 hm_267 hm_268 hm_269 hm_270 hm_271 hm_272 hm_273 hm_274 hm_275 hm_276 hm_277 hm_278 hm_279 hm_280 hm_281 hm_282 hm_283 hm_284 hm_285 hm_286 hm_287 hm_288 hm_289 hm_290 hm_291 hm_250 hm_292 hm_293 hm_294 hm_295 hm_296 hm_297 hm_298 hm_299 hm_300 hm_301 hm_302 hm_303 hm_304 hm_305 hm_306 hm_307 hm_308 hm_309 hm_310 hm_311 hm_312 hm_313 hm_314 hm_315 hm_316 hm_317 hm_318 hm_319 hI (lv_sub hl [2, 3, 4, 5, 6] rfl)
        · -- 975: nI 2 eq
          exact absurd c_326 (by decide)
      · -- 968: nI 2 ne
        exact absurd (by decide) c_325
    · skip
      refine lv_aload_n hx hb dL_law_914 rfl (lv_at hl 0 rfl) ?_
      obtain ⟨t2, ht2, et2⟩ := hc_165
      rcases (in_or 3 (xs (i + 3)) (by omega) : (xs (i + 3) < 0 ∨ ¬ xs (i + 3) < nI 3) ∨ (∃ t : Nat, t < 3 ∧ xs (i + 3) = nI t)) with hc_327 | hc_328
      · skip
        refine lv_iload hx hb dL_law_915 (lv_at hl 4 rfl) ?_
        refine lv_iconst (v := nI 1) hx hb dL_law_917 (by decide) ?_
        refine lv_iadd hx hb dL_law_918 ?_
        refine n_eq (nI_add i 1) ?_
        refine va_sld (A := fr z) hx hb hX hbl hbz hI.S (vp_in_nI (n := i + 1) (by omega) (by omega)) dL_law_919 ?_
        rw [nI_clamp (by omega)]
        refine n_eq (show _ = nI t1 from et1) ?_
        refine lv_aload_n hx hb dL_law_920 rfl (lv_at hl 0 rfl) ?_
        refine lv_iload hx hb dL_law_921 (lv_at hl 4 rfl) ?_
        refine lv_iconst (v := nI 2) hx hb dL_law_923 (by decide) ?_
        refine lv_iadd hx hb dL_law_924 ?_
        refine n_eq (nI_add i 2) ?_
        refine va_sld (A := fr z) hx hb hX hbl hbz hI.S (vp_in_nI (n := i + 2) (by omega) (by omega)) dL_law_925 ?_
        rw [nI_clamp (by omega)]
        refine n_eq (show _ = nI t2 from et2) ?_
        refine lv_aload_n hx hb dL_law_926 rfl (lv_at hl 0 rfl) ?_
        refine lv_iload hx hb dL_law_927 (lv_at hl 4 rfl) ?_
        refine lv_iconst (v := nI 3) hx hb dL_law_929 (by decide) ?_
        refine lv_iadd hx hb dL_law_930 ?_
        refine n_eq (nI_add i 3) ?_
        refine va_sld (A := fr z) hx hb hX hbl hbz hI.S (vp_in_nI (n := i + 3) (by omega) (by omega)) dL_law_931 ?_
        rw [nI_clamp (by omega)]
        refine lv_aload_n hx hb dL_law_932 rfl (lv_at hl 3 rfl) ?_
        refine k_Ni (vx_runSW (As := [.ref (ad 0), .int (nI t1), .int (nI t2), .int (xs (i + 3)), .ref (ad 99)]) (rest := []) ⟨hx, hb, hml, hown, hts⟩ (c_L_ended_c l hst G z ad M (n := n) (kd := kd) (fm := fm) (to := to) (sz := sz) (rl := rl) (en := en) (qa := qa) (qs := qs) (fw := fw) (q := t1) (i := t2) (x2 := xs (i + 3)) fL f_0 w1 ht1 ht2 (out_of hc_327 (by decide))) (vx_cwSW 5 hts (gSW (lwg_of t_888 rfl) (lwg_of t_889 rfl) (lwg_of t_0 rfl) (lwg_of t_890 rfl)) rfl rfl rfl (by decide +kernel) ⟨Nat.le_of_ble_eq_true rfl, Nat.le_of_ble_eq_true rfl⟩) hI.preS rfl rfl hl.1 rfl (lv_room (Nat.le_of_ble_eq_true rfl)) dL_law_933 ⟨(show _ ≤ (601024 : Nat) from by omega), (show _ ≤ (7293034 : Nat) from by omega)⟩) hI (fun r_329 M_331 H_332 locs_333 hp_330 hI => ?_)
        obtain ⟨hr_334, hF_335⟩ := hp_330
        have hm_336 : M_331 0 = some (cStore ad qa qs fw) := by rw [hF_335 0 ]; exact f_0
        have hm_337 : M_331 1 = some (cTape ad len) := by rw [hF_335 1 ]; exact f_1
        have hm_338 : M_331 2 = some (aI G 400 (nF tb)) := by rw [hF_335 2 ]; exact f_2
        have hm_339 : M_331 3 = some (cLaws ad ) := by rw [hF_335 3 ]; exact f_3
        have hm_340 : M_331 4 = some (aI G 36 (nF le)) := by rw [hF_335 4 ]; exact f_4
        have hm_341 : M_331 5 = some (aI G 36 (nF mo)) := by rw [hF_335 5 ]; exact f_5
        have hm_342 : M_331 6 = some (aI G 36 (nF al)) := by rw [hF_335 6 ]; exact f_6
        have hm_343 : M_331 7 = some (aZ G 6 (bF ho)) := by rw [hF_335 7 ]; exact f_7
        have hm_344 : M_331 8 = some (cOnes ad jn) := by rw [hF_335 8 ]; exact f_8
        have hm_345 : M_331 9 = some (aI G 40 (nF hg)) := by rw [hF_335 9 ]; exact f_9
        have hm_346 : M_331 10 = some (aI G 40 (nF lst)) := by rw [hF_335 10 ]; exact f_10
        have hm_347 : M_331 11 = some (aI G 40 (nF jd)) := by rw [hF_335 11 ]; exact f_11
        have hm_348 : M_331 12 = some (cEnds ad 12 s0) := by rw [hF_335 12 ]; exact f_12
        have hm_349 : M_331 13 = some (aI G 6 (nF r0)) := by rw [hF_335 13 ]; exact f_13
        have hm_350 : M_331 14 = some (aI G 6 (oF th)) := by rw [hF_335 14 ]; exact f_14
        have hm_351 : M_331 15 = some (aI G 6 (oF ol)) := by rw [hF_335 15 ]; exact f_15
        have hm_352 : M_331 19 = some (aZ G 120 (bF mm9)) := by rw [hF_335 19 ]; exact f_19
        have hm_353 : M_331 20 = some (aI G 120 ff) := by rw [hF_335 20 ]; exact f_20
        have hm_354 : M_331 21 = some (aI G 120 lq) := by rw [hF_335 21 ]; exact f_21
        have hm_355 : M_331 22 = some (cReader ad ra rb rt rv) := by rw [hF_335 22 ]; exact f_22
        have hm_356 : M_331 23 = some (cMatcher ad qm pz) := by rw [hF_335 23 ]; exact f_23
        have hm_357 : M_331 24 = some (aJ G 2160 sx) := by rw [hF_335 24 ]; exact f_24
        have hm_358 : M_331 25 = some (aI G 6 (nF ft)) := by rw [hF_335 25 ]; exact f_25
        have hm_359 : M_331 26 = some (aJ G 240 rx) := by rw [hF_335 26 ]; exact f_26
        have hm_360 : M_331 27 = some (aJ G 3 dm) := by rw [hF_335 27 ]; exact f_27
        have hm_361 : M_331 28 = some (aI G 3 rc) := by rw [hF_335 28 ]; exact f_28
        have hm_362 : M_331 qa = some (cQuestion ad qa ao vr) := by rw [hF_335 qa ]; exact f_qa
        have hm_363 : M_331 (qa + 1) = some (aI G 6 (nF kn)) := by rw [hF_335 (qa + 1) ]; exact f_qa_1
        have hm_364 : M_331 (qa + 2) = some (aZ G 6 (bF nq)) := by rw [hF_335 (qa + 2) ]; exact f_qa_2
        have hm_365 : M_331 (qa + 3) = some (aI G 6 (nF pn)) := by rw [hF_335 (qa + 3) ]; exact f_qa_3
        have hm_366 : M_331 (qa + 4) = some (aI G 6 (nF av)) := by rw [hF_335 (qa + 4) ]; exact f_qa_4
        have hm_367 : M_331 (qa + 5) = some (aI G 24 (nF ro)) := by rw [hF_335 (qa + 5) ]; exact f_qa_5
        have hm_368 : M_331 (qa + 6) = some (aI G 24 (nF te)) := by rw [hF_335 (qa + 6) ]; exact f_qa_6
        have hm_369 : M_331 qs = some (cQuestion ad qs sq su) := by rw [hF_335 qs ]; exact f_qs
        have hm_370 : M_331 (qs + 1) = some (aI G 6 (nF kb)) := by rw [hF_335 (qs + 1) ]; exact f_qs_1
        have hm_371 : M_331 (qs + 2) = some (aZ G 6 (bF nb)) := by rw [hF_335 (qs + 2) ]; exact f_qs_2
        have hm_372 : M_331 (qs + 3) = some (aI G 6 (nF pb)) := by rw [hF_335 (qs + 3) ]; exact f_qs_3
        have hm_373 : M_331 (qs + 4) = some (aI G 6 (nF ab)) := by rw [hF_335 (qs + 4) ]; exact f_qs_4
        have hm_374 : M_331 (qs + 5) = some (aI G 24 (nF rbb)) := by rw [hF_335 (qs + 5) ]; exact f_qs_5
        have hm_375 : M_331 (qs + 6) = some (aI G 24 (nF tbb)) := by rw [hF_335 (qs + 6) ]; exact f_qs_6
        have hm_376 : M_331 60 = some (cModel ad tw n jn ao vr sn len pt zs bg fw) := by rw [hF_335 60 ]; exact f_60
        have hm_377 : M_331 61 = some (aI G 36 (nF le)) := by rw [hF_335 61 ]; exact f_61
        have hm_378 : M_331 62 = some (aI G 36 (nF mo)) := by rw [hF_335 62 ]; exact f_62
        have hm_379 : M_331 63 = some (aI G 36 (nF al)) := by rw [hF_335 63 ]; exact f_63
        have hm_380 : M_331 64 = some (aZ G 6 (bF ho)) := by rw [hF_335 64 ]; exact f_64
        have hm_381 : M_331 65 = some (aI G 120 (nF mk)) := by rw [hF_335 65 ]; exact f_65
        have hm_382 : M_331 66 = some (aI G 120 mf) := by rw [hF_335 66 ]; exact f_66
        have hm_383 : M_331 67 = some (aI G 120 mu) := by rw [hF_335 67 ]; exact f_67
        have hm_384 : M_331 68 = some (aI G 121 (nF mz)) := by rw [hF_335 68 ]; exact f_68
        have hm_385 : M_331 69 = some (aI G 726 (nF rr)) := by rw [hF_335 69 ]; exact f_69
        have hm_386 : M_331 70 = some (aI G 726 (nF ee)) := by rw [hF_335 70 ]; exact f_70
        have hm_387 : M_331 71 = some (aI G 40 (nF lst)) := by rw [hF_335 71 ]; exact f_71
        have hm_388 : M_331 72 = some (aI G 40 (nF oa)) := by rw [hF_335 72 ]; exact f_72
        have hm_389 : M_331 73 = some (aI G 40 (nF ob)) := by rw [hF_335 73 ]; exact f_73
        have hm_390 : M_331 74 = some (aI G 120 s74) := by rw [hF_335 74 ]; exact f_74
        have hm_391 : M_331 75 = some (aI G 12 ak) := by rw [hF_335 75 ]; exact f_75
        have hm_392 : M_331 76 = some (aZ G 12 (bF nm)) := by rw [hF_335 76 ]; exact f_76
        have hm_393 : M_331 77 = some (aI G 12 (nF ap)) := by rw [hF_335 77 ]; exact f_77
        have hm_394 : M_331 78 = some (aI G 48 pr) := by rw [hF_335 78 ]; exact f_78
        have hm_395 : M_331 79 = some (aI G 48 pf) := by rw [hF_335 79 ]; exact f_79
        have hm_396 : M_331 80 = some (aB G 400 tf) := by rw [hF_335 80 ]; exact f_80
        have hm_397 : M_331 81 = some (aI G 5 fv) := by rw [hF_335 81 ]; exact f_81
        have hm_398 : M_331 82 = some (aZ G 384000 (bF tr)) := by rw [hF_335 82 ]; exact f_82
        have hm_399 : M_331 83 = some (aI G 3 (oF gv)) := by rw [hF_335 83 ]; exact f_83
        have hm_400 : M_331 84 = some (aI G 3 fo) := by rw [hF_335 84 ]; exact f_84
        have hm_401 : M_331 85 = some (aZ G 40 (bF re)) := by rw [hF_335 85 ]; exact f_85
        have hm_402 : M_331 86 = some (aZ G 120 (bF us)) := by rw [hF_335 86 ]; exact f_86
        have hm_403 : M_331 87 = some (aZ G 120 (bF nx)) := by rw [hF_335 87 ]; exact f_87
        have hm_404 : M_331 99 = some (aJ G 1 of) := by rw [hF_335 99 ]; exact f_99
        have hm_405 : M_331 16 = some (cLines ad ) := by rw [hF_335 16 ]; exact h16
        have hL_406 : LSm G ad M_331 n kd fm to sz rl en := fL.keep (fun j hj => hF_335 j )
        rw [hr_334]
        refine lv_istore (lv' := [(5, .int (nI 2)), (0, .ref b), (1, .ref (ad 0)), (2, .ref (ad 60)), (3, .ref (ad 99)), (4, .int (nI i))]) hx hb dL_law_936 hl (by decide) rfl (fun ls hl => ?_)
        refine lv_aload_n hx hb dL_law_938 rfl (lv_at hl 3 rfl) ?_
        refine lv_aload_n hx hb dL_law_939 rfl (lv_at hl 1 rfl) ?_
        refine lv_iload hx hb dL_law_940 (lv_at hl 5 rfl) ?_
        refine lv_iconst (v := nI 1) hx hb dL_law_942 (by decide) ?_
        refine lv_iadd hx hb dL_law_943 ?_
        refine n_eq (nI_add i 1) ?_
        refine va_sld (A := fr z) hx hb hX hbl hbz hI.S (vp_in_nI (n := i + 1) (by omega) (by omega)) dL_law_944 ?_
        rw [nI_clamp (by omega)]
        refine n_eq (show _ = nI t1 from et1) ?_
        refine lv_aload_n hx hb dL_law_945 rfl (lv_at hl 1 rfl) ?_
        refine lv_iload hx hb dL_law_946 (lv_at hl 5 rfl) ?_
        refine lv_iconst (v := nI 2) hx hb dL_law_948 (by decide) ?_
        refine lv_iadd hx hb dL_law_949 ?_
        refine n_eq (nI_add i 2) ?_
        refine va_sld (A := fr z) hx hb hX hbl hbz hI.S (vp_in_nI (n := i + 2) (by omega) (by omega)) dL_law_950 ?_
        rw [nI_clamp (by omega)]
        refine n_eq (show _ = nI t2 from et2) ?_
        refine lv_aload_n hx hb dL_law_951 rfl (lv_at hl 1 rfl) ?_
        refine lv_iload hx hb dL_law_952 (lv_at hl 5 rfl) ?_
        refine lv_iconst (v := nI 3) hx hb dL_law_954 (by decide) ?_
        refine lv_iadd hx hb dL_law_955 ?_
        refine n_eq (nI_add i 3) ?_
        refine va_sld (A := fr z) hx hb hX hbl hbz hI.S (vp_in_nI (n := i + 3) (by omega) (by omega)) dL_law_956 ?_
        rw [nI_clamp (by omega)]
        refine k_Ni (va_runV (As := [.int (nI t1), .int (nI t2), .int (xs (i + 3))]) (rest := []) ⟨hx, hb, hml, hown, hts⟩ (c_X10_ended_c l G z ad M_331 (th := tw) (on := jn) (ao := ao) (vr := vr) (sn := sn) (tp := len) (pt := pt) (zs := zs) (bg := bg) (fa := fw) (n := n) (kd := kd) (fm := fm) (to := to) (sz := sz) (rl := rl) (en := en) (mk := mk) (mf := mf) (mu := mu) (mz := mz) (rr := rr) (ee := ee) (q := t1) (i := t2) (x2 := xs (i + 3)) hm_376 hm_384 w1 w2 ht1 ht2 hc_327) (cwV 3 hts (gV (lwg_of t_1197 rfl) (lwg_of t_1198 rfl) (lwg_of t_1199 rfl) (lwg_of t_13 rfl) (lwg_of t_1200 rfl)) rfl rfl rfl (by decide +kernel) ⟨Nat.le_of_ble_eq_true rfl, Nat.le_of_ble_eq_true rfl⟩) (hI.preV hm_376 rfl) rfl rfl hl.1 rfl (lv_room (Nat.le_of_ble_eq_true rfl)) dL_law_957 ⟨(show _ ≤ (601024 : Nat) from by omega), (show _ ≤ (7293034 : Nat) from by omega)⟩) hI (fun r_407 M_409 H_410 locs_411 hp_408 hI => ?_)
        obtain ⟨hr_412, hm_413, hF_414⟩ := hp_408
        have hm_415 : M_409 0 = some (cStore ad qa qs fw) := by rw [hF_414 0 (by omega)]; exact hm_336
        have hm_416 : M_409 1 = some (cTape ad len) := by rw [hF_414 1 (by omega)]; exact hm_337
        have hm_417 : M_409 2 = some (aI G 400 (nF tb)) := by rw [hF_414 2 (by omega)]; exact hm_338
        have hm_418 : M_409 3 = some (cLaws ad ) := by rw [hF_414 3 (by omega)]; exact hm_339
        have hm_419 : M_409 4 = some (aI G 36 (nF le)) := by rw [hF_414 4 (by omega)]; exact hm_340
        have hm_420 : M_409 5 = some (aI G 36 (nF mo)) := by rw [hF_414 5 (by omega)]; exact hm_341
        have hm_421 : M_409 6 = some (aI G 36 (nF al)) := by rw [hF_414 6 (by omega)]; exact hm_342
        have hm_422 : M_409 7 = some (aZ G 6 (bF ho)) := by rw [hF_414 7 (by omega)]; exact hm_343
        have hm_423 : M_409 8 = some (cOnes ad jn) := by rw [hF_414 8 (by omega)]; exact hm_344
        have hm_424 : M_409 9 = some (aI G 40 (nF hg)) := by rw [hF_414 9 (by omega)]; exact hm_345
        have hm_425 : M_409 10 = some (aI G 40 (nF lst)) := by rw [hF_414 10 (by omega)]; exact hm_346
        have hm_426 : M_409 11 = some (aI G 40 (nF jd)) := by rw [hF_414 11 (by omega)]; exact hm_347
        have hm_427 : M_409 12 = some (cEnds ad 12 s0) := by rw [hF_414 12 (by omega)]; exact hm_348
        have hm_428 : M_409 13 = some (aI G 6 (nF r0)) := by rw [hF_414 13 (by omega)]; exact hm_349
        have hm_429 : M_409 14 = some (aI G 6 (oF th)) := by rw [hF_414 14 (by omega)]; exact hm_350
        have hm_430 : M_409 15 = some (aI G 6 (oF ol)) := by rw [hF_414 15 (by omega)]; exact hm_351
        have hm_431 : M_409 19 = some (aZ G 120 (bF mm9)) := by rw [hF_414 19 (by omega)]; exact hm_352
        have hm_432 : M_409 20 = some (aI G 120 ff) := by rw [hF_414 20 (by omega)]; exact hm_353
        have hm_433 : M_409 21 = some (aI G 120 lq) := by rw [hF_414 21 (by omega)]; exact hm_354
        have hm_434 : M_409 22 = some (cReader ad ra rb rt rv) := by rw [hF_414 22 (by omega)]; exact hm_355
        have hm_435 : M_409 23 = some (cMatcher ad qm pz) := by rw [hF_414 23 (by omega)]; exact hm_356
        have hm_436 : M_409 24 = some (aJ G 2160 sx) := by rw [hF_414 24 (by omega)]; exact hm_357
        have hm_437 : M_409 25 = some (aI G 6 (nF ft)) := by rw [hF_414 25 (by omega)]; exact hm_358
        have hm_438 : M_409 26 = some (aJ G 240 rx) := by rw [hF_414 26 (by omega)]; exact hm_359
        have hm_439 : M_409 27 = some (aJ G 3 dm) := by rw [hF_414 27 (by omega)]; exact hm_360
        have hm_440 : M_409 28 = some (aI G 3 rc) := by rw [hF_414 28 (by omega)]; exact hm_361
        have hm_441 : M_409 qa = some (cQuestion ad qa ao vr) := by rw [hF_414 qa (by omega)]; exact hm_362
        have hm_442 : M_409 (qa + 1) = some (aI G 6 (nF kn)) := by rw [hF_414 (qa + 1) (by omega)]; exact hm_363
        have hm_443 : M_409 (qa + 2) = some (aZ G 6 (bF nq)) := by rw [hF_414 (qa + 2) (by omega)]; exact hm_364
        have hm_444 : M_409 (qa + 3) = some (aI G 6 (nF pn)) := by rw [hF_414 (qa + 3) (by omega)]; exact hm_365
        have hm_445 : M_409 (qa + 4) = some (aI G 6 (nF av)) := by rw [hF_414 (qa + 4) (by omega)]; exact hm_366
        have hm_446 : M_409 (qa + 5) = some (aI G 24 (nF ro)) := by rw [hF_414 (qa + 5) (by omega)]; exact hm_367
        have hm_447 : M_409 (qa + 6) = some (aI G 24 (nF te)) := by rw [hF_414 (qa + 6) (by omega)]; exact hm_368
        have hm_448 : M_409 qs = some (cQuestion ad qs sq su) := by rw [hF_414 qs (by omega)]; exact hm_369
        have hm_449 : M_409 (qs + 1) = some (aI G 6 (nF kb)) := by rw [hF_414 (qs + 1) (by omega)]; exact hm_370
        have hm_450 : M_409 (qs + 2) = some (aZ G 6 (bF nb)) := by rw [hF_414 (qs + 2) (by omega)]; exact hm_371
        have hm_451 : M_409 (qs + 3) = some (aI G 6 (nF pb)) := by rw [hF_414 (qs + 3) (by omega)]; exact hm_372
        have hm_452 : M_409 (qs + 4) = some (aI G 6 (nF ab)) := by rw [hF_414 (qs + 4) (by omega)]; exact hm_373
        have hm_453 : M_409 (qs + 5) = some (aI G 24 (nF rbb)) := by rw [hF_414 (qs + 5) (by omega)]; exact hm_374
        have hm_454 : M_409 (qs + 6) = some (aI G 24 (nF tbb)) := by rw [hF_414 (qs + 6) (by omega)]; exact hm_375
        have hm_455 : M_409 61 = some (aI G 36 (nF le)) := by rw [hF_414 61 (by omega)]; exact hm_377
        have hm_456 : M_409 62 = some (aI G 36 (nF mo)) := by rw [hF_414 62 (by omega)]; exact hm_378
        have hm_457 : M_409 63 = some (aI G 36 (nF al)) := by rw [hF_414 63 (by omega)]; exact hm_379
        have hm_458 : M_409 64 = some (aZ G 6 (bF ho)) := by rw [hF_414 64 (by omega)]; exact hm_380
        have hm_459 : M_409 65 = some (aI G 120 (nF mk)) := by rw [hF_414 65 (by omega)]; exact hm_381
        have hm_460 : M_409 66 = some (aI G 120 mf) := by rw [hF_414 66 (by omega)]; exact hm_382
        have hm_461 : M_409 67 = some (aI G 120 mu) := by rw [hF_414 67 (by omega)]; exact hm_383
        have hm_462 : M_409 68 = some (aI G 121 (nF mz)) := by rw [hF_414 68 (by omega)]; exact hm_384
        have hm_463 : M_409 69 = some (aI G 726 (nF rr)) := by rw [hF_414 69 (by omega)]; exact hm_385
        have hm_464 : M_409 70 = some (aI G 726 (nF ee)) := by rw [hF_414 70 (by omega)]; exact hm_386
        have hm_465 : M_409 71 = some (aI G 40 (nF lst)) := by rw [hF_414 71 (by omega)]; exact hm_387
        have hm_466 : M_409 72 = some (aI G 40 (nF oa)) := by rw [hF_414 72 (by omega)]; exact hm_388
        have hm_467 : M_409 73 = some (aI G 40 (nF ob)) := by rw [hF_414 73 (by omega)]; exact hm_389
        have hm_468 : M_409 74 = some (aI G 120 s74) := by rw [hF_414 74 (by omega)]; exact hm_390
        have hm_469 : M_409 75 = some (aI G 12 ak) := by rw [hF_414 75 (by omega)]; exact hm_391
        have hm_470 : M_409 76 = some (aZ G 12 (bF nm)) := by rw [hF_414 76 (by omega)]; exact hm_392
        have hm_471 : M_409 77 = some (aI G 12 (nF ap)) := by rw [hF_414 77 (by omega)]; exact hm_393
        have hm_472 : M_409 78 = some (aI G 48 pr) := by rw [hF_414 78 (by omega)]; exact hm_394
        have hm_473 : M_409 79 = some (aI G 48 pf) := by rw [hF_414 79 (by omega)]; exact hm_395
        have hm_474 : M_409 80 = some (aB G 400 tf) := by rw [hF_414 80 (by omega)]; exact hm_396
        have hm_475 : M_409 81 = some (aI G 5 fv) := by rw [hF_414 81 (by omega)]; exact hm_397
        have hm_476 : M_409 82 = some (aZ G 384000 (bF tr)) := by rw [hF_414 82 (by omega)]; exact hm_398
        have hm_477 : M_409 83 = some (aI G 3 (oF gv)) := by rw [hF_414 83 (by omega)]; exact hm_399
        have hm_478 : M_409 84 = some (aI G 3 fo) := by rw [hF_414 84 (by omega)]; exact hm_400
        have hm_479 : M_409 85 = some (aZ G 40 (bF re)) := by rw [hF_414 85 (by omega)]; exact hm_401
        have hm_480 : M_409 86 = some (aZ G 120 (bF us)) := by rw [hF_414 86 (by omega)]; exact hm_402
        have hm_481 : M_409 87 = some (aZ G 120 (bF nx)) := by rw [hF_414 87 (by omega)]; exact hm_403
        have hm_482 : M_409 99 = some (aJ G 1 of) := by rw [hF_414 99 (by omega)]; exact hm_404
        have hm_483 : M_409 16 = some (cLines ad ) := by rw [hF_414 16 (by omega)]; exact hm_405
        have hL_484 : LSm G ad M_409 n kd fm to sz rl en := hL_406.keep (fun j hj => hF_414 j (by omega))
        have hF_485 : ∀ j : Nat, j ≠ 60 → M_409 j = M j := fun j q0 => (hF_414 j q0).trans (hF_335 j )
        rw [hr_412]
        refine lv_istore (lv' := [(6, .int (nI 0)), (5, .int (nI 2)), (0, .ref b), (1, .ref (ad 0)), (2, .ref (ad 60)), (3, .ref (ad 99)), (4, .int (nI i))]) hx hb dL_law_960 hl (by decide) rfl (fun ls hl => ?_)
        refine lv_aload_n hx hb dL_law_962 rfl (lv_at hl 4 rfl) ?_
        refine k_Ri (va_runV (As := []) (rest := []) ⟨hx, hb, hml, hown, hts⟩ (c_X10_thrown l G z ad M_409 (th := 2) (ln := n) (on := jn) (ao := ao) (vr := vr) (sn := sn) (tp := len) (pt := pt) (zs := zs) (bg := bg) (fa := fw) hm_413) (cwV 0 hts (gV (lwg_of t_997 rfl) (lwg_of t_998 rfl) (lwg_of t_999 rfl) (lwg_of t_13 rfl) (lwg_of t_1000 rfl)) rfl rfl rfl (by decide +kernel) ⟨Nat.le_of_ble_eq_true rfl, Nat.le_of_ble_eq_true rfl⟩) (hI.preV hm_413 rfl) rfl rfl hl.1 rfl (lv_room (Nat.le_of_ble_eq_true rfl)) dL_law_963 ⟨(show _ ≤ (601024 : Nat) from by omega), (show _ ≤ (7293034 : Nat) from by omega)⟩) (fun _ h => h) (fun r_486 hp_487 => ?_)
        rw [hp_487]
        refine lv_iload hx hb dL_law_966 (lv_at hl 1 rfl) ?_
        refine lv_icmp_eq (tgt := 973) hx hb dL_law_968 (by decide) (fun c_488 => ?_) (fun c_488 => ?_)
        · -- 968: nI 2 eq
          refine lv_iload hx hb dL_law_973 (lv_at hl 1 rfl) ?_
          refine lv_if_ne (tgt := 990) hx hb dL_law_975 (by decide) (fun c_489 => ?_) (fun c_489 => ?_)
          · -- 975: nI 2 ne
            refine lv_goto (tgt := 1333) hx hb dL_law_990 (by decide) ?_
            refine W.widen (k := cz + 10) (n := sy + 300) (by omega) (by omega) ?_
            exact kk ad M_409 H_410 locs_411 ls n kd fm to sz rl en qa qs fw len tb le mo al ho jn hg lst jd s0 r0 th ol e0 mm9 ff lq ra rb rt rv qm pz sx ft rx dm rc ao vr kn nq pn av ro te sq su kb nb pb ab rbb tbb 2 sn pt zs bg mk mf mu mz rr ee oa ob s74 ak nm ap pr pf tf fv tr gv fo re us nx of hL_484 w1 w2 w3 w4 w5 w6 w7 w8 w9 w10 w11 w12 w13 w14 w15 w16 w17 w18 w19 w20 w21 w22 w23 w24 w25 w26 w27 w28 w29 (fun h9 => by rw [hF_485 17 (by omega), hF_485 18 (by omega)]; exact w30 h9) (by rw [hF_485 29 (by omega)]; exact w31) (fun j9 h9 => by rw [hF_485 j9 (by omega)]; exact w32 j9 h9) hm_415 hm_416 hm_417 hm_418 hm_419 hm_420 hm_421 hm_422 hm_423 hm_424 hm_425 hm_426 hm_427 hm_428 hm_429 hm_430 hm_431 hm_432 hm_433 hm_434 hm_435 hm_436 hm_437 hm_438 hm_439 hm_440 hm_441 hm_442 hm_443 hm_444 hm_445 hm_446 hm_447 hm_448 hm_449 hm_450 hm_451 hm_452 hm_453 hm_454 hm_413 hm_455 hm_456 hm_457 hm_458 hm_459 hm_460 hm_461 hm_462 hm_463 hm_464 hm_465 hm_466 hm_467 hm_468 hm_469 hm_470 hm_471 hm_472 hm_473 hm_474 hm_475 hm_476 hm_477 hm_478 hm_479 hm_480 hm_481 hm_482 hI (lv_sub hl [2, 3, 4, 5, 6] rfl)
          · -- 975: nI 2 eq
            exact absurd c_489 (by decide)
        · -- 968: nI 2 ne
          exact absurd (by decide) c_488
      · skip
        refine lv_iload hx hb dL_law_915 (lv_at hl 4 rfl) ?_
        obtain ⟨t3, ht3, et3⟩ := hc_328
        rcases (by omega : t3 = 0 ∨ t3 = 1 ∨ t3 = 2) with hc_490 | hc_491 | hc_492
        · skip
          refine lv_iconst (v := nI 1) hx hb dL_law_917 (by decide) ?_
          refine lv_iadd hx hb dL_law_918 ?_
          refine n_eq (nI_add i 1) ?_
          refine va_sld (A := fr z) hx hb hX hbl hbz hI.S (vp_in_nI (n := i + 1) (by omega) (by omega)) dL_law_919 ?_
          rw [nI_clamp (by omega)]
          refine n_eq (show _ = nI t1 from et1) ?_
          refine lv_aload_n hx hb dL_law_920 rfl (lv_at hl 0 rfl) ?_
          refine lv_iload hx hb dL_law_921 (lv_at hl 4 rfl) ?_
          refine lv_iconst (v := nI 2) hx hb dL_law_923 (by decide) ?_
          refine lv_iadd hx hb dL_law_924 ?_
          refine n_eq (nI_add i 2) ?_
          refine va_sld (A := fr z) hx hb hX hbl hbz hI.S (vp_in_nI (n := i + 2) (by omega) (by omega)) dL_law_925 ?_
          rw [nI_clamp (by omega)]
          refine n_eq (show _ = nI t2 from et2) ?_
          refine lv_aload_n hx hb dL_law_926 rfl (lv_at hl 0 rfl) ?_
          refine lv_iload hx hb dL_law_927 (lv_at hl 4 rfl) ?_
          refine lv_iconst (v := nI 3) hx hb dL_law_929 (by decide) ?_
          refine lv_iadd hx hb dL_law_930 ?_
          refine n_eq (nI_add i 3) ?_
          refine va_sld (A := fr z) hx hb hX hbl hbz hI.S (vp_in_nI (n := i + 3) (by omega) (by omega)) dL_law_931 ?_
          rw [nI_clamp (by omega)]
          refine n_eq (show _ = nI 0 from et3.trans (congrArg nI hc_490)) ?_
          refine lv_aload_n hx hb dL_law_932 rfl (lv_at hl 3 rfl) ?_
          refine k_Ni (vx_runSW (As := [.ref (ad 0), .int (nI t1), .int (nI t2), .int (nI 0), .ref (ad 99)]) (rest := []) ⟨hx, hb, hml, hown, hts⟩ (c_L_ended_0 l hst G z ad M (n := n) (kd := kd) (fm := fm) (to := to) (sz := sz) (rl := rl) (en := en) (qa := qa) (qs := qs) (fw := fw) (q := t1) (i := t2) (of := of) fL f_0 f_99 w1 ht1 ht2) (vx_cwSW 5 hts (gSW (lwg_of t_888 rfl) (lwg_of t_889 rfl) (lwg_of t_0 rfl) (lwg_of t_890 rfl)) rfl rfl rfl (by decide +kernel) ⟨Nat.le_of_ble_eq_true rfl, Nat.le_of_ble_eq_true rfl⟩) hI.preS rfl rfl hl.1 rfl (lv_room (Nat.le_of_ble_eq_true rfl)) dL_law_933 ⟨(show _ ≤ (601024 : Nat) from by omega), (show _ ≤ (7293034 : Nat) from by omega)⟩) hI (fun r_493 M_495 H_496 locs_497 hp_494 hI => ?_)
          obtain ⟨hr_498, hm_499, hF_500⟩ := hp_494
          have hm_501 : M_495 0 = some (cStore ad qa qs fw) := by rw [hF_500 0 (by omega)]; exact f_0
          have hm_502 : M_495 1 = some (cTape ad len) := by rw [hF_500 1 (by omega)]; exact f_1
          have hm_503 : M_495 2 = some (aI G 400 (nF tb)) := by rw [hF_500 2 (by omega)]; exact f_2
          have hm_504 : M_495 3 = some (cLaws ad ) := by rw [hF_500 3 (by omega)]; exact f_3
          have hm_505 : M_495 4 = some (aI G 36 (nF le)) := by rw [hF_500 4 (by omega)]; exact f_4
          have hm_506 : M_495 5 = some (aI G 36 (nF mo)) := by rw [hF_500 5 (by omega)]; exact f_5
          have hm_507 : M_495 6 = some (aI G 36 (nF al)) := by rw [hF_500 6 (by omega)]; exact f_6
          have hm_508 : M_495 7 = some (aZ G 6 (bF ho)) := by rw [hF_500 7 (by omega)]; exact f_7
          have hm_509 : M_495 8 = some (cOnes ad jn) := by rw [hF_500 8 (by omega)]; exact f_8
          have hm_510 : M_495 9 = some (aI G 40 (nF hg)) := by rw [hF_500 9 (by omega)]; exact f_9
          have hm_511 : M_495 10 = some (aI G 40 (nF lst)) := by rw [hF_500 10 (by omega)]; exact f_10
          have hm_512 : M_495 11 = some (aI G 40 (nF jd)) := by rw [hF_500 11 (by omega)]; exact f_11
          have hm_513 : M_495 12 = some (cEnds ad 12 s0) := by rw [hF_500 12 (by omega)]; exact f_12
          have hm_514 : M_495 13 = some (aI G 6 (nF r0)) := by rw [hF_500 13 (by omega)]; exact f_13
          have hm_515 : M_495 14 = some (aI G 6 (oF th)) := by rw [hF_500 14 (by omega)]; exact f_14
          have hm_516 : M_495 15 = some (aI G 6 (oF ol)) := by rw [hF_500 15 (by omega)]; exact f_15
          have hm_517 : M_495 19 = some (aZ G 120 (bF mm9)) := by rw [hF_500 19 (by omega)]; exact f_19
          have hm_518 : M_495 20 = some (aI G 120 ff) := by rw [hF_500 20 (by omega)]; exact f_20
          have hm_519 : M_495 21 = some (aI G 120 lq) := by rw [hF_500 21 (by omega)]; exact f_21
          have hm_520 : M_495 22 = some (cReader ad ra rb rt rv) := by rw [hF_500 22 (by omega)]; exact f_22
          have hm_521 : M_495 23 = some (cMatcher ad qm pz) := by rw [hF_500 23 (by omega)]; exact f_23
          have hm_522 : M_495 24 = some (aJ G 2160 sx) := by rw [hF_500 24 (by omega)]; exact f_24
          have hm_523 : M_495 25 = some (aI G 6 (nF ft)) := by rw [hF_500 25 (by omega)]; exact f_25
          have hm_524 : M_495 26 = some (aJ G 240 rx) := by rw [hF_500 26 (by omega)]; exact f_26
          have hm_525 : M_495 27 = some (aJ G 3 dm) := by rw [hF_500 27 (by omega)]; exact f_27
          have hm_526 : M_495 28 = some (aI G 3 rc) := by rw [hF_500 28 (by omega)]; exact f_28
          have hm_527 : M_495 qa = some (cQuestion ad qa ao vr) := by rw [hF_500 qa (by omega)]; exact f_qa
          have hm_528 : M_495 (qa + 1) = some (aI G 6 (nF kn)) := by rw [hF_500 (qa + 1) (by omega)]; exact f_qa_1
          have hm_529 : M_495 (qa + 2) = some (aZ G 6 (bF nq)) := by rw [hF_500 (qa + 2) (by omega)]; exact f_qa_2
          have hm_530 : M_495 (qa + 3) = some (aI G 6 (nF pn)) := by rw [hF_500 (qa + 3) (by omega)]; exact f_qa_3
          have hm_531 : M_495 (qa + 4) = some (aI G 6 (nF av)) := by rw [hF_500 (qa + 4) (by omega)]; exact f_qa_4
          have hm_532 : M_495 (qa + 5) = some (aI G 24 (nF ro)) := by rw [hF_500 (qa + 5) (by omega)]; exact f_qa_5
          have hm_533 : M_495 (qa + 6) = some (aI G 24 (nF te)) := by rw [hF_500 (qa + 6) (by omega)]; exact f_qa_6
          have hm_534 : M_495 qs = some (cQuestion ad qs sq su) := by rw [hF_500 qs (by omega)]; exact f_qs
          have hm_535 : M_495 (qs + 1) = some (aI G 6 (nF kb)) := by rw [hF_500 (qs + 1) (by omega)]; exact f_qs_1
          have hm_536 : M_495 (qs + 2) = some (aZ G 6 (bF nb)) := by rw [hF_500 (qs + 2) (by omega)]; exact f_qs_2
          have hm_537 : M_495 (qs + 3) = some (aI G 6 (nF pb)) := by rw [hF_500 (qs + 3) (by omega)]; exact f_qs_3
          have hm_538 : M_495 (qs + 4) = some (aI G 6 (nF ab)) := by rw [hF_500 (qs + 4) (by omega)]; exact f_qs_4
          have hm_539 : M_495 (qs + 5) = some (aI G 24 (nF rbb)) := by rw [hF_500 (qs + 5) (by omega)]; exact f_qs_5
          have hm_540 : M_495 (qs + 6) = some (aI G 24 (nF tbb)) := by rw [hF_500 (qs + 6) (by omega)]; exact f_qs_6
          have hm_541 : M_495 60 = some (cModel ad tw n jn ao vr sn len pt zs bg fw) := by rw [hF_500 60 (by omega)]; exact f_60
          have hm_542 : M_495 61 = some (aI G 36 (nF le)) := by rw [hF_500 61 (by omega)]; exact f_61
          have hm_543 : M_495 62 = some (aI G 36 (nF mo)) := by rw [hF_500 62 (by omega)]; exact f_62
          have hm_544 : M_495 63 = some (aI G 36 (nF al)) := by rw [hF_500 63 (by omega)]; exact f_63
          have hm_545 : M_495 64 = some (aZ G 6 (bF ho)) := by rw [hF_500 64 (by omega)]; exact f_64
          have hm_546 : M_495 65 = some (aI G 120 (nF mk)) := by rw [hF_500 65 (by omega)]; exact f_65
          have hm_547 : M_495 66 = some (aI G 120 mf) := by rw [hF_500 66 (by omega)]; exact f_66
          have hm_548 : M_495 67 = some (aI G 120 mu) := by rw [hF_500 67 (by omega)]; exact f_67
          have hm_549 : M_495 68 = some (aI G 121 (nF mz)) := by rw [hF_500 68 (by omega)]; exact f_68
          have hm_550 : M_495 69 = some (aI G 726 (nF rr)) := by rw [hF_500 69 (by omega)]; exact f_69
          have hm_551 : M_495 70 = some (aI G 726 (nF ee)) := by rw [hF_500 70 (by omega)]; exact f_70
          have hm_552 : M_495 71 = some (aI G 40 (nF lst)) := by rw [hF_500 71 (by omega)]; exact f_71
          have hm_553 : M_495 72 = some (aI G 40 (nF oa)) := by rw [hF_500 72 (by omega)]; exact f_72
          have hm_554 : M_495 73 = some (aI G 40 (nF ob)) := by rw [hF_500 73 (by omega)]; exact f_73
          have hm_555 : M_495 74 = some (aI G 120 s74) := by rw [hF_500 74 (by omega)]; exact f_74
          have hm_556 : M_495 75 = some (aI G 12 ak) := by rw [hF_500 75 (by omega)]; exact f_75
          have hm_557 : M_495 76 = some (aZ G 12 (bF nm)) := by rw [hF_500 76 (by omega)]; exact f_76
          have hm_558 : M_495 77 = some (aI G 12 (nF ap)) := by rw [hF_500 77 (by omega)]; exact f_77
          have hm_559 : M_495 78 = some (aI G 48 pr) := by rw [hF_500 78 (by omega)]; exact f_78
          have hm_560 : M_495 79 = some (aI G 48 pf) := by rw [hF_500 79 (by omega)]; exact f_79
          have hm_561 : M_495 80 = some (aB G 400 tf) := by rw [hF_500 80 (by omega)]; exact f_80
          have hm_562 : M_495 81 = some (aI G 5 fv) := by rw [hF_500 81 (by omega)]; exact f_81
          have hm_563 : M_495 82 = some (aZ G 384000 (bF tr)) := by rw [hF_500 82 (by omega)]; exact f_82
          have hm_564 : M_495 83 = some (aI G 3 (oF gv)) := by rw [hF_500 83 (by omega)]; exact f_83
          have hm_565 : M_495 84 = some (aI G 3 fo) := by rw [hF_500 84 (by omega)]; exact f_84
          have hm_566 : M_495 85 = some (aZ G 40 (bF re)) := by rw [hF_500 85 (by omega)]; exact f_85
          have hm_567 : M_495 86 = some (aZ G 120 (bF us)) := by rw [hF_500 86 (by omega)]; exact f_86
          have hm_568 : M_495 87 = some (aZ G 120 (bF nx)) := by rw [hF_500 87 (by omega)]; exact f_87
          have hm_569 : M_495 16 = some (cLines ad ) := by rw [hF_500 16 (by omega)]; exact h16
          have hL_570 : LSm G ad M_495 n kd fm to sz rl en := fL.keep (fun j hj => hF_500 j (by omega))
          have hF_571 : ∀ j : Nat, j ≠ 99 → M_495 j = M j := fun j q0 => (hF_500 j q0)
          rw [hr_498]
          refine lv_istore (lv' := [(5, .int (nI 0)), (0, .ref b), (1, .ref (ad 0)), (2, .ref (ad 60)), (3, .ref (ad 99)), (4, .int (nI i))]) hx hb dL_law_936 hl (by decide) rfl (fun ls hl => ?_)
          refine lv_aload_n hx hb dL_law_938 rfl (lv_at hl 3 rfl) ?_
          refine lv_aload_n hx hb dL_law_939 rfl (lv_at hl 1 rfl) ?_
          refine lv_iload hx hb dL_law_940 (lv_at hl 5 rfl) ?_
          refine lv_iconst (v := nI 1) hx hb dL_law_942 (by decide) ?_
          refine lv_iadd hx hb dL_law_943 ?_
          refine n_eq (nI_add i 1) ?_
          refine va_sld (A := fr z) hx hb hX hbl hbz hI.S (vp_in_nI (n := i + 1) (by omega) (by omega)) dL_law_944 ?_
          rw [nI_clamp (by omega)]
          refine n_eq (show _ = nI t1 from et1) ?_
          refine lv_aload_n hx hb dL_law_945 rfl (lv_at hl 1 rfl) ?_
          refine lv_iload hx hb dL_law_946 (lv_at hl 5 rfl) ?_
          refine lv_iconst (v := nI 2) hx hb dL_law_948 (by decide) ?_
          refine lv_iadd hx hb dL_law_949 ?_
          refine n_eq (nI_add i 2) ?_
          refine va_sld (A := fr z) hx hb hX hbl hbz hI.S (vp_in_nI (n := i + 2) (by omega) (by omega)) dL_law_950 ?_
          rw [nI_clamp (by omega)]
          refine n_eq (show _ = nI t2 from et2) ?_
          refine lv_aload_n hx hb dL_law_951 rfl (lv_at hl 1 rfl) ?_
          refine lv_iload hx hb dL_law_952 (lv_at hl 5 rfl) ?_
          refine lv_iconst (v := nI 3) hx hb dL_law_954 (by decide) ?_
          refine lv_iadd hx hb dL_law_955 ?_
          refine n_eq (nI_add i 3) ?_
          refine va_sld (A := fr z) hx hb hX hbl hbz hI.S (vp_in_nI (n := i + 3) (by omega) (by omega)) dL_law_956 ?_
          rw [nI_clamp (by omega)]
          refine n_eq (show _ = nI 0 from et3.trans (congrArg nI hc_490)) ?_
          refine k_Ni (va_runV (As := [.int (nI t1), .int (nI t2), .int (nI 0)]) (rest := []) ⟨hx, hb, hml, hown, hts⟩ (c_X10_ended_0 l G z ad M_495 (th := tw) (on := jn) (ao := ao) (vr := vr) (sn := sn) (tp := len) (pt := pt) (zs := zs) (bg := bg) (fa := fw) (n := n) (kd := kd) (fm := fm) (to := to) (sz := sz) (rl := rl) (en := en) (mk := mk) (mf := mf) (mu := mu) (mz := mz) (rr := rr) (ee := ee) (q := t1) (i := t2) hm_541 hm_549 hm_550 hm_551 w1 w2 ht1 ht2) (cwV 3 hts (gV (lwg_of t_1197 rfl) (lwg_of t_1198 rfl) (lwg_of t_1199 rfl) (lwg_of t_13 rfl) (lwg_of t_1200 rfl)) rfl rfl rfl (by decide +kernel) ⟨Nat.le_of_ble_eq_true rfl, Nat.le_of_ble_eq_true rfl⟩) (hI.preV hm_541 rfl) rfl rfl hl.1 rfl (lv_room (Nat.le_of_ble_eq_true rfl)) dL_law_957 ⟨(show _ ≤ (601024 : Nat) from by omega), (show _ ≤ (7293034 : Nat) from by omega)⟩) hI (fun r_572 M_574 H_575 locs_576 hp_573 hI => ?_)
          obtain ⟨hr_577, hm_578, hF_579⟩ := hp_573
          have hm_580 : M_574 0 = some (cStore ad qa qs fw) := by rw [hF_579 0 (by omega)]; exact hm_501
          have hm_581 : M_574 1 = some (cTape ad len) := by rw [hF_579 1 (by omega)]; exact hm_502
          have hm_582 : M_574 2 = some (aI G 400 (nF tb)) := by rw [hF_579 2 (by omega)]; exact hm_503
          have hm_583 : M_574 3 = some (cLaws ad ) := by rw [hF_579 3 (by omega)]; exact hm_504
          have hm_584 : M_574 4 = some (aI G 36 (nF le)) := by rw [hF_579 4 (by omega)]; exact hm_505
          have hm_585 : M_574 5 = some (aI G 36 (nF mo)) := by rw [hF_579 5 (by omega)]; exact hm_506
          have hm_586 : M_574 6 = some (aI G 36 (nF al)) := by rw [hF_579 6 (by omega)]; exact hm_507
          have hm_587 : M_574 7 = some (aZ G 6 (bF ho)) := by rw [hF_579 7 (by omega)]; exact hm_508
          have hm_588 : M_574 8 = some (cOnes ad jn) := by rw [hF_579 8 (by omega)]; exact hm_509
          have hm_589 : M_574 9 = some (aI G 40 (nF hg)) := by rw [hF_579 9 (by omega)]; exact hm_510
          have hm_590 : M_574 10 = some (aI G 40 (nF lst)) := by rw [hF_579 10 (by omega)]; exact hm_511
          have hm_591 : M_574 11 = some (aI G 40 (nF jd)) := by rw [hF_579 11 (by omega)]; exact hm_512
          have hm_592 : M_574 12 = some (cEnds ad 12 s0) := by rw [hF_579 12 (by omega)]; exact hm_513
          have hm_593 : M_574 13 = some (aI G 6 (nF r0)) := by rw [hF_579 13 (by omega)]; exact hm_514
          have hm_594 : M_574 14 = some (aI G 6 (oF th)) := by rw [hF_579 14 (by omega)]; exact hm_515
          have hm_595 : M_574 15 = some (aI G 6 (oF ol)) := by rw [hF_579 15 (by omega)]; exact hm_516
          have hm_596 : M_574 19 = some (aZ G 120 (bF mm9)) := by rw [hF_579 19 (by omega)]; exact hm_517
          have hm_597 : M_574 20 = some (aI G 120 ff) := by rw [hF_579 20 (by omega)]; exact hm_518
          have hm_598 : M_574 21 = some (aI G 120 lq) := by rw [hF_579 21 (by omega)]; exact hm_519
          have hm_599 : M_574 22 = some (cReader ad ra rb rt rv) := by rw [hF_579 22 (by omega)]; exact hm_520
          have hm_600 : M_574 23 = some (cMatcher ad qm pz) := by rw [hF_579 23 (by omega)]; exact hm_521
          have hm_601 : M_574 24 = some (aJ G 2160 sx) := by rw [hF_579 24 (by omega)]; exact hm_522
          have hm_602 : M_574 25 = some (aI G 6 (nF ft)) := by rw [hF_579 25 (by omega)]; exact hm_523
          have hm_603 : M_574 26 = some (aJ G 240 rx) := by rw [hF_579 26 (by omega)]; exact hm_524
          have hm_604 : M_574 27 = some (aJ G 3 dm) := by rw [hF_579 27 (by omega)]; exact hm_525
          have hm_605 : M_574 28 = some (aI G 3 rc) := by rw [hF_579 28 (by omega)]; exact hm_526
          have hm_606 : M_574 qa = some (cQuestion ad qa ao vr) := by rw [hF_579 qa (by omega)]; exact hm_527
          have hm_607 : M_574 (qa + 1) = some (aI G 6 (nF kn)) := by rw [hF_579 (qa + 1) (by omega)]; exact hm_528
          have hm_608 : M_574 (qa + 2) = some (aZ G 6 (bF nq)) := by rw [hF_579 (qa + 2) (by omega)]; exact hm_529
          have hm_609 : M_574 (qa + 3) = some (aI G 6 (nF pn)) := by rw [hF_579 (qa + 3) (by omega)]; exact hm_530
          have hm_610 : M_574 (qa + 4) = some (aI G 6 (nF av)) := by rw [hF_579 (qa + 4) (by omega)]; exact hm_531
          have hm_611 : M_574 (qa + 5) = some (aI G 24 (nF ro)) := by rw [hF_579 (qa + 5) (by omega)]; exact hm_532
          have hm_612 : M_574 (qa + 6) = some (aI G 24 (nF te)) := by rw [hF_579 (qa + 6) (by omega)]; exact hm_533
          have hm_613 : M_574 qs = some (cQuestion ad qs sq su) := by rw [hF_579 qs (by omega)]; exact hm_534
          have hm_614 : M_574 (qs + 1) = some (aI G 6 (nF kb)) := by rw [hF_579 (qs + 1) (by omega)]; exact hm_535
          have hm_615 : M_574 (qs + 2) = some (aZ G 6 (bF nb)) := by rw [hF_579 (qs + 2) (by omega)]; exact hm_536
          have hm_616 : M_574 (qs + 3) = some (aI G 6 (nF pb)) := by rw [hF_579 (qs + 3) (by omega)]; exact hm_537
          have hm_617 : M_574 (qs + 4) = some (aI G 6 (nF ab)) := by rw [hF_579 (qs + 4) (by omega)]; exact hm_538
          have hm_618 : M_574 (qs + 5) = some (aI G 24 (nF rbb)) := by rw [hF_579 (qs + 5) (by omega)]; exact hm_539
          have hm_619 : M_574 (qs + 6) = some (aI G 24 (nF tbb)) := by rw [hF_579 (qs + 6) (by omega)]; exact hm_540
          have hm_620 : M_574 61 = some (aI G 36 (nF le)) := by rw [hF_579 61 (by omega)]; exact hm_542
          have hm_621 : M_574 62 = some (aI G 36 (nF mo)) := by rw [hF_579 62 (by omega)]; exact hm_543
          have hm_622 : M_574 63 = some (aI G 36 (nF al)) := by rw [hF_579 63 (by omega)]; exact hm_544
          have hm_623 : M_574 64 = some (aZ G 6 (bF ho)) := by rw [hF_579 64 (by omega)]; exact hm_545
          have hm_624 : M_574 65 = some (aI G 120 (nF mk)) := by rw [hF_579 65 (by omega)]; exact hm_546
          have hm_625 : M_574 66 = some (aI G 120 mf) := by rw [hF_579 66 (by omega)]; exact hm_547
          have hm_626 : M_574 67 = some (aI G 120 mu) := by rw [hF_579 67 (by omega)]; exact hm_548
          have hm_627 : M_574 68 = some (aI G 121 (nF mz)) := by rw [hF_579 68 (by omega)]; exact hm_549
          have hm_628 : M_574 69 = some (aI G 726 (nF rr)) := by rw [hF_579 69 (by omega)]; exact hm_550
          have hm_629 : M_574 70 = some (aI G 726 (nF ee)) := by rw [hF_579 70 (by omega)]; exact hm_551
          have hm_630 : M_574 71 = some (aI G 40 (nF lst)) := by rw [hF_579 71 (by omega)]; exact hm_552
          have hm_631 : M_574 72 = some (aI G 40 (nF oa)) := by rw [hF_579 72 (by omega)]; exact hm_553
          have hm_632 : M_574 73 = some (aI G 40 (nF ob)) := by rw [hF_579 73 (by omega)]; exact hm_554
          have hm_633 : M_574 74 = some (aI G 120 s74) := by rw [hF_579 74 (by omega)]; exact hm_555
          have hm_634 : M_574 75 = some (aI G 12 ak) := by rw [hF_579 75 (by omega)]; exact hm_556
          have hm_635 : M_574 76 = some (aZ G 12 (bF nm)) := by rw [hF_579 76 (by omega)]; exact hm_557
          have hm_636 : M_574 77 = some (aI G 12 (nF ap)) := by rw [hF_579 77 (by omega)]; exact hm_558
          have hm_637 : M_574 78 = some (aI G 48 pr) := by rw [hF_579 78 (by omega)]; exact hm_559
          have hm_638 : M_574 79 = some (aI G 48 pf) := by rw [hF_579 79 (by omega)]; exact hm_560
          have hm_639 : M_574 80 = some (aB G 400 tf) := by rw [hF_579 80 (by omega)]; exact hm_561
          have hm_640 : M_574 81 = some (aI G 5 fv) := by rw [hF_579 81 (by omega)]; exact hm_562
          have hm_641 : M_574 82 = some (aZ G 384000 (bF tr)) := by rw [hF_579 82 (by omega)]; exact hm_563
          have hm_642 : M_574 83 = some (aI G 3 (oF gv)) := by rw [hF_579 83 (by omega)]; exact hm_564
          have hm_643 : M_574 84 = some (aI G 3 fo) := by rw [hF_579 84 (by omega)]; exact hm_565
          have hm_644 : M_574 85 = some (aZ G 40 (bF re)) := by rw [hF_579 85 (by omega)]; exact hm_566
          have hm_645 : M_574 86 = some (aZ G 120 (bF us)) := by rw [hF_579 86 (by omega)]; exact hm_567
          have hm_646 : M_574 87 = some (aZ G 120 (bF nx)) := by rw [hF_579 87 (by omega)]; exact hm_568
          have hm_647 : M_574 99 = some (aJ G 1 (vp_updL of 0 ((nI (rl t1 t2)).toInt64))) := by rw [hF_579 99 (by omega)]; exact hm_499
          have hm_648 : M_574 16 = some (cLines ad ) := by rw [hF_579 16 (by omega)]; exact hm_569
          have hL_649 : LSm G ad M_574 n kd fm to sz rl en := hL_570.keep (fun j hj => hF_579 j (by omega))
          have hF_650 : ∀ j : Nat, j ≠ 99 → j ≠ 60 → M_574 j = M j := fun j q0 q1 => (hF_579 j q1).trans (hF_571 j q0)
          rw [hr_577]
          refine lv_istore (lv' := [(6, .int (nI (rl t1 t2))), (5, .int (nI 0)), (0, .ref b), (1, .ref (ad 0)), (2, .ref (ad 60)), (3, .ref (ad 99)), (4, .int (nI i))]) hx hb dL_law_960 hl (by decide) rfl (fun ls hl => ?_)
          refine lv_aload_n hx hb dL_law_962 rfl (lv_at hl 4 rfl) ?_
          refine k_Ri (va_runV (As := []) (rest := []) ⟨hx, hb, hml, hown, hts⟩ (c_X10_thrown l G z ad M_574 (th := 0) (ln := n) (on := jn) (ao := ao) (vr := vr) (sn := sn) (tp := len) (pt := pt) (zs := zs) (bg := bg) (fa := fw) hm_578) (cwV 0 hts (gV (lwg_of t_997 rfl) (lwg_of t_998 rfl) (lwg_of t_999 rfl) (lwg_of t_13 rfl) (lwg_of t_1000 rfl)) rfl rfl rfl (by decide +kernel) ⟨Nat.le_of_ble_eq_true rfl, Nat.le_of_ble_eq_true rfl⟩) (hI.preV hm_578 rfl) rfl rfl hl.1 rfl (lv_room (Nat.le_of_ble_eq_true rfl)) dL_law_963 ⟨(show _ ≤ (601024 : Nat) from by omega), (show _ ≤ (7293034 : Nat) from by omega)⟩) (fun _ h => h) (fun r_651 hp_652 => ?_)
          rw [hp_652]
          refine lv_iload hx hb dL_law_966 (lv_at hl 1 rfl) ?_
          refine lv_icmp_eq (tgt := 973) hx hb dL_law_968 (by decide) (fun c_653 => ?_) (fun c_653 => ?_)
          · -- 968: nI 0 eq
            refine lv_iload hx hb dL_law_973 (lv_at hl 1 rfl) ?_
            refine lv_if_ne (tgt := 990) hx hb dL_law_975 (by decide) (fun c_654 => ?_) (fun c_654 => ?_)
            · -- 975: nI 0 ne
              exact absurd (by decide) c_654
            · -- 975: nI 0 eq
              refine lv_aload_n hx hb dL_law_978 rfl (lv_at hl 5 rfl) ?_
              refine lv_iconst (v := nI 0) hx hb dL_law_979 (by decide) ?_
              refine h_lald (i := 0) hx hb hI hm_647 (by omega) (by decide) dL_law_980 ?_
              refine n_eql (show _ = (nI (rl t1 t2)).toInt64 from updL_0) ?_
              refine lv_iload hx hb dL_law_981 (lv_at hl 0 rfl) ?_
              refine lv_i2l (v := (nI (rl t1 t2)).toInt64) hx hb dL_law_983 rfl ?_
              refine W.lcmp hx hb dL_law_984 ?_
              refine lv_if_eq (tgt := 990) hx hb dL_law_985 (by decide) (fun c_655 => ?_) (fun c_655 => ?_)
              · -- 985: lg_cmp ((nI (rl t1 t2)).toInt64) ((nI (rl t1 t2)).toInt64) eq
                have c_655 : (nI (rl t1 t2)).toInt64 = (nI (rl t1 t2)).toInt64 := (lg_cmp_eq _ _).mp c_655
                refine lv_goto (tgt := 1333) hx hb dL_law_990 (by decide) ?_
                refine W.widen (k := cz + 10) (n := sy + 300) (by omega) (by omega) ?_
                exact kk ad M_574 H_575 locs_576 ls n kd fm to sz rl en qa qs fw len tb le mo al ho jn hg lst jd s0 r0 th ol e0 mm9 ff lq ra rb rt rv qm pz sx ft rx dm rc ao vr kn nq pn av ro te sq su kb nb pb ab rbb tbb 0 sn pt zs bg mk mf mu mz rr ee oa ob s74 ak nm ap pr pf tf fv tr gv fo re us nx (vp_updL of 0 ((nI (rl t1 t2)).toInt64)) hL_649 w1 w2 w3 w4 w5 w6 w7 w8 w9 w10 w11 w12 w13 w14 w15 w16 w17 w18 w19 w20 w21 w22 w23 w24 w25 w26 w27 w28 w29 (fun h9 => by rw [hF_650 17 (by omega) (by omega), hF_650 18 (by omega) (by omega)]; exact w30 h9) (by rw [hF_650 29 (by omega) (by omega)]; exact w31) (fun j9 h9 => by rw [hF_650 j9 (by omega) (by omega)]; exact w32 j9 h9) hm_580 hm_581 hm_582 hm_583 hm_584 hm_585 hm_586 hm_587 hm_588 hm_589 hm_590 hm_591 hm_592 hm_593 hm_594 hm_595 hm_596 hm_597 hm_598 hm_599 hm_600 hm_601 hm_602 hm_603 hm_604 hm_605 hm_606 hm_607 hm_608 hm_609 hm_610 hm_611 hm_612 hm_613 hm_614 hm_615 hm_616 hm_617 hm_618 hm_619 hm_578 hm_620 hm_621 hm_622 hm_623 hm_624 hm_625 hm_626 hm_627 hm_628 hm_629 hm_630 hm_631 hm_632 hm_633 hm_634 hm_635 hm_636 hm_637 hm_638 hm_639 hm_640 hm_641 hm_642 hm_643 hm_644 hm_645 hm_646 hm_647 hI (lv_sub hl [2, 3, 4, 5, 6] rfl)
              · -- 985: lg_cmp ((nI (rl t1 t2)).toInt64) ((nI (rl t1 t2)).toInt64) ne
                have c_655 : (nI (rl t1 t2)).toInt64 ≠ (nI (rl t1 t2)).toInt64 := (fun h => c_655 ((lg_cmp_eq _ _).mpr h))
                exact absurd rfl c_655
          · -- 968: nI 0 ne
            exact absurd (by decide) c_653
        · skip
          refine lv_iconst (v := nI 1) hx hb dL_law_917 (by decide) ?_
          refine lv_iadd hx hb dL_law_918 ?_
          refine n_eq (nI_add i 1) ?_
          refine va_sld (A := fr z) hx hb hX hbl hbz hI.S (vp_in_nI (n := i + 1) (by omega) (by omega)) dL_law_919 ?_
          rw [nI_clamp (by omega)]
          refine n_eq (show _ = nI t1 from et1) ?_
          refine lv_aload_n hx hb dL_law_920 rfl (lv_at hl 0 rfl) ?_
          refine lv_iload hx hb dL_law_921 (lv_at hl 4 rfl) ?_
          refine lv_iconst (v := nI 2) hx hb dL_law_923 (by decide) ?_
          refine lv_iadd hx hb dL_law_924 ?_
          refine n_eq (nI_add i 2) ?_
          refine va_sld (A := fr z) hx hb hX hbl hbz hI.S (vp_in_nI (n := i + 2) (by omega) (by omega)) dL_law_925 ?_
          rw [nI_clamp (by omega)]
          refine n_eq (show _ = nI t2 from et2) ?_
          refine lv_aload_n hx hb dL_law_926 rfl (lv_at hl 0 rfl) ?_
          refine lv_iload hx hb dL_law_927 (lv_at hl 4 rfl) ?_
          refine lv_iconst (v := nI 3) hx hb dL_law_929 (by decide) ?_
          refine lv_iadd hx hb dL_law_930 ?_
          refine n_eq (nI_add i 3) ?_
          refine va_sld (A := fr z) hx hb hX hbl hbz hI.S (vp_in_nI (n := i + 3) (by omega) (by omega)) dL_law_931 ?_
          rw [nI_clamp (by omega)]
          refine n_eq (show _ = nI 1 from et3.trans (congrArg nI hc_491)) ?_
          refine lv_aload_n hx hb dL_law_932 rfl (lv_at hl 3 rfl) ?_
          refine k_Ni (vx_runSW (As := [.ref (ad 0), .int (nI t1), .int (nI t2), .int (nI 1), .ref (ad 99)]) (rest := []) ⟨hx, hb, hml, hown, hts⟩ (c_L_ended_1 l hst G z ad M (n := n) (kd := kd) (fm := fm) (to := to) (sz := sz) (rl := rl) (en := en) (qa := qa) (qs := qs) (fw := fw) (q := t1) (i := t2) (of := of) fL f_0 f_99 w1 ht1 ht2) (vx_cwSW 5 hts (gSW (lwg_of t_888 rfl) (lwg_of t_889 rfl) (lwg_of t_0 rfl) (lwg_of t_890 rfl)) rfl rfl rfl (by decide +kernel) ⟨Nat.le_of_ble_eq_true rfl, Nat.le_of_ble_eq_true rfl⟩) hI.preS rfl rfl hl.1 rfl (lv_room (Nat.le_of_ble_eq_true rfl)) dL_law_933 ⟨(show _ ≤ (601024 : Nat) from by omega), (show _ ≤ (7293034 : Nat) from by omega)⟩) hI (fun r_656 M_658 H_659 locs_660 hp_657 hI => ?_)
          obtain ⟨hr_661, hm_662, hF_663⟩ := hp_657
          have hm_664 : M_658 0 = some (cStore ad qa qs fw) := by rw [hF_663 0 (by omega)]; exact f_0
          have hm_665 : M_658 1 = some (cTape ad len) := by rw [hF_663 1 (by omega)]; exact f_1
          have hm_666 : M_658 2 = some (aI G 400 (nF tb)) := by rw [hF_663 2 (by omega)]; exact f_2
          have hm_667 : M_658 3 = some (cLaws ad ) := by rw [hF_663 3 (by omega)]; exact f_3
          have hm_668 : M_658 4 = some (aI G 36 (nF le)) := by rw [hF_663 4 (by omega)]; exact f_4
          have hm_669 : M_658 5 = some (aI G 36 (nF mo)) := by rw [hF_663 5 (by omega)]; exact f_5
          have hm_670 : M_658 6 = some (aI G 36 (nF al)) := by rw [hF_663 6 (by omega)]; exact f_6
          have hm_671 : M_658 7 = some (aZ G 6 (bF ho)) := by rw [hF_663 7 (by omega)]; exact f_7
          have hm_672 : M_658 8 = some (cOnes ad jn) := by rw [hF_663 8 (by omega)]; exact f_8
          have hm_673 : M_658 9 = some (aI G 40 (nF hg)) := by rw [hF_663 9 (by omega)]; exact f_9
          have hm_674 : M_658 10 = some (aI G 40 (nF lst)) := by rw [hF_663 10 (by omega)]; exact f_10
          have hm_675 : M_658 11 = some (aI G 40 (nF jd)) := by rw [hF_663 11 (by omega)]; exact f_11
          have hm_676 : M_658 12 = some (cEnds ad 12 s0) := by rw [hF_663 12 (by omega)]; exact f_12
          have hm_677 : M_658 13 = some (aI G 6 (nF r0)) := by rw [hF_663 13 (by omega)]; exact f_13
          have hm_678 : M_658 14 = some (aI G 6 (oF th)) := by rw [hF_663 14 (by omega)]; exact f_14
          have hm_679 : M_658 15 = some (aI G 6 (oF ol)) := by rw [hF_663 15 (by omega)]; exact f_15
          have hm_680 : M_658 19 = some (aZ G 120 (bF mm9)) := by rw [hF_663 19 (by omega)]; exact f_19
          have hm_681 : M_658 20 = some (aI G 120 ff) := by rw [hF_663 20 (by omega)]; exact f_20
          have hm_682 : M_658 21 = some (aI G 120 lq) := by rw [hF_663 21 (by omega)]; exact f_21
          have hm_683 : M_658 22 = some (cReader ad ra rb rt rv) := by rw [hF_663 22 (by omega)]; exact f_22
          have hm_684 : M_658 23 = some (cMatcher ad qm pz) := by rw [hF_663 23 (by omega)]; exact f_23
          have hm_685 : M_658 24 = some (aJ G 2160 sx) := by rw [hF_663 24 (by omega)]; exact f_24
          have hm_686 : M_658 25 = some (aI G 6 (nF ft)) := by rw [hF_663 25 (by omega)]; exact f_25
          have hm_687 : M_658 26 = some (aJ G 240 rx) := by rw [hF_663 26 (by omega)]; exact f_26
          have hm_688 : M_658 27 = some (aJ G 3 dm) := by rw [hF_663 27 (by omega)]; exact f_27
          have hm_689 : M_658 28 = some (aI G 3 rc) := by rw [hF_663 28 (by omega)]; exact f_28
          have hm_690 : M_658 qa = some (cQuestion ad qa ao vr) := by rw [hF_663 qa (by omega)]; exact f_qa
          have hm_691 : M_658 (qa + 1) = some (aI G 6 (nF kn)) := by rw [hF_663 (qa + 1) (by omega)]; exact f_qa_1
          have hm_692 : M_658 (qa + 2) = some (aZ G 6 (bF nq)) := by rw [hF_663 (qa + 2) (by omega)]; exact f_qa_2
          have hm_693 : M_658 (qa + 3) = some (aI G 6 (nF pn)) := by rw [hF_663 (qa + 3) (by omega)]; exact f_qa_3
          have hm_694 : M_658 (qa + 4) = some (aI G 6 (nF av)) := by rw [hF_663 (qa + 4) (by omega)]; exact f_qa_4
          have hm_695 : M_658 (qa + 5) = some (aI G 24 (nF ro)) := by rw [hF_663 (qa + 5) (by omega)]; exact f_qa_5
          have hm_696 : M_658 (qa + 6) = some (aI G 24 (nF te)) := by rw [hF_663 (qa + 6) (by omega)]; exact f_qa_6
          have hm_697 : M_658 qs = some (cQuestion ad qs sq su) := by rw [hF_663 qs (by omega)]; exact f_qs
          have hm_698 : M_658 (qs + 1) = some (aI G 6 (nF kb)) := by rw [hF_663 (qs + 1) (by omega)]; exact f_qs_1
          have hm_699 : M_658 (qs + 2) = some (aZ G 6 (bF nb)) := by rw [hF_663 (qs + 2) (by omega)]; exact f_qs_2
          have hm_700 : M_658 (qs + 3) = some (aI G 6 (nF pb)) := by rw [hF_663 (qs + 3) (by omega)]; exact f_qs_3
          have hm_701 : M_658 (qs + 4) = some (aI G 6 (nF ab)) := by rw [hF_663 (qs + 4) (by omega)]; exact f_qs_4
          have hm_702 : M_658 (qs + 5) = some (aI G 24 (nF rbb)) := by rw [hF_663 (qs + 5) (by omega)]; exact f_qs_5
          have hm_703 : M_658 (qs + 6) = some (aI G 24 (nF tbb)) := by rw [hF_663 (qs + 6) (by omega)]; exact f_qs_6
          have hm_704 : M_658 60 = some (cModel ad tw n jn ao vr sn len pt zs bg fw) := by rw [hF_663 60 (by omega)]; exact f_60
          have hm_705 : M_658 61 = some (aI G 36 (nF le)) := by rw [hF_663 61 (by omega)]; exact f_61
          have hm_706 : M_658 62 = some (aI G 36 (nF mo)) := by rw [hF_663 62 (by omega)]; exact f_62
          have hm_707 : M_658 63 = some (aI G 36 (nF al)) := by rw [hF_663 63 (by omega)]; exact f_63
          have hm_708 : M_658 64 = some (aZ G 6 (bF ho)) := by rw [hF_663 64 (by omega)]; exact f_64
          have hm_709 : M_658 65 = some (aI G 120 (nF mk)) := by rw [hF_663 65 (by omega)]; exact f_65
          have hm_710 : M_658 66 = some (aI G 120 mf) := by rw [hF_663 66 (by omega)]; exact f_66
          have hm_711 : M_658 67 = some (aI G 120 mu) := by rw [hF_663 67 (by omega)]; exact f_67
          have hm_712 : M_658 68 = some (aI G 121 (nF mz)) := by rw [hF_663 68 (by omega)]; exact f_68
          have hm_713 : M_658 69 = some (aI G 726 (nF rr)) := by rw [hF_663 69 (by omega)]; exact f_69
          have hm_714 : M_658 70 = some (aI G 726 (nF ee)) := by rw [hF_663 70 (by omega)]; exact f_70
          have hm_715 : M_658 71 = some (aI G 40 (nF lst)) := by rw [hF_663 71 (by omega)]; exact f_71
          have hm_716 : M_658 72 = some (aI G 40 (nF oa)) := by rw [hF_663 72 (by omega)]; exact f_72
          have hm_717 : M_658 73 = some (aI G 40 (nF ob)) := by rw [hF_663 73 (by omega)]; exact f_73
          have hm_718 : M_658 74 = some (aI G 120 s74) := by rw [hF_663 74 (by omega)]; exact f_74
          have hm_719 : M_658 75 = some (aI G 12 ak) := by rw [hF_663 75 (by omega)]; exact f_75
          have hm_720 : M_658 76 = some (aZ G 12 (bF nm)) := by rw [hF_663 76 (by omega)]; exact f_76
          have hm_721 : M_658 77 = some (aI G 12 (nF ap)) := by rw [hF_663 77 (by omega)]; exact f_77
          have hm_722 : M_658 78 = some (aI G 48 pr) := by rw [hF_663 78 (by omega)]; exact f_78
          have hm_723 : M_658 79 = some (aI G 48 pf) := by rw [hF_663 79 (by omega)]; exact f_79
          have hm_724 : M_658 80 = some (aB G 400 tf) := by rw [hF_663 80 (by omega)]; exact f_80
          have hm_725 : M_658 81 = some (aI G 5 fv) := by rw [hF_663 81 (by omega)]; exact f_81
          have hm_726 : M_658 82 = some (aZ G 384000 (bF tr)) := by rw [hF_663 82 (by omega)]; exact f_82
          have hm_727 : M_658 83 = some (aI G 3 (oF gv)) := by rw [hF_663 83 (by omega)]; exact f_83
          have hm_728 : M_658 84 = some (aI G 3 fo) := by rw [hF_663 84 (by omega)]; exact f_84
          have hm_729 : M_658 85 = some (aZ G 40 (bF re)) := by rw [hF_663 85 (by omega)]; exact f_85
          have hm_730 : M_658 86 = some (aZ G 120 (bF us)) := by rw [hF_663 86 (by omega)]; exact f_86
          have hm_731 : M_658 87 = some (aZ G 120 (bF nx)) := by rw [hF_663 87 (by omega)]; exact f_87
          have hm_732 : M_658 16 = some (cLines ad ) := by rw [hF_663 16 (by omega)]; exact h16
          have hL_733 : LSm G ad M_658 n kd fm to sz rl en := fL.keep (fun j hj => hF_663 j (by omega))
          have hF_734 : ∀ j : Nat, j ≠ 99 → M_658 j = M j := fun j q0 => (hF_663 j q0)
          rw [hr_661]
          refine lv_istore (lv' := [(5, .int (nI 0)), (0, .ref b), (1, .ref (ad 0)), (2, .ref (ad 60)), (3, .ref (ad 99)), (4, .int (nI i))]) hx hb dL_law_936 hl (by decide) rfl (fun ls hl => ?_)
          refine lv_aload_n hx hb dL_law_938 rfl (lv_at hl 3 rfl) ?_
          refine lv_aload_n hx hb dL_law_939 rfl (lv_at hl 1 rfl) ?_
          refine lv_iload hx hb dL_law_940 (lv_at hl 5 rfl) ?_
          refine lv_iconst (v := nI 1) hx hb dL_law_942 (by decide) ?_
          refine lv_iadd hx hb dL_law_943 ?_
          refine n_eq (nI_add i 1) ?_
          refine va_sld (A := fr z) hx hb hX hbl hbz hI.S (vp_in_nI (n := i + 1) (by omega) (by omega)) dL_law_944 ?_
          rw [nI_clamp (by omega)]
          refine n_eq (show _ = nI t1 from et1) ?_
          refine lv_aload_n hx hb dL_law_945 rfl (lv_at hl 1 rfl) ?_
          refine lv_iload hx hb dL_law_946 (lv_at hl 5 rfl) ?_
          refine lv_iconst (v := nI 2) hx hb dL_law_948 (by decide) ?_
          refine lv_iadd hx hb dL_law_949 ?_
          refine n_eq (nI_add i 2) ?_
          refine va_sld (A := fr z) hx hb hX hbl hbz hI.S (vp_in_nI (n := i + 2) (by omega) (by omega)) dL_law_950 ?_
          rw [nI_clamp (by omega)]
          refine n_eq (show _ = nI t2 from et2) ?_
          refine lv_aload_n hx hb dL_law_951 rfl (lv_at hl 1 rfl) ?_
          refine lv_iload hx hb dL_law_952 (lv_at hl 5 rfl) ?_
          refine lv_iconst (v := nI 3) hx hb dL_law_954 (by decide) ?_
          refine lv_iadd hx hb dL_law_955 ?_
          refine n_eq (nI_add i 3) ?_
          refine va_sld (A := fr z) hx hb hX hbl hbz hI.S (vp_in_nI (n := i + 3) (by omega) (by omega)) dL_law_956 ?_
          rw [nI_clamp (by omega)]
          refine n_eq (show _ = nI 1 from et3.trans (congrArg nI hc_491)) ?_
          refine k_Ni (va_runV (As := [.int (nI t1), .int (nI t2), .int (nI 1)]) (rest := []) ⟨hx, hb, hml, hown, hts⟩ (c_X10_ended_1 l G z ad M_658 (th := tw) (on := jn) (ao := ao) (vr := vr) (sn := sn) (tp := len) (pt := pt) (zs := zs) (bg := bg) (fa := fw) (n := n) (kd := kd) (fm := fm) (to := to) (sz := sz) (rl := rl) (en := en) (mk := mk) (mf := mf) (mu := mu) (mz := mz) (rr := rr) (ee := ee) (q := t1) (i := t2) hm_704 hm_712 hm_713 hm_714 w1 w2 ht1 ht2) (cwV 3 hts (gV (lwg_of t_1197 rfl) (lwg_of t_1198 rfl) (lwg_of t_1199 rfl) (lwg_of t_13 rfl) (lwg_of t_1200 rfl)) rfl rfl rfl (by decide +kernel) ⟨Nat.le_of_ble_eq_true rfl, Nat.le_of_ble_eq_true rfl⟩) (hI.preV hm_704 rfl) rfl rfl hl.1 rfl (lv_room (Nat.le_of_ble_eq_true rfl)) dL_law_957 ⟨(show _ ≤ (601024 : Nat) from by omega), (show _ ≤ (7293034 : Nat) from by omega)⟩) hI (fun r_735 M_737 H_738 locs_739 hp_736 hI => ?_)
          obtain ⟨hr_740, hm_741, hF_742⟩ := hp_736
          have hm_743 : M_737 0 = some (cStore ad qa qs fw) := by rw [hF_742 0 (by omega)]; exact hm_664
          have hm_744 : M_737 1 = some (cTape ad len) := by rw [hF_742 1 (by omega)]; exact hm_665
          have hm_745 : M_737 2 = some (aI G 400 (nF tb)) := by rw [hF_742 2 (by omega)]; exact hm_666
          have hm_746 : M_737 3 = some (cLaws ad ) := by rw [hF_742 3 (by omega)]; exact hm_667
          have hm_747 : M_737 4 = some (aI G 36 (nF le)) := by rw [hF_742 4 (by omega)]; exact hm_668
          have hm_748 : M_737 5 = some (aI G 36 (nF mo)) := by rw [hF_742 5 (by omega)]; exact hm_669
          have hm_749 : M_737 6 = some (aI G 36 (nF al)) := by rw [hF_742 6 (by omega)]; exact hm_670
          have hm_750 : M_737 7 = some (aZ G 6 (bF ho)) := by rw [hF_742 7 (by omega)]; exact hm_671
          have hm_751 : M_737 8 = some (cOnes ad jn) := by rw [hF_742 8 (by omega)]; exact hm_672
          have hm_752 : M_737 9 = some (aI G 40 (nF hg)) := by rw [hF_742 9 (by omega)]; exact hm_673
          have hm_753 : M_737 10 = some (aI G 40 (nF lst)) := by rw [hF_742 10 (by omega)]; exact hm_674
          have hm_754 : M_737 11 = some (aI G 40 (nF jd)) := by rw [hF_742 11 (by omega)]; exact hm_675
          have hm_755 : M_737 12 = some (cEnds ad 12 s0) := by rw [hF_742 12 (by omega)]; exact hm_676
          have hm_756 : M_737 13 = some (aI G 6 (nF r0)) := by rw [hF_742 13 (by omega)]; exact hm_677
          have hm_757 : M_737 14 = some (aI G 6 (oF th)) := by rw [hF_742 14 (by omega)]; exact hm_678
          have hm_758 : M_737 15 = some (aI G 6 (oF ol)) := by rw [hF_742 15 (by omega)]; exact hm_679
          have hm_759 : M_737 19 = some (aZ G 120 (bF mm9)) := by rw [hF_742 19 (by omega)]; exact hm_680
          have hm_760 : M_737 20 = some (aI G 120 ff) := by rw [hF_742 20 (by omega)]; exact hm_681
          have hm_761 : M_737 21 = some (aI G 120 lq) := by rw [hF_742 21 (by omega)]; exact hm_682
          have hm_762 : M_737 22 = some (cReader ad ra rb rt rv) := by rw [hF_742 22 (by omega)]; exact hm_683
          have hm_763 : M_737 23 = some (cMatcher ad qm pz) := by rw [hF_742 23 (by omega)]; exact hm_684
          have hm_764 : M_737 24 = some (aJ G 2160 sx) := by rw [hF_742 24 (by omega)]; exact hm_685
          have hm_765 : M_737 25 = some (aI G 6 (nF ft)) := by rw [hF_742 25 (by omega)]; exact hm_686
          have hm_766 : M_737 26 = some (aJ G 240 rx) := by rw [hF_742 26 (by omega)]; exact hm_687
          have hm_767 : M_737 27 = some (aJ G 3 dm) := by rw [hF_742 27 (by omega)]; exact hm_688
          have hm_768 : M_737 28 = some (aI G 3 rc) := by rw [hF_742 28 (by omega)]; exact hm_689
          have hm_769 : M_737 qa = some (cQuestion ad qa ao vr) := by rw [hF_742 qa (by omega)]; exact hm_690
          have hm_770 : M_737 (qa + 1) = some (aI G 6 (nF kn)) := by rw [hF_742 (qa + 1) (by omega)]; exact hm_691
          have hm_771 : M_737 (qa + 2) = some (aZ G 6 (bF nq)) := by rw [hF_742 (qa + 2) (by omega)]; exact hm_692
          have hm_772 : M_737 (qa + 3) = some (aI G 6 (nF pn)) := by rw [hF_742 (qa + 3) (by omega)]; exact hm_693
          have hm_773 : M_737 (qa + 4) = some (aI G 6 (nF av)) := by rw [hF_742 (qa + 4) (by omega)]; exact hm_694
          have hm_774 : M_737 (qa + 5) = some (aI G 24 (nF ro)) := by rw [hF_742 (qa + 5) (by omega)]; exact hm_695
          have hm_775 : M_737 (qa + 6) = some (aI G 24 (nF te)) := by rw [hF_742 (qa + 6) (by omega)]; exact hm_696
          have hm_776 : M_737 qs = some (cQuestion ad qs sq su) := by rw [hF_742 qs (by omega)]; exact hm_697
          have hm_777 : M_737 (qs + 1) = some (aI G 6 (nF kb)) := by rw [hF_742 (qs + 1) (by omega)]; exact hm_698
          have hm_778 : M_737 (qs + 2) = some (aZ G 6 (bF nb)) := by rw [hF_742 (qs + 2) (by omega)]; exact hm_699
          have hm_779 : M_737 (qs + 3) = some (aI G 6 (nF pb)) := by rw [hF_742 (qs + 3) (by omega)]; exact hm_700
          have hm_780 : M_737 (qs + 4) = some (aI G 6 (nF ab)) := by rw [hF_742 (qs + 4) (by omega)]; exact hm_701
          have hm_781 : M_737 (qs + 5) = some (aI G 24 (nF rbb)) := by rw [hF_742 (qs + 5) (by omega)]; exact hm_702
          have hm_782 : M_737 (qs + 6) = some (aI G 24 (nF tbb)) := by rw [hF_742 (qs + 6) (by omega)]; exact hm_703
          have hm_783 : M_737 61 = some (aI G 36 (nF le)) := by rw [hF_742 61 (by omega)]; exact hm_705
          have hm_784 : M_737 62 = some (aI G 36 (nF mo)) := by rw [hF_742 62 (by omega)]; exact hm_706
          have hm_785 : M_737 63 = some (aI G 36 (nF al)) := by rw [hF_742 63 (by omega)]; exact hm_707
          have hm_786 : M_737 64 = some (aZ G 6 (bF ho)) := by rw [hF_742 64 (by omega)]; exact hm_708
          have hm_787 : M_737 65 = some (aI G 120 (nF mk)) := by rw [hF_742 65 (by omega)]; exact hm_709
          have hm_788 : M_737 66 = some (aI G 120 mf) := by rw [hF_742 66 (by omega)]; exact hm_710
          have hm_789 : M_737 67 = some (aI G 120 mu) := by rw [hF_742 67 (by omega)]; exact hm_711
          have hm_790 : M_737 68 = some (aI G 121 (nF mz)) := by rw [hF_742 68 (by omega)]; exact hm_712
          have hm_791 : M_737 69 = some (aI G 726 (nF rr)) := by rw [hF_742 69 (by omega)]; exact hm_713
          have hm_792 : M_737 70 = some (aI G 726 (nF ee)) := by rw [hF_742 70 (by omega)]; exact hm_714
          have hm_793 : M_737 71 = some (aI G 40 (nF lst)) := by rw [hF_742 71 (by omega)]; exact hm_715
          have hm_794 : M_737 72 = some (aI G 40 (nF oa)) := by rw [hF_742 72 (by omega)]; exact hm_716
          have hm_795 : M_737 73 = some (aI G 40 (nF ob)) := by rw [hF_742 73 (by omega)]; exact hm_717
          have hm_796 : M_737 74 = some (aI G 120 s74) := by rw [hF_742 74 (by omega)]; exact hm_718
          have hm_797 : M_737 75 = some (aI G 12 ak) := by rw [hF_742 75 (by omega)]; exact hm_719
          have hm_798 : M_737 76 = some (aZ G 12 (bF nm)) := by rw [hF_742 76 (by omega)]; exact hm_720
          have hm_799 : M_737 77 = some (aI G 12 (nF ap)) := by rw [hF_742 77 (by omega)]; exact hm_721
          have hm_800 : M_737 78 = some (aI G 48 pr) := by rw [hF_742 78 (by omega)]; exact hm_722
          have hm_801 : M_737 79 = some (aI G 48 pf) := by rw [hF_742 79 (by omega)]; exact hm_723
          have hm_802 : M_737 80 = some (aB G 400 tf) := by rw [hF_742 80 (by omega)]; exact hm_724
          have hm_803 : M_737 81 = some (aI G 5 fv) := by rw [hF_742 81 (by omega)]; exact hm_725
          have hm_804 : M_737 82 = some (aZ G 384000 (bF tr)) := by rw [hF_742 82 (by omega)]; exact hm_726
          have hm_805 : M_737 83 = some (aI G 3 (oF gv)) := by rw [hF_742 83 (by omega)]; exact hm_727
          have hm_806 : M_737 84 = some (aI G 3 fo) := by rw [hF_742 84 (by omega)]; exact hm_728
          have hm_807 : M_737 85 = some (aZ G 40 (bF re)) := by rw [hF_742 85 (by omega)]; exact hm_729
          have hm_808 : M_737 86 = some (aZ G 120 (bF us)) := by rw [hF_742 86 (by omega)]; exact hm_730
          have hm_809 : M_737 87 = some (aZ G 120 (bF nx)) := by rw [hF_742 87 (by omega)]; exact hm_731
          have hm_810 : M_737 99 = some (aJ G 1 (vp_updL of 0 ((oI (thE (en t1) t2)).toInt64))) := by rw [hF_742 99 (by omega)]; exact hm_662
          have hm_811 : M_737 16 = some (cLines ad ) := by rw [hF_742 16 (by omega)]; exact hm_732
          have hL_812 : LSm G ad M_737 n kd fm to sz rl en := hL_733.keep (fun j hj => hF_742 j (by omega))
          have hF_813 : ∀ j : Nat, j ≠ 99 → j ≠ 60 → M_737 j = M j := fun j q0 q1 => (hF_742 j q1).trans (hF_734 j q0)
          rw [hr_740]
          refine lv_istore (lv' := [(6, .int (oI (thE (en t1) t2))), (5, .int (nI 0)), (0, .ref b), (1, .ref (ad 0)), (2, .ref (ad 60)), (3, .ref (ad 99)), (4, .int (nI i))]) hx hb dL_law_960 hl (by decide) rfl (fun ls hl => ?_)
          refine lv_aload_n hx hb dL_law_962 rfl (lv_at hl 4 rfl) ?_
          refine k_Ri (va_runV (As := []) (rest := []) ⟨hx, hb, hml, hown, hts⟩ (c_X10_thrown l G z ad M_737 (th := 0) (ln := n) (on := jn) (ao := ao) (vr := vr) (sn := sn) (tp := len) (pt := pt) (zs := zs) (bg := bg) (fa := fw) hm_741) (cwV 0 hts (gV (lwg_of t_997 rfl) (lwg_of t_998 rfl) (lwg_of t_999 rfl) (lwg_of t_13 rfl) (lwg_of t_1000 rfl)) rfl rfl rfl (by decide +kernel) ⟨Nat.le_of_ble_eq_true rfl, Nat.le_of_ble_eq_true rfl⟩) (hI.preV hm_741 rfl) rfl rfl hl.1 rfl (lv_room (Nat.le_of_ble_eq_true rfl)) dL_law_963 ⟨(show _ ≤ (601024 : Nat) from by omega), (show _ ≤ (7293034 : Nat) from by omega)⟩) (fun _ h => h) (fun r_814 hp_815 => ?_)
          rw [hp_815]
          refine lv_iload hx hb dL_law_966 (lv_at hl 1 rfl) ?_
          refine lv_icmp_eq (tgt := 973) hx hb dL_law_968 (by decide) (fun c_816 => ?_) (fun c_816 => ?_)
          · -- 968: nI 0 eq
            refine lv_iload hx hb dL_law_973 (lv_at hl 1 rfl) ?_
            refine lv_if_ne (tgt := 990) hx hb dL_law_975 (by decide) (fun c_817 => ?_) (fun c_817 => ?_)
            · -- 975: nI 0 ne
              exact absurd (by decide) c_817
            · -- 975: nI 0 eq
              refine lv_aload_n hx hb dL_law_978 rfl (lv_at hl 5 rfl) ?_
              refine lv_iconst (v := nI 0) hx hb dL_law_979 (by decide) ?_
              refine h_lald (i := 0) hx hb hI hm_810 (by omega) (by decide) dL_law_980 ?_
              refine n_eql (show _ = (oI (thE (en t1) t2)).toInt64 from updL_0) ?_
              refine lv_iload hx hb dL_law_981 (lv_at hl 0 rfl) ?_
              refine lv_i2l (v := (oI (thE (en t1) t2)).toInt64) hx hb dL_law_983 rfl ?_
              refine W.lcmp hx hb dL_law_984 ?_
              refine lv_if_eq (tgt := 990) hx hb dL_law_985 (by decide) (fun c_818 => ?_) (fun c_818 => ?_)
              · -- 985: lg_cmp ((oI (thE (en t1) t2)).toInt64) ((oI (thE (en t1) t2) eq
                have c_818 : (oI (thE (en t1) t2)).toInt64 = (oI (thE (en t1) t2)).toInt64 := (lg_cmp_eq _ _).mp c_818
                refine lv_goto (tgt := 1333) hx hb dL_law_990 (by decide) ?_
                refine W.widen (k := cz + 10) (n := sy + 300) (by omega) (by omega) ?_
                exact kk ad M_737 H_738 locs_739 ls n kd fm to sz rl en qa qs fw len tb le mo al ho jn hg lst jd s0 r0 th ol e0 mm9 ff lq ra rb rt rv qm pz sx ft rx dm rc ao vr kn nq pn av ro te sq su kb nb pb ab rbb tbb 0 sn pt zs bg mk mf mu mz rr ee oa ob s74 ak nm ap pr pf tf fv tr gv fo re us nx (vp_updL of 0 ((oI (thE (en t1) t2)).toInt64)) hL_812 w1 w2 w3 w4 w5 w6 w7 w8 w9 w10 w11 w12 w13 w14 w15 w16 w17 w18 w19 w20 w21 w22 w23 w24 w25 w26 w27 w28 w29 (fun h9 => by rw [hF_813 17 (by omega) (by omega), hF_813 18 (by omega) (by omega)]; exact w30 h9) (by rw [hF_813 29 (by omega) (by omega)]; exact w31) (fun j9 h9 => by rw [hF_813 j9 (by omega) (by omega)]; exact w32 j9 h9) hm_743 hm_744 hm_745 hm_746 hm_747 hm_748 hm_749 hm_750 hm_751 hm_752 hm_753 hm_754 hm_755 hm_756 hm_757 hm_758 hm_759 hm_760 hm_761 hm_762 hm_763 hm_764 hm_765 hm_766 hm_767 hm_768 hm_769 hm_770 hm_771 hm_772 hm_773 hm_774 hm_775 hm_776 hm_777 hm_778 hm_779 hm_780 hm_781 hm_782 hm_741 hm_783 hm_784 hm_785 hm_786 hm_787 hm_788 hm_789 hm_790 hm_791 hm_792 hm_793 hm_794 hm_795 hm_796 hm_797 hm_798 hm_799 hm_800 hm_801 hm_802 hm_803 hm_804 hm_805 hm_806 hm_807 hm_808 hm_809 hm_810 hI (lv_sub hl [2, 3, 4, 5, 6] rfl)
              · -- 985: lg_cmp ((oI (thE (en t1) t2)).toInt64) ((oI (thE (en t1) t2) ne
                have c_818 : (oI (thE (en t1) t2)).toInt64 ≠ (oI (thE (en t1) t2)).toInt64 := (fun h => c_818 ((lg_cmp_eq _ _).mpr h))
                exact absurd rfl c_818
          · -- 968: nI 0 ne
            exact absurd (by decide) c_816
        · skip
          refine lv_iconst (v := nI 1) hx hb dL_law_917 (by decide) ?_
          refine lv_iadd hx hb dL_law_918 ?_
          refine n_eq (nI_add i 1) ?_
          refine va_sld (A := fr z) hx hb hX hbl hbz hI.S (vp_in_nI (n := i + 1) (by omega) (by omega)) dL_law_919 ?_
          rw [nI_clamp (by omega)]
          refine n_eq (show _ = nI t1 from et1) ?_
          refine lv_aload_n hx hb dL_law_920 rfl (lv_at hl 0 rfl) ?_
          refine lv_iload hx hb dL_law_921 (lv_at hl 4 rfl) ?_
          refine lv_iconst (v := nI 2) hx hb dL_law_923 (by decide) ?_
          refine lv_iadd hx hb dL_law_924 ?_
          refine n_eq (nI_add i 2) ?_
          refine va_sld (A := fr z) hx hb hX hbl hbz hI.S (vp_in_nI (n := i + 2) (by omega) (by omega)) dL_law_925 ?_
          rw [nI_clamp (by omega)]
          refine n_eq (show _ = nI t2 from et2) ?_
          refine lv_aload_n hx hb dL_law_926 rfl (lv_at hl 0 rfl) ?_
          refine lv_iload hx hb dL_law_927 (lv_at hl 4 rfl) ?_
          refine lv_iconst (v := nI 3) hx hb dL_law_929 (by decide) ?_
          refine lv_iadd hx hb dL_law_930 ?_
          refine n_eq (nI_add i 3) ?_
          refine va_sld (A := fr z) hx hb hX hbl hbz hI.S (vp_in_nI (n := i + 3) (by omega) (by omega)) dL_law_931 ?_
          rw [nI_clamp (by omega)]
          refine n_eq (show _ = nI 2 from et3.trans (congrArg nI hc_492)) ?_
          refine lv_aload_n hx hb dL_law_932 rfl (lv_at hl 3 rfl) ?_
          refine k_Ni (vx_runSW (As := [.ref (ad 0), .int (nI t1), .int (nI t2), .int (nI 2), .ref (ad 99)]) (rest := []) ⟨hx, hb, hml, hown, hts⟩ (c_L_ended_2 l hst G z ad M (n := n) (kd := kd) (fm := fm) (to := to) (sz := sz) (rl := rl) (en := en) (qa := qa) (qs := qs) (fw := fw) (q := t1) (i := t2) (of := of) fL f_0 f_99 w1 ht1 ht2) (vx_cwSW 5 hts (gSW (lwg_of t_888 rfl) (lwg_of t_889 rfl) (lwg_of t_0 rfl) (lwg_of t_890 rfl)) rfl rfl rfl (by decide +kernel) ⟨Nat.le_of_ble_eq_true rfl, Nat.le_of_ble_eq_true rfl⟩) hI.preS rfl rfl hl.1 rfl (lv_room (Nat.le_of_ble_eq_true rfl)) dL_law_933 ⟨(show _ ≤ (601024 : Nat) from by omega), (show _ ≤ (7293034 : Nat) from by omega)⟩) hI (fun r_819 M_821 H_822 locs_823 hp_820 hI => ?_)
          obtain ⟨hr_824, hm_825, hF_826⟩ := hp_820
          have hm_827 : M_821 0 = some (cStore ad qa qs fw) := by rw [hF_826 0 (by omega)]; exact f_0
          have hm_828 : M_821 1 = some (cTape ad len) := by rw [hF_826 1 (by omega)]; exact f_1
          have hm_829 : M_821 2 = some (aI G 400 (nF tb)) := by rw [hF_826 2 (by omega)]; exact f_2
          have hm_830 : M_821 3 = some (cLaws ad ) := by rw [hF_826 3 (by omega)]; exact f_3
          have hm_831 : M_821 4 = some (aI G 36 (nF le)) := by rw [hF_826 4 (by omega)]; exact f_4
          have hm_832 : M_821 5 = some (aI G 36 (nF mo)) := by rw [hF_826 5 (by omega)]; exact f_5
          have hm_833 : M_821 6 = some (aI G 36 (nF al)) := by rw [hF_826 6 (by omega)]; exact f_6
          have hm_834 : M_821 7 = some (aZ G 6 (bF ho)) := by rw [hF_826 7 (by omega)]; exact f_7
          have hm_835 : M_821 8 = some (cOnes ad jn) := by rw [hF_826 8 (by omega)]; exact f_8
          have hm_836 : M_821 9 = some (aI G 40 (nF hg)) := by rw [hF_826 9 (by omega)]; exact f_9
          have hm_837 : M_821 10 = some (aI G 40 (nF lst)) := by rw [hF_826 10 (by omega)]; exact f_10
          have hm_838 : M_821 11 = some (aI G 40 (nF jd)) := by rw [hF_826 11 (by omega)]; exact f_11
          have hm_839 : M_821 12 = some (cEnds ad 12 s0) := by rw [hF_826 12 (by omega)]; exact f_12
          have hm_840 : M_821 13 = some (aI G 6 (nF r0)) := by rw [hF_826 13 (by omega)]; exact f_13
          have hm_841 : M_821 14 = some (aI G 6 (oF th)) := by rw [hF_826 14 (by omega)]; exact f_14
          have hm_842 : M_821 15 = some (aI G 6 (oF ol)) := by rw [hF_826 15 (by omega)]; exact f_15
          have hm_843 : M_821 19 = some (aZ G 120 (bF mm9)) := by rw [hF_826 19 (by omega)]; exact f_19
          have hm_844 : M_821 20 = some (aI G 120 ff) := by rw [hF_826 20 (by omega)]; exact f_20
          have hm_845 : M_821 21 = some (aI G 120 lq) := by rw [hF_826 21 (by omega)]; exact f_21
          have hm_846 : M_821 22 = some (cReader ad ra rb rt rv) := by rw [hF_826 22 (by omega)]; exact f_22
          have hm_847 : M_821 23 = some (cMatcher ad qm pz) := by rw [hF_826 23 (by omega)]; exact f_23
          have hm_848 : M_821 24 = some (aJ G 2160 sx) := by rw [hF_826 24 (by omega)]; exact f_24
          have hm_849 : M_821 25 = some (aI G 6 (nF ft)) := by rw [hF_826 25 (by omega)]; exact f_25
          have hm_850 : M_821 26 = some (aJ G 240 rx) := by rw [hF_826 26 (by omega)]; exact f_26
          have hm_851 : M_821 27 = some (aJ G 3 dm) := by rw [hF_826 27 (by omega)]; exact f_27
          have hm_852 : M_821 28 = some (aI G 3 rc) := by rw [hF_826 28 (by omega)]; exact f_28
          have hm_853 : M_821 qa = some (cQuestion ad qa ao vr) := by rw [hF_826 qa (by omega)]; exact f_qa
          have hm_854 : M_821 (qa + 1) = some (aI G 6 (nF kn)) := by rw [hF_826 (qa + 1) (by omega)]; exact f_qa_1
          have hm_855 : M_821 (qa + 2) = some (aZ G 6 (bF nq)) := by rw [hF_826 (qa + 2) (by omega)]; exact f_qa_2
          have hm_856 : M_821 (qa + 3) = some (aI G 6 (nF pn)) := by rw [hF_826 (qa + 3) (by omega)]; exact f_qa_3
          have hm_857 : M_821 (qa + 4) = some (aI G 6 (nF av)) := by rw [hF_826 (qa + 4) (by omega)]; exact f_qa_4
          have hm_858 : M_821 (qa + 5) = some (aI G 24 (nF ro)) := by rw [hF_826 (qa + 5) (by omega)]; exact f_qa_5
          have hm_859 : M_821 (qa + 6) = some (aI G 24 (nF te)) := by rw [hF_826 (qa + 6) (by omega)]; exact f_qa_6
          have hm_860 : M_821 qs = some (cQuestion ad qs sq su) := by rw [hF_826 qs (by omega)]; exact f_qs
          have hm_861 : M_821 (qs + 1) = some (aI G 6 (nF kb)) := by rw [hF_826 (qs + 1) (by omega)]; exact f_qs_1
          have hm_862 : M_821 (qs + 2) = some (aZ G 6 (bF nb)) := by rw [hF_826 (qs + 2) (by omega)]; exact f_qs_2
          have hm_863 : M_821 (qs + 3) = some (aI G 6 (nF pb)) := by rw [hF_826 (qs + 3) (by omega)]; exact f_qs_3
          have hm_864 : M_821 (qs + 4) = some (aI G 6 (nF ab)) := by rw [hF_826 (qs + 4) (by omega)]; exact f_qs_4
          have hm_865 : M_821 (qs + 5) = some (aI G 24 (nF rbb)) := by rw [hF_826 (qs + 5) (by omega)]; exact f_qs_5
          have hm_866 : M_821 (qs + 6) = some (aI G 24 (nF tbb)) := by rw [hF_826 (qs + 6) (by omega)]; exact f_qs_6
          have hm_867 : M_821 60 = some (cModel ad tw n jn ao vr sn len pt zs bg fw) := by rw [hF_826 60 (by omega)]; exact f_60
          have hm_868 : M_821 61 = some (aI G 36 (nF le)) := by rw [hF_826 61 (by omega)]; exact f_61
          have hm_869 : M_821 62 = some (aI G 36 (nF mo)) := by rw [hF_826 62 (by omega)]; exact f_62
          have hm_870 : M_821 63 = some (aI G 36 (nF al)) := by rw [hF_826 63 (by omega)]; exact f_63
          have hm_871 : M_821 64 = some (aZ G 6 (bF ho)) := by rw [hF_826 64 (by omega)]; exact f_64
          have hm_872 : M_821 65 = some (aI G 120 (nF mk)) := by rw [hF_826 65 (by omega)]; exact f_65
          have hm_873 : M_821 66 = some (aI G 120 mf) := by rw [hF_826 66 (by omega)]; exact f_66
          have hm_874 : M_821 67 = some (aI G 120 mu) := by rw [hF_826 67 (by omega)]; exact f_67
          have hm_875 : M_821 68 = some (aI G 121 (nF mz)) := by rw [hF_826 68 (by omega)]; exact f_68
          have hm_876 : M_821 69 = some (aI G 726 (nF rr)) := by rw [hF_826 69 (by omega)]; exact f_69
          have hm_877 : M_821 70 = some (aI G 726 (nF ee)) := by rw [hF_826 70 (by omega)]; exact f_70
          have hm_878 : M_821 71 = some (aI G 40 (nF lst)) := by rw [hF_826 71 (by omega)]; exact f_71
          have hm_879 : M_821 72 = some (aI G 40 (nF oa)) := by rw [hF_826 72 (by omega)]; exact f_72
          have hm_880 : M_821 73 = some (aI G 40 (nF ob)) := by rw [hF_826 73 (by omega)]; exact f_73
          have hm_881 : M_821 74 = some (aI G 120 s74) := by rw [hF_826 74 (by omega)]; exact f_74
          have hm_882 : M_821 75 = some (aI G 12 ak) := by rw [hF_826 75 (by omega)]; exact f_75
          have hm_883 : M_821 76 = some (aZ G 12 (bF nm)) := by rw [hF_826 76 (by omega)]; exact f_76
          have hm_884 : M_821 77 = some (aI G 12 (nF ap)) := by rw [hF_826 77 (by omega)]; exact f_77
          have hm_885 : M_821 78 = some (aI G 48 pr) := by rw [hF_826 78 (by omega)]; exact f_78
          have hm_886 : M_821 79 = some (aI G 48 pf) := by rw [hF_826 79 (by omega)]; exact f_79
          have hm_887 : M_821 80 = some (aB G 400 tf) := by rw [hF_826 80 (by omega)]; exact f_80
          have hm_888 : M_821 81 = some (aI G 5 fv) := by rw [hF_826 81 (by omega)]; exact f_81
          have hm_889 : M_821 82 = some (aZ G 384000 (bF tr)) := by rw [hF_826 82 (by omega)]; exact f_82
          have hm_890 : M_821 83 = some (aI G 3 (oF gv)) := by rw [hF_826 83 (by omega)]; exact f_83
          have hm_891 : M_821 84 = some (aI G 3 fo) := by rw [hF_826 84 (by omega)]; exact f_84
          have hm_892 : M_821 85 = some (aZ G 40 (bF re)) := by rw [hF_826 85 (by omega)]; exact f_85
          have hm_893 : M_821 86 = some (aZ G 120 (bF us)) := by rw [hF_826 86 (by omega)]; exact f_86
          have hm_894 : M_821 87 = some (aZ G 120 (bF nx)) := by rw [hF_826 87 (by omega)]; exact f_87
          have hm_895 : M_821 16 = some (cLines ad ) := by rw [hF_826 16 (by omega)]; exact h16
          have hL_896 : LSm G ad M_821 n kd fm to sz rl en := fL.keep (fun j hj => hF_826 j (by omega))
          have hF_897 : ∀ j : Nat, j ≠ 99 → M_821 j = M j := fun j q0 => (hF_826 j q0)
          rw [hr_824]
          refine lv_istore (lv' := [(5, .int (nI 0)), (0, .ref b), (1, .ref (ad 0)), (2, .ref (ad 60)), (3, .ref (ad 99)), (4, .int (nI i))]) hx hb dL_law_936 hl (by decide) rfl (fun ls hl => ?_)
          refine lv_aload_n hx hb dL_law_938 rfl (lv_at hl 3 rfl) ?_
          refine lv_aload_n hx hb dL_law_939 rfl (lv_at hl 1 rfl) ?_
          refine lv_iload hx hb dL_law_940 (lv_at hl 5 rfl) ?_
          refine lv_iconst (v := nI 1) hx hb dL_law_942 (by decide) ?_
          refine lv_iadd hx hb dL_law_943 ?_
          refine n_eq (nI_add i 1) ?_
          refine va_sld (A := fr z) hx hb hX hbl hbz hI.S (vp_in_nI (n := i + 1) (by omega) (by omega)) dL_law_944 ?_
          rw [nI_clamp (by omega)]
          refine n_eq (show _ = nI t1 from et1) ?_
          refine lv_aload_n hx hb dL_law_945 rfl (lv_at hl 1 rfl) ?_
          refine lv_iload hx hb dL_law_946 (lv_at hl 5 rfl) ?_
          refine lv_iconst (v := nI 2) hx hb dL_law_948 (by decide) ?_
          refine lv_iadd hx hb dL_law_949 ?_
          refine n_eq (nI_add i 2) ?_
          refine va_sld (A := fr z) hx hb hX hbl hbz hI.S (vp_in_nI (n := i + 2) (by omega) (by omega)) dL_law_950 ?_
          rw [nI_clamp (by omega)]
          refine n_eq (show _ = nI t2 from et2) ?_
          refine lv_aload_n hx hb dL_law_951 rfl (lv_at hl 1 rfl) ?_
          refine lv_iload hx hb dL_law_952 (lv_at hl 5 rfl) ?_
          refine lv_iconst (v := nI 3) hx hb dL_law_954 (by decide) ?_
          refine lv_iadd hx hb dL_law_955 ?_
          refine n_eq (nI_add i 3) ?_
          refine va_sld (A := fr z) hx hb hX hbl hbz hI.S (vp_in_nI (n := i + 3) (by omega) (by omega)) dL_law_956 ?_
          rw [nI_clamp (by omega)]
          refine n_eq (show _ = nI 2 from et3.trans (congrArg nI hc_492)) ?_
          refine k_Ni (va_runV (As := [.int (nI t1), .int (nI t2), .int (nI 2)]) (rest := []) ⟨hx, hb, hml, hown, hts⟩ (c_X10_ended_2 l G z ad M_821 (th := tw) (on := jn) (ao := ao) (vr := vr) (sn := sn) (tp := len) (pt := pt) (zs := zs) (bg := bg) (fa := fw) (n := n) (kd := kd) (fm := fm) (to := to) (sz := sz) (rl := rl) (en := en) (mk := mk) (mf := mf) (mu := mu) (mz := mz) (rr := rr) (ee := ee) (q := t1) (i := t2) hm_867 hm_875 hm_876 hm_877 w1 w2 ht1 ht2) (cwV 3 hts (gV (lwg_of t_1197 rfl) (lwg_of t_1198 rfl) (lwg_of t_1199 rfl) (lwg_of t_13 rfl) (lwg_of t_1200 rfl)) rfl rfl rfl (by decide +kernel) ⟨Nat.le_of_ble_eq_true rfl, Nat.le_of_ble_eq_true rfl⟩) (hI.preV hm_867 rfl) rfl rfl hl.1 rfl (lv_room (Nat.le_of_ble_eq_true rfl)) dL_law_957 ⟨(show _ ≤ (601024 : Nat) from by omega), (show _ ≤ (7293034 : Nat) from by omega)⟩) hI (fun r_898 M_900 H_901 locs_902 hp_899 hI => ?_)
          obtain ⟨hr_903, hm_904, hF_905⟩ := hp_899
          have hm_906 : M_900 0 = some (cStore ad qa qs fw) := by rw [hF_905 0 (by omega)]; exact hm_827
          have hm_907 : M_900 1 = some (cTape ad len) := by rw [hF_905 1 (by omega)]; exact hm_828
          have hm_908 : M_900 2 = some (aI G 400 (nF tb)) := by rw [hF_905 2 (by omega)]; exact hm_829
          have hm_909 : M_900 3 = some (cLaws ad ) := by rw [hF_905 3 (by omega)]; exact hm_830
          have hm_910 : M_900 4 = some (aI G 36 (nF le)) := by rw [hF_905 4 (by omega)]; exact hm_831
          have hm_911 : M_900 5 = some (aI G 36 (nF mo)) := by rw [hF_905 5 (by omega)]; exact hm_832
          have hm_912 : M_900 6 = some (aI G 36 (nF al)) := by rw [hF_905 6 (by omega)]; exact hm_833
          have hm_913 : M_900 7 = some (aZ G 6 (bF ho)) := by rw [hF_905 7 (by omega)]; exact hm_834
          have hm_914 : M_900 8 = some (cOnes ad jn) := by rw [hF_905 8 (by omega)]; exact hm_835
          have hm_915 : M_900 9 = some (aI G 40 (nF hg)) := by rw [hF_905 9 (by omega)]; exact hm_836
          have hm_916 : M_900 10 = some (aI G 40 (nF lst)) := by rw [hF_905 10 (by omega)]; exact hm_837
          have hm_917 : M_900 11 = some (aI G 40 (nF jd)) := by rw [hF_905 11 (by omega)]; exact hm_838
          have hm_918 : M_900 12 = some (cEnds ad 12 s0) := by rw [hF_905 12 (by omega)]; exact hm_839
          have hm_919 : M_900 13 = some (aI G 6 (nF r0)) := by rw [hF_905 13 (by omega)]; exact hm_840
          have hm_920 : M_900 14 = some (aI G 6 (oF th)) := by rw [hF_905 14 (by omega)]; exact hm_841
          have hm_921 : M_900 15 = some (aI G 6 (oF ol)) := by rw [hF_905 15 (by omega)]; exact hm_842
          have hm_922 : M_900 19 = some (aZ G 120 (bF mm9)) := by rw [hF_905 19 (by omega)]; exact hm_843
          have hm_923 : M_900 20 = some (aI G 120 ff) := by rw [hF_905 20 (by omega)]; exact hm_844
          have hm_924 : M_900 21 = some (aI G 120 lq) := by rw [hF_905 21 (by omega)]; exact hm_845
          have hm_925 : M_900 22 = some (cReader ad ra rb rt rv) := by rw [hF_905 22 (by omega)]; exact hm_846
          have hm_926 : M_900 23 = some (cMatcher ad qm pz) := by rw [hF_905 23 (by omega)]; exact hm_847
          have hm_927 : M_900 24 = some (aJ G 2160 sx) := by rw [hF_905 24 (by omega)]; exact hm_848
          have hm_928 : M_900 25 = some (aI G 6 (nF ft)) := by rw [hF_905 25 (by omega)]; exact hm_849
          have hm_929 : M_900 26 = some (aJ G 240 rx) := by rw [hF_905 26 (by omega)]; exact hm_850
          have hm_930 : M_900 27 = some (aJ G 3 dm) := by rw [hF_905 27 (by omega)]; exact hm_851
          have hm_931 : M_900 28 = some (aI G 3 rc) := by rw [hF_905 28 (by omega)]; exact hm_852
          have hm_932 : M_900 qa = some (cQuestion ad qa ao vr) := by rw [hF_905 qa (by omega)]; exact hm_853
          have hm_933 : M_900 (qa + 1) = some (aI G 6 (nF kn)) := by rw [hF_905 (qa + 1) (by omega)]; exact hm_854
          have hm_934 : M_900 (qa + 2) = some (aZ G 6 (bF nq)) := by rw [hF_905 (qa + 2) (by omega)]; exact hm_855
          have hm_935 : M_900 (qa + 3) = some (aI G 6 (nF pn)) := by rw [hF_905 (qa + 3) (by omega)]; exact hm_856
          have hm_936 : M_900 (qa + 4) = some (aI G 6 (nF av)) := by rw [hF_905 (qa + 4) (by omega)]; exact hm_857
          have hm_937 : M_900 (qa + 5) = some (aI G 24 (nF ro)) := by rw [hF_905 (qa + 5) (by omega)]; exact hm_858
          have hm_938 : M_900 (qa + 6) = some (aI G 24 (nF te)) := by rw [hF_905 (qa + 6) (by omega)]; exact hm_859
          have hm_939 : M_900 qs = some (cQuestion ad qs sq su) := by rw [hF_905 qs (by omega)]; exact hm_860
          have hm_940 : M_900 (qs + 1) = some (aI G 6 (nF kb)) := by rw [hF_905 (qs + 1) (by omega)]; exact hm_861
          have hm_941 : M_900 (qs + 2) = some (aZ G 6 (bF nb)) := by rw [hF_905 (qs + 2) (by omega)]; exact hm_862
          have hm_942 : M_900 (qs + 3) = some (aI G 6 (nF pb)) := by rw [hF_905 (qs + 3) (by omega)]; exact hm_863
          have hm_943 : M_900 (qs + 4) = some (aI G 6 (nF ab)) := by rw [hF_905 (qs + 4) (by omega)]; exact hm_864
          have hm_944 : M_900 (qs + 5) = some (aI G 24 (nF rbb)) := by rw [hF_905 (qs + 5) (by omega)]; exact hm_865
          have hm_945 : M_900 (qs + 6) = some (aI G 24 (nF tbb)) := by rw [hF_905 (qs + 6) (by omega)]; exact hm_866
          have hm_946 : M_900 61 = some (aI G 36 (nF le)) := by rw [hF_905 61 (by omega)]; exact hm_868
          have hm_947 : M_900 62 = some (aI G 36 (nF mo)) := by rw [hF_905 62 (by omega)]; exact hm_869
          have hm_948 : M_900 63 = some (aI G 36 (nF al)) := by rw [hF_905 63 (by omega)]; exact hm_870
          have hm_949 : M_900 64 = some (aZ G 6 (bF ho)) := by rw [hF_905 64 (by omega)]; exact hm_871
          have hm_950 : M_900 65 = some (aI G 120 (nF mk)) := by rw [hF_905 65 (by omega)]; exact hm_872
          have hm_951 : M_900 66 = some (aI G 120 mf) := by rw [hF_905 66 (by omega)]; exact hm_873
          have hm_952 : M_900 67 = some (aI G 120 mu) := by rw [hF_905 67 (by omega)]; exact hm_874
          have hm_953 : M_900 68 = some (aI G 121 (nF mz)) := by rw [hF_905 68 (by omega)]; exact hm_875
          have hm_954 : M_900 69 = some (aI G 726 (nF rr)) := by rw [hF_905 69 (by omega)]; exact hm_876
          have hm_955 : M_900 70 = some (aI G 726 (nF ee)) := by rw [hF_905 70 (by omega)]; exact hm_877
          have hm_956 : M_900 71 = some (aI G 40 (nF lst)) := by rw [hF_905 71 (by omega)]; exact hm_878
          have hm_957 : M_900 72 = some (aI G 40 (nF oa)) := by rw [hF_905 72 (by omega)]; exact hm_879
          have hm_958 : M_900 73 = some (aI G 40 (nF ob)) := by rw [hF_905 73 (by omega)]; exact hm_880
          have hm_959 : M_900 74 = some (aI G 120 s74) := by rw [hF_905 74 (by omega)]; exact hm_881
          have hm_960 : M_900 75 = some (aI G 12 ak) := by rw [hF_905 75 (by omega)]; exact hm_882
          have hm_961 : M_900 76 = some (aZ G 12 (bF nm)) := by rw [hF_905 76 (by omega)]; exact hm_883
          have hm_962 : M_900 77 = some (aI G 12 (nF ap)) := by rw [hF_905 77 (by omega)]; exact hm_884
          have hm_963 : M_900 78 = some (aI G 48 pr) := by rw [hF_905 78 (by omega)]; exact hm_885
          have hm_964 : M_900 79 = some (aI G 48 pf) := by rw [hF_905 79 (by omega)]; exact hm_886
          have hm_965 : M_900 80 = some (aB G 400 tf) := by rw [hF_905 80 (by omega)]; exact hm_887
          have hm_966 : M_900 81 = some (aI G 5 fv) := by rw [hF_905 81 (by omega)]; exact hm_888
          have hm_967 : M_900 82 = some (aZ G 384000 (bF tr)) := by rw [hF_905 82 (by omega)]; exact hm_889
          have hm_968 : M_900 83 = some (aI G 3 (oF gv)) := by rw [hF_905 83 (by omega)]; exact hm_890
          have hm_969 : M_900 84 = some (aI G 3 fo) := by rw [hF_905 84 (by omega)]; exact hm_891
          have hm_970 : M_900 85 = some (aZ G 40 (bF re)) := by rw [hF_905 85 (by omega)]; exact hm_892
          have hm_971 : M_900 86 = some (aZ G 120 (bF us)) := by rw [hF_905 86 (by omega)]; exact hm_893
          have hm_972 : M_900 87 = some (aZ G 120 (bF nx)) := by rw [hF_905 87 (by omega)]; exact hm_894
          have hm_973 : M_900 99 = some (aJ G 1 (vp_updL of 0 ((oI (olE (en t1) t2)).toInt64))) := by rw [hF_905 99 (by omega)]; exact hm_825
          have hm_974 : M_900 16 = some (cLines ad ) := by rw [hF_905 16 (by omega)]; exact hm_895
          have hL_975 : LSm G ad M_900 n kd fm to sz rl en := hL_896.keep (fun j hj => hF_905 j (by omega))
          have hF_976 : ∀ j : Nat, j ≠ 99 → j ≠ 60 → M_900 j = M j := fun j q0 q1 => (hF_905 j q1).trans (hF_897 j q0)
          rw [hr_903]
          refine lv_istore (lv' := [(6, .int (oI (olE (en t1) t2))), (5, .int (nI 0)), (0, .ref b), (1, .ref (ad 0)), (2, .ref (ad 60)), (3, .ref (ad 99)), (4, .int (nI i))]) hx hb dL_law_960 hl (by decide) rfl (fun ls hl => ?_)
          refine lv_aload_n hx hb dL_law_962 rfl (lv_at hl 4 rfl) ?_
          refine k_Ri (va_runV (As := []) (rest := []) ⟨hx, hb, hml, hown, hts⟩ (c_X10_thrown l G z ad M_900 (th := 0) (ln := n) (on := jn) (ao := ao) (vr := vr) (sn := sn) (tp := len) (pt := pt) (zs := zs) (bg := bg) (fa := fw) hm_904) (cwV 0 hts (gV (lwg_of t_997 rfl) (lwg_of t_998 rfl) (lwg_of t_999 rfl) (lwg_of t_13 rfl) (lwg_of t_1000 rfl)) rfl rfl rfl (by decide +kernel) ⟨Nat.le_of_ble_eq_true rfl, Nat.le_of_ble_eq_true rfl⟩) (hI.preV hm_904 rfl) rfl rfl hl.1 rfl (lv_room (Nat.le_of_ble_eq_true rfl)) dL_law_963 ⟨(show _ ≤ (601024 : Nat) from by omega), (show _ ≤ (7293034 : Nat) from by omega)⟩) (fun _ h => h) (fun r_977 hp_978 => ?_)
          rw [hp_978]
          refine lv_iload hx hb dL_law_966 (lv_at hl 1 rfl) ?_
          refine lv_icmp_eq (tgt := 973) hx hb dL_law_968 (by decide) (fun c_979 => ?_) (fun c_979 => ?_)
          · -- 968: nI 0 eq
            refine lv_iload hx hb dL_law_973 (lv_at hl 1 rfl) ?_
            refine lv_if_ne (tgt := 990) hx hb dL_law_975 (by decide) (fun c_980 => ?_) (fun c_980 => ?_)
            · -- 975: nI 0 ne
              exact absurd (by decide) c_980
            · -- 975: nI 0 eq
              refine lv_aload_n hx hb dL_law_978 rfl (lv_at hl 5 rfl) ?_
              refine lv_iconst (v := nI 0) hx hb dL_law_979 (by decide) ?_
              refine h_lald (i := 0) hx hb hI hm_973 (by omega) (by decide) dL_law_980 ?_
              refine n_eql (show _ = (oI (olE (en t1) t2)).toInt64 from updL_0) ?_
              refine lv_iload hx hb dL_law_981 (lv_at hl 0 rfl) ?_
              refine lv_i2l (v := (oI (olE (en t1) t2)).toInt64) hx hb dL_law_983 rfl ?_
              refine W.lcmp hx hb dL_law_984 ?_
              refine lv_if_eq (tgt := 990) hx hb dL_law_985 (by decide) (fun c_981 => ?_) (fun c_981 => ?_)
              · -- 985: lg_cmp ((oI (olE (en t1) t2)).toInt64) ((oI (olE (en t1) t2) eq
                have c_981 : (oI (olE (en t1) t2)).toInt64 = (oI (olE (en t1) t2)).toInt64 := (lg_cmp_eq _ _).mp c_981
                refine lv_goto (tgt := 1333) hx hb dL_law_990 (by decide) ?_
                refine W.widen (k := cz + 10) (n := sy + 300) (by omega) (by omega) ?_
                exact kk ad M_900 H_901 locs_902 ls n kd fm to sz rl en qa qs fw len tb le mo al ho jn hg lst jd s0 r0 th ol e0 mm9 ff lq ra rb rt rv qm pz sx ft rx dm rc ao vr kn nq pn av ro te sq su kb nb pb ab rbb tbb 0 sn pt zs bg mk mf mu mz rr ee oa ob s74 ak nm ap pr pf tf fv tr gv fo re us nx (vp_updL of 0 ((oI (olE (en t1) t2)).toInt64)) hL_975 w1 w2 w3 w4 w5 w6 w7 w8 w9 w10 w11 w12 w13 w14 w15 w16 w17 w18 w19 w20 w21 w22 w23 w24 w25 w26 w27 w28 w29 (fun h9 => by rw [hF_976 17 (by omega) (by omega), hF_976 18 (by omega) (by omega)]; exact w30 h9) (by rw [hF_976 29 (by omega) (by omega)]; exact w31) (fun j9 h9 => by rw [hF_976 j9 (by omega) (by omega)]; exact w32 j9 h9) hm_906 hm_907 hm_908 hm_909 hm_910 hm_911 hm_912 hm_913 hm_914 hm_915 hm_916 hm_917 hm_918 hm_919 hm_920 hm_921 hm_922 hm_923 hm_924 hm_925 hm_926 hm_927 hm_928 hm_929 hm_930 hm_931 hm_932 hm_933 hm_934 hm_935 hm_936 hm_937 hm_938 hm_939 hm_940 hm_941 hm_942 hm_943 hm_944 hm_945 hm_904 hm_946 hm_947 hm_948 hm_949 hm_950 hm_951 hm_952 hm_953 hm_954 hm_955 hm_956 hm_957 hm_958 hm_959 hm_960 hm_961 hm_962 hm_963 hm_964 hm_965 hm_966 hm_967 hm_968 hm_969 hm_970 hm_971 hm_972 hm_973 hI (lv_sub hl [2, 3, 4, 5, 6] rfl)
              · -- 985: lg_cmp ((oI (olE (en t1) t2)).toInt64) ((oI (olE (en t1) t2) ne
                have c_981 : (oI (olE (en t1) t2)).toInt64 ≠ (oI (olE (en t1) t2)).toInt64 := (fun h => c_981 ((lg_cmp_eq _ _).mpr h))
                exact absurd rfl c_981
          · -- 968: nI 0 ne
            exact absurd (by decide) c_979

set_option maxHeartbeats 8000000 in
set_option maxRecDepth 100000 in
theorem law_19 {p : Program} {l : Launch} {e : Env} {s : State} {m : MethodId} {below : List Frame} {meth : Method} {c : Code} {b L : Nat} {xs : Nat → Int32} {Q : State → Prop} {G : GG} {z : Nat} {ad : Nat → Nat} {M : Mem} {H : Heap} {locs : List Loc} {ls : Array Slot} {i cz sy : Nat} (hst : l.stackTraces = false) (hx : p.tables.exec = Jvm.exec) (hb : c.code = code) (hml : c.maxLocals = 7) (hown : s.vm.findClass RL = some m.cls) {cx : Cond} (hts : ∀ w ∈ cx :: lwg, w.before #[Value.ref b] s = true) (hX : va_X b L xs s s.heap) (hbl : b < s.heap.size) (hbz : ¬ z ≤ b) (hI : Iv G z ad M s H locs) (hl : lv_has ls 7 [(0, .ref b), (1, .ref (ad 0)), (2, .ref (ad 60)), (3, .ref (ad 99)), (4, .int (nI i))]) (hiL : i + 6 ≤ L) (hL : L ≤ 3072) (hcz : cz + 10 ≤ 601024) (hsy : sy + 300 ≤ 7293034) {n : Nat} {kd : Nat → Nat} {fm : Nat → Int32} {to : Nat → Int32} {sz : Nat → Nat} {rl : Nat → Nat → Nat} {en : Nat → Nat → Nat} {qa : Nat} {qs : Nat} {fw : Int32} {len : Nat} {tb : Nat → Nat} {le : Nat → Nat} {mo : Nat → Nat} {al : Nat → Nat} {ho : Nat → Bool} {jn : Nat} {hg : Nat → Nat} {lst : Nat → Nat} {jd : Nat → Nat} {s0 : Nat} {r0 : Nat → Nat} {th : Nat → Option Nat} {ol : Nat → Option Nat} {e0 : Nat → Nat} {mm9 : Nat → Bool} {ff : Nat → Int32} {lq : Nat → Int32} {ra : Nat} {rb : Nat} {rt : Int32} {rv : Int32} {qm : Nat} {pz : Nat} {sx : Nat → Int64} {ft : Nat → Nat} {rx : Nat → Int64} {dm : Nat → Int64} {rc : Nat → Int32} {ao : Nat} {vr : Nat} {kn : Nat → Nat} {nq : Nat → Bool} {pn : Nat → Nat} {av : Nat → Nat} {ro : Nat → Nat} {te : Nat → Nat} {sq : Nat} {su : Nat} {kb : Nat → Nat} {nb : Nat → Bool} {pb : Nat → Nat} {ab : Nat → Nat} {rbb : Nat → Nat} {tbb : Nat → Nat} {tw : Nat} {sn : Nat} {pt : Nat} {zs : Nat} {bg : Nat} {mk : Nat → Nat} {mf : Nat → Int32} {mu : Nat → Int32} {mz : Nat → Nat} {rr : Nat → Nat} {ee : Nat → Nat} {oa : Nat → Nat} {ob : Nat → Nat} {s74 : Nat → Int32} {ak : Nat → Int32} {nm : Nat → Bool} {ap : Nat → Nat} {pr : Nat → Int32} {pf : Nat → Int32} {tf : Nat → Int32} {fv : Nat → Int32} {tr : Nat → Bool} {gv : Nat → Option Nat} {fo : Nat → Int32} {re : Nat → Bool} {us : Nat → Bool} {nx : Nat → Bool} {of : Nat → Int64} (fL : LSm G ad M n kd fm to sz rl en) (w1 : LSw n kd sz rl en) (w2 : MRel n kd fm to sz rl en mk mf mu mz rr ee) (w3 : JI jn hg lst jd oa ob) (w4 : len ≤ 400) (w5 : ∀ j, j < len → tb j < 256) (w6 : ∀ j, j < len → tf j = sB (tb j)) (w7 : s0 ≤ 6) (w8 : mz 120 = s0) (w9 : ∀ j, j < s0 → rr (720 + j) = r0 j ∧ ee (720 + j) = e0 j) (w10 : ∀ j, j < s0 → r0 j < 6) (w11 : ∀ j, j < s0 → e0 j < 40 + n) (w12 : ∀ j, j < s0 → th j = thE e0 j) (w13 : ∀ j, j < s0 → ol j = olE e0 j) (w14 : ∀ j, j < 36 → le j < 100) (w15 : ∀ j, j < 36 → mo j < 100) (w16 : ∀ j, j < 36 → al j ≤ 100) (w17 : ∀ i, i < n → (0 : Int32) ≤ fm i) (w18 : ∀ i, i < n → ∀ k, hgs sz en i k = true → fm k ≤ fm i) (w19 : ao ≤ 6) (w20 : vr < 8) (w21 : ∀ i, i < ao → ap i ≤ 4 ∧ (ak i = nI (kn i) ∧ kn i < 6) ∧ ∀ p8, p8 < ap i → (pr (4 * i + p8) = nI (ro (i * 4 + p8)) ∧ ro (i * 4 + p8) < 6) ∧ te (i * 4 + p8) < 43 ∧ pf (4 * i + p8) = tmI (te (i * 4 + p8))) (w22 : ∀ i, i < ao → nm i = nq i ∧ ap i = pn i) (w23 : ∀ i, i < ao → av i < 8) (w24 : ∀ i, i < ao → (av i).testBit 0 = false → ∀ p9, p9 < pn i → te (i * 4 + p9) ≠ 40) (w25 : ∀ v, v < 3 → vr.testBit v = true → ∃ i, i < ao ∧ nq i = false ∧ ∃ k, k < pn i ∧ te (i * 4 + k) = 40 + v) (w26 : 29 < qa ∧ qa < 38) (w27 : 29 < qs ∧ qs < 38) (w28 : qa + 7 ≤ qs ∨ qs + 7 ≤ qa) (w29 : 29 < qm ∧ qm < 51) (w30 : n = 0 → (∃ mcn : Int32, M 17 = some (cList ad mcn G.2.2.2.2 0)) ∧ M 18 = none) (w31 : M 29 = none) (w32 : ∀ j, 100 + 5 * n ≤ j → M j = none) (f_0 : M 0 = some (cStore ad qa qs fw)) (f_1 : M 1 = some (cTape ad len)) (f_2 : M 2 = some (aI G 400 (nF tb))) (f_3 : M 3 = some (cLaws ad )) (f_4 : M 4 = some (aI G 36 (nF le))) (f_5 : M 5 = some (aI G 36 (nF mo))) (f_6 : M 6 = some (aI G 36 (nF al))) (f_7 : M 7 = some (aZ G 6 (bF ho))) (f_8 : M 8 = some (cOnes ad jn)) (f_9 : M 9 = some (aI G 40 (nF hg))) (f_10 : M 10 = some (aI G 40 (nF lst))) (f_11 : M 11 = some (aI G 40 (nF jd))) (f_12 : M 12 = some (cEnds ad 12 s0)) (f_13 : M 13 = some (aI G 6 (nF r0))) (f_14 : M 14 = some (aI G 6 (oF th))) (f_15 : M 15 = some (aI G 6 (oF ol))) (f_19 : M 19 = some (aZ G 120 (bF mm9))) (f_20 : M 20 = some (aI G 120 ff)) (f_21 : M 21 = some (aI G 120 lq)) (f_22 : M 22 = some (cReader ad ra rb rt rv)) (f_23 : M 23 = some (cMatcher ad qm pz)) (f_24 : M 24 = some (aJ G 2160 sx)) (f_25 : M 25 = some (aI G 6 (nF ft))) (f_26 : M 26 = some (aJ G 240 rx)) (f_27 : M 27 = some (aJ G 3 dm)) (f_28 : M 28 = some (aI G 3 rc)) (f_qa : M qa = some (cQuestion ad qa ao vr)) (f_qa_1 : M (qa + 1) = some (aI G 6 (nF kn))) (f_qa_2 : M (qa + 2) = some (aZ G 6 (bF nq))) (f_qa_3 : M (qa + 3) = some (aI G 6 (nF pn))) (f_qa_4 : M (qa + 4) = some (aI G 6 (nF av))) (f_qa_5 : M (qa + 5) = some (aI G 24 (nF ro))) (f_qa_6 : M (qa + 6) = some (aI G 24 (nF te))) (f_qs : M qs = some (cQuestion ad qs sq su)) (f_qs_1 : M (qs + 1) = some (aI G 6 (nF kb))) (f_qs_2 : M (qs + 2) = some (aZ G 6 (bF nb))) (f_qs_3 : M (qs + 3) = some (aI G 6 (nF pb))) (f_qs_4 : M (qs + 4) = some (aI G 6 (nF ab))) (f_qs_5 : M (qs + 5) = some (aI G 24 (nF rbb))) (f_qs_6 : M (qs + 6) = some (aI G 24 (nF tbb))) (f_60 : M 60 = some (cModel ad tw n jn ao vr sn len pt zs bg fw)) (f_61 : M 61 = some (aI G 36 (nF le))) (f_62 : M 62 = some (aI G 36 (nF mo))) (f_63 : M 63 = some (aI G 36 (nF al))) (f_64 : M 64 = some (aZ G 6 (bF ho))) (f_65 : M 65 = some (aI G 120 (nF mk))) (f_66 : M 66 = some (aI G 120 mf)) (f_67 : M 67 = some (aI G 120 mu)) (f_68 : M 68 = some (aI G 121 (nF mz))) (f_69 : M 69 = some (aI G 726 (nF rr))) (f_70 : M 70 = some (aI G 726 (nF ee))) (f_71 : M 71 = some (aI G 40 (nF lst))) (f_72 : M 72 = some (aI G 40 (nF oa))) (f_73 : M 73 = some (aI G 40 (nF ob))) (f_74 : M 74 = some (aI G 120 s74)) (f_75 : M 75 = some (aI G 12 ak)) (f_76 : M 76 = some (aZ G 12 (bF nm))) (f_77 : M 77 = some (aI G 12 (nF ap))) (f_78 : M 78 = some (aI G 48 pr)) (f_79 : M 79 = some (aI G 48 pf)) (f_80 : M 80 = some (aB G 400 tf)) (f_81 : M 81 = some (aI G 5 fv)) (f_82 : M 82 = some (aZ G 384000 (bF tr))) (f_83 : M 83 = some (aI G 3 (oF gv))) (f_84 : M 84 = some (aI G 3 fo)) (f_85 : M 85 = some (aZ G 40 (bF re))) (f_86 : M 86 = some (aZ G 120 (bF us))) (f_87 : M 87 = some (aZ G 120 (bF nx))) (f_99 : M 99 = some (aJ G 1 of)) (kk : ∀ (ad1 : Nat → Nat) (M1 : Mem) (H1 : Heap) (locs1 : List Loc) (ls1 : Array Slot) (n : Nat) (kd : Nat → Nat) (fm : Nat → Int32) (to : Nat → Int32) (sz : Nat → Nat) (rl : Nat → Nat → Nat) (en : Nat → Nat → Nat) (qa : Nat) (qs : Nat) (fw : Int32) (len : Nat) (tb : Nat → Nat) (le : Nat → Nat) (mo : Nat → Nat) (al : Nat → Nat) (ho : Nat → Bool) (jn : Nat) (hg : Nat → Nat) (lst : Nat → Nat) (jd : Nat → Nat) (s0 : Nat) (r0 : Nat → Nat) (th : Nat → Option Nat) (ol : Nat → Option Nat) (e0 : Nat → Nat) (mm9 : Nat → Bool) (ff : Nat → Int32) (lq : Nat → Int32) (ra : Nat) (rb : Nat) (rt : Int32) (rv : Int32) (qm : Nat) (pz : Nat) (sx : Nat → Int64) (ft : Nat → Nat) (rx : Nat → Int64) (dm : Nat → Int64) (rc : Nat → Int32) (ao : Nat) (vr : Nat) (kn : Nat → Nat) (nq : Nat → Bool) (pn : Nat → Nat) (av : Nat → Nat) (ro : Nat → Nat) (te : Nat → Nat) (sq : Nat) (su : Nat) (kb : Nat → Nat) (nb : Nat → Bool) (pb : Nat → Nat) (ab : Nat → Nat) (rbb : Nat → Nat) (tbb : Nat → Nat) (tw : Nat) (sn : Nat) (pt : Nat) (zs : Nat) (bg : Nat) (mk : Nat → Nat) (mf : Nat → Int32) (mu : Nat → Int32) (mz : Nat → Nat) (rr : Nat → Nat) (ee : Nat → Nat) (oa : Nat → Nat) (ob : Nat → Nat) (s74 : Nat → Int32) (ak : Nat → Int32) (nm : Nat → Bool) (ap : Nat → Nat) (pr : Nat → Int32) (pf : Nat → Int32) (tf : Nat → Int32) (fv : Nat → Int32) (tr : Nat → Bool) (gv : Nat → Option Nat) (fo : Nat → Int32) (re : Nat → Bool) (us : Nat → Bool) (nx : Nat → Bool) (of : Nat → Int64), (LSm G ad1 M1 n kd fm to sz rl en) → (LSw n kd sz rl en) → (MRel n kd fm to sz rl en mk mf mu mz rr ee) → (JI jn hg lst jd oa ob) → (len ≤ 400) → (∀ j, j < len → tb j < 256) → (∀ j, j < len → tf j = sB (tb j)) → (s0 ≤ 6) → (mz 120 = s0) → (∀ j, j < s0 → rr (720 + j) = r0 j ∧ ee (720 + j) = e0 j) → (∀ j, j < s0 → r0 j < 6) → (∀ j, j < s0 → e0 j < 40 + n) → (∀ j, j < s0 → th j = thE e0 j) → (∀ j, j < s0 → ol j = olE e0 j) → (∀ j, j < 36 → le j < 100) → (∀ j, j < 36 → mo j < 100) → (∀ j, j < 36 → al j ≤ 100) → (∀ i, i < n → (0 : Int32) ≤ fm i) → (∀ i, i < n → ∀ k, hgs sz en i k = true → fm k ≤ fm i) → (ao ≤ 6) → (vr < 8) → (∀ i, i < ao → ap i ≤ 4 ∧ (ak i = nI (kn i) ∧ kn i < 6) ∧ ∀ p8, p8 < ap i → (pr (4 * i + p8) = nI (ro (i * 4 + p8)) ∧ ro (i * 4 + p8) < 6) ∧ te (i * 4 + p8) < 43 ∧ pf (4 * i + p8) = tmI (te (i * 4 + p8))) → (∀ i, i < ao → nm i = nq i ∧ ap i = pn i) → (∀ i, i < ao → av i < 8) → (∀ i, i < ao → (av i).testBit 0 = false → ∀ p9, p9 < pn i → te (i * 4 + p9) ≠ 40) → (∀ v, v < 3 → vr.testBit v = true → ∃ i, i < ao ∧ nq i = false ∧ ∃ k, k < pn i ∧ te (i * 4 + k) = 40 + v) → (29 < qa ∧ qa < 38) → (29 < qs ∧ qs < 38) → (qa + 7 ≤ qs ∨ qs + 7 ≤ qa) → (29 < qm ∧ qm < 51) → (n = 0 → (∃ mcn : Int32, M1 17 = some (cList ad1 mcn G.2.2.2.2 0)) ∧ M1 18 = none) → (M1 29 = none) → (∀ j, 100 + 5 * n ≤ j → M1 j = none) → (M1 0 = some (cStore ad1 qa qs fw)) → (M1 1 = some (cTape ad1 len)) → (M1 2 = some (aI G 400 (nF tb))) → (M1 3 = some (cLaws ad1 )) → (M1 4 = some (aI G 36 (nF le))) → (M1 5 = some (aI G 36 (nF mo))) → (M1 6 = some (aI G 36 (nF al))) → (M1 7 = some (aZ G 6 (bF ho))) → (M1 8 = some (cOnes ad1 jn)) → (M1 9 = some (aI G 40 (nF hg))) → (M1 10 = some (aI G 40 (nF lst))) → (M1 11 = some (aI G 40 (nF jd))) → (M1 12 = some (cEnds ad1 12 s0)) → (M1 13 = some (aI G 6 (nF r0))) → (M1 14 = some (aI G 6 (oF th))) → (M1 15 = some (aI G 6 (oF ol))) → (M1 19 = some (aZ G 120 (bF mm9))) → (M1 20 = some (aI G 120 ff)) → (M1 21 = some (aI G 120 lq)) → (M1 22 = some (cReader ad1 ra rb rt rv)) → (M1 23 = some (cMatcher ad1 qm pz)) → (M1 24 = some (aJ G 2160 sx)) → (M1 25 = some (aI G 6 (nF ft))) → (M1 26 = some (aJ G 240 rx)) → (M1 27 = some (aJ G 3 dm)) → (M1 28 = some (aI G 3 rc)) → (M1 qa = some (cQuestion ad1 qa ao vr)) → (M1 (qa + 1) = some (aI G 6 (nF kn))) → (M1 (qa + 2) = some (aZ G 6 (bF nq))) → (M1 (qa + 3) = some (aI G 6 (nF pn))) → (M1 (qa + 4) = some (aI G 6 (nF av))) → (M1 (qa + 5) = some (aI G 24 (nF ro))) → (M1 (qa + 6) = some (aI G 24 (nF te))) → (M1 qs = some (cQuestion ad1 qs sq su)) → (M1 (qs + 1) = some (aI G 6 (nF kb))) → (M1 (qs + 2) = some (aZ G 6 (bF nb))) → (M1 (qs + 3) = some (aI G 6 (nF pb))) → (M1 (qs + 4) = some (aI G 6 (nF ab))) → (M1 (qs + 5) = some (aI G 24 (nF rbb))) → (M1 (qs + 6) = some (aI G 24 (nF tbb))) → (M1 60 = some (cModel ad1 tw n jn ao vr sn len pt zs bg fw)) → (M1 61 = some (aI G 36 (nF le))) → (M1 62 = some (aI G 36 (nF mo))) → (M1 63 = some (aI G 36 (nF al))) → (M1 64 = some (aZ G 6 (bF ho))) → (M1 65 = some (aI G 120 (nF mk))) → (M1 66 = some (aI G 120 mf)) → (M1 67 = some (aI G 120 mu)) → (M1 68 = some (aI G 121 (nF mz))) → (M1 69 = some (aI G 726 (nF rr))) → (M1 70 = some (aI G 726 (nF ee))) → (M1 71 = some (aI G 40 (nF lst))) → (M1 72 = some (aI G 40 (nF oa))) → (M1 73 = some (aI G 40 (nF ob))) → (M1 74 = some (aI G 120 s74)) → (M1 75 = some (aI G 12 ak)) → (M1 76 = some (aZ G 12 (bF nm))) → (M1 77 = some (aI G 12 (nF ap))) → (M1 78 = some (aI G 48 pr)) → (M1 79 = some (aI G 48 pf)) → (M1 80 = some (aB G 400 tf)) → (M1 81 = some (aI G 5 fv)) → (M1 82 = some (aZ G 384000 (bF tr))) → (M1 83 = some (aI G 3 (oF gv))) → (M1 84 = some (aI G 3 fo)) → (M1 85 = some (aZ G 40 (bF re))) → (M1 86 = some (aZ G 120 (bF us))) → (M1 87 = some (aZ G 120 (bF nx))) → (M1 99 = some (aJ G 1 of)) → Iv G z ad1 M1 s H1 locs1 → lv_has ls1 7 [(0, .ref b), (1, .ref (ad1 0)), (2, .ref (ad1 60)), (3, .ref (ad1 99)), (4, .int (nI i))] → W p l e room_1 s m #[Value.ref b] below meth c H1 locs1 (cz + 10) (sy + 300) Q (F0 m 1333 ls1 [])) : W p l e room_1 s m #[Value.ref b] below meth c H locs cz sy Q (F0 m 1308 ls []) := by
  have h16 := fL.1
  have hw1 := w1.1
  have hlst := ji_lst w3
  have hj40 := ji_le w3
  have hjc := ji_cn w3
  have hc3 := cnt3_le vr
  rcases (in_or 6 (xs (i + 1)) (by omega) : (xs (i + 1) < 0 ∨ ¬ xs (i + 1) < nI 6) ∨ (∃ t : Nat, t < 6 ∧ xs (i + 1) = nI t)) with hc_1 | hc_2
  · skip
    refine lv_aload_n hx hb dL_law_1308 rfl (lv_at hl 1 rfl) ?_
    refine lv_aload_n hx hb dL_law_1309 rfl (lv_at hl 0 rfl) ?_
    refine lv_iload hx hb dL_law_1310 (lv_at hl 4 rfl) ?_
    refine lv_iconst (v := nI 1) hx hb dL_law_1312 (by decide) ?_
    refine lv_iadd hx hb dL_law_1313 ?_
    refine n_eq (nI_add i 1) ?_
    refine va_sld (A := fr z) hx hb hX hbl hbz hI.S (vp_in_nI (n := i + 1) (by omega) (by omega)) dL_law_1314 ?_
    rw [nI_clamp (by omega)]
    refine k_Ri (va_runV (As := [.int (xs (i + 1))]) (rest := []) ⟨hx, hb, hml, hown, hts⟩ (c_X9_count_x l G z ad M (qa := qa) (qs := qs) (fw := fw) (x := xs (i + 1)) f_0 (out_of hc_1 (by decide))) (cwV 1 hts (gV (lwg_of t_445 rfl) (lwg_of t_446 rfl) (lwg_of t_447 rfl) (lwg_of t_1 rfl) (lwg_of t_448 rfl)) rfl rfl rfl (by decide +kernel) ⟨Nat.le_of_ble_eq_true rfl, Nat.le_of_ble_eq_true rfl⟩) (hI.preV f_0 rfl) rfl rfl hl.1 rfl (lv_room (Nat.le_of_ble_eq_true rfl)) dL_law_1315 ⟨(show _ ≤ (601024 : Nat) from by omega), (show _ ≤ (7293034 : Nat) from by omega)⟩) (fun _ h => h) (fun r_3 hp_4 => ?_)
    rw [hp_4]
    refine lv_aload_n hx hb dL_law_1318 rfl (lv_at hl 2 rfl) ?_
    refine lv_aload_n hx hb dL_law_1319 rfl (lv_at hl 0 rfl) ?_
    refine lv_iload hx hb dL_law_1320 (lv_at hl 4 rfl) ?_
    refine lv_iconst (v := nI 1) hx hb dL_law_1322 (by decide) ?_
    refine lv_iadd hx hb dL_law_1323 ?_
    refine n_eq (nI_add i 1) ?_
    refine va_sld (A := fr z) hx hb hX hbl hbz hI.S (vp_in_nI (n := i + 1) (by omega) (by omega)) dL_law_1324 ?_
    rw [nI_clamp (by omega)]
    refine k_Ni (va_runV (As := [.int (xs (i + 1))]) (rest := [.int (-1)]) ⟨hx, hb, hml, hown, hts⟩ (c_X10_count_x l G z ad M (th := tw) (ln := n) (on := jn) (ao := ao) (vr := vr) (sn := sn) (tp := len) (pt := pt) (zs := zs) (bg := bg) (fa := fw) (x := xs (i + 1)) f_60 (out_of hc_1 (by decide))) (cwV 1 hts (gV (lwg_of t_1366 rfl) (lwg_of t_1367 rfl) (lwg_of t_1368 rfl) (lwg_of t_13 rfl) (lwg_of t_1369 rfl)) rfl rfl rfl (by decide +kernel) ⟨Nat.le_of_ble_eq_true rfl, Nat.le_of_ble_eq_true rfl⟩) (hI.preV f_60 rfl) rfl rfl hl.1 rfl (lv_room (Nat.le_of_ble_eq_true rfl)) dL_law_1325 ⟨(show _ ≤ (601024 : Nat) from by omega), (show _ ≤ (7293034 : Nat) from by omega)⟩) hI (fun r_5 M_7 H_8 locs_9 hp_6 hI => ?_)
    obtain ⟨hr_10, hm_11, hF_12⟩ := hp_6
    have hm_13 : M_7 0 = some (cStore ad qa qs fw) := by rw [hF_12 0 (by omega)]; exact f_0
    have hm_14 : M_7 1 = some (cTape ad len) := by rw [hF_12 1 (by omega)]; exact f_1
    have hm_15 : M_7 2 = some (aI G 400 (nF tb)) := by rw [hF_12 2 (by omega)]; exact f_2
    have hm_16 : M_7 3 = some (cLaws ad ) := by rw [hF_12 3 (by omega)]; exact f_3
    have hm_17 : M_7 4 = some (aI G 36 (nF le)) := by rw [hF_12 4 (by omega)]; exact f_4
    have hm_18 : M_7 5 = some (aI G 36 (nF mo)) := by rw [hF_12 5 (by omega)]; exact f_5
    have hm_19 : M_7 6 = some (aI G 36 (nF al)) := by rw [hF_12 6 (by omega)]; exact f_6
    have hm_20 : M_7 7 = some (aZ G 6 (bF ho)) := by rw [hF_12 7 (by omega)]; exact f_7
    have hm_21 : M_7 8 = some (cOnes ad jn) := by rw [hF_12 8 (by omega)]; exact f_8
    have hm_22 : M_7 9 = some (aI G 40 (nF hg)) := by rw [hF_12 9 (by omega)]; exact f_9
    have hm_23 : M_7 10 = some (aI G 40 (nF lst)) := by rw [hF_12 10 (by omega)]; exact f_10
    have hm_24 : M_7 11 = some (aI G 40 (nF jd)) := by rw [hF_12 11 (by omega)]; exact f_11
    have hm_25 : M_7 12 = some (cEnds ad 12 s0) := by rw [hF_12 12 (by omega)]; exact f_12
    have hm_26 : M_7 13 = some (aI G 6 (nF r0)) := by rw [hF_12 13 (by omega)]; exact f_13
    have hm_27 : M_7 14 = some (aI G 6 (oF th)) := by rw [hF_12 14 (by omega)]; exact f_14
    have hm_28 : M_7 15 = some (aI G 6 (oF ol)) := by rw [hF_12 15 (by omega)]; exact f_15
    have hm_29 : M_7 19 = some (aZ G 120 (bF mm9)) := by rw [hF_12 19 (by omega)]; exact f_19
    have hm_30 : M_7 20 = some (aI G 120 ff) := by rw [hF_12 20 (by omega)]; exact f_20
    have hm_31 : M_7 21 = some (aI G 120 lq) := by rw [hF_12 21 (by omega)]; exact f_21
    have hm_32 : M_7 22 = some (cReader ad ra rb rt rv) := by rw [hF_12 22 (by omega)]; exact f_22
    have hm_33 : M_7 23 = some (cMatcher ad qm pz) := by rw [hF_12 23 (by omega)]; exact f_23
    have hm_34 : M_7 24 = some (aJ G 2160 sx) := by rw [hF_12 24 (by omega)]; exact f_24
    have hm_35 : M_7 25 = some (aI G 6 (nF ft)) := by rw [hF_12 25 (by omega)]; exact f_25
    have hm_36 : M_7 26 = some (aJ G 240 rx) := by rw [hF_12 26 (by omega)]; exact f_26
    have hm_37 : M_7 27 = some (aJ G 3 dm) := by rw [hF_12 27 (by omega)]; exact f_27
    have hm_38 : M_7 28 = some (aI G 3 rc) := by rw [hF_12 28 (by omega)]; exact f_28
    have hm_39 : M_7 qa = some (cQuestion ad qa ao vr) := by rw [hF_12 qa (by omega)]; exact f_qa
    have hm_40 : M_7 (qa + 1) = some (aI G 6 (nF kn)) := by rw [hF_12 (qa + 1) (by omega)]; exact f_qa_1
    have hm_41 : M_7 (qa + 2) = some (aZ G 6 (bF nq)) := by rw [hF_12 (qa + 2) (by omega)]; exact f_qa_2
    have hm_42 : M_7 (qa + 3) = some (aI G 6 (nF pn)) := by rw [hF_12 (qa + 3) (by omega)]; exact f_qa_3
    have hm_43 : M_7 (qa + 4) = some (aI G 6 (nF av)) := by rw [hF_12 (qa + 4) (by omega)]; exact f_qa_4
    have hm_44 : M_7 (qa + 5) = some (aI G 24 (nF ro)) := by rw [hF_12 (qa + 5) (by omega)]; exact f_qa_5
    have hm_45 : M_7 (qa + 6) = some (aI G 24 (nF te)) := by rw [hF_12 (qa + 6) (by omega)]; exact f_qa_6
    have hm_46 : M_7 qs = some (cQuestion ad qs sq su) := by rw [hF_12 qs (by omega)]; exact f_qs
    have hm_47 : M_7 (qs + 1) = some (aI G 6 (nF kb)) := by rw [hF_12 (qs + 1) (by omega)]; exact f_qs_1
    have hm_48 : M_7 (qs + 2) = some (aZ G 6 (bF nb)) := by rw [hF_12 (qs + 2) (by omega)]; exact f_qs_2
    have hm_49 : M_7 (qs + 3) = some (aI G 6 (nF pb)) := by rw [hF_12 (qs + 3) (by omega)]; exact f_qs_3
    have hm_50 : M_7 (qs + 4) = some (aI G 6 (nF ab)) := by rw [hF_12 (qs + 4) (by omega)]; exact f_qs_4
    have hm_51 : M_7 (qs + 5) = some (aI G 24 (nF rbb)) := by rw [hF_12 (qs + 5) (by omega)]; exact f_qs_5
    have hm_52 : M_7 (qs + 6) = some (aI G 24 (nF tbb)) := by rw [hF_12 (qs + 6) (by omega)]; exact f_qs_6
    have hm_53 : M_7 61 = some (aI G 36 (nF le)) := by rw [hF_12 61 (by omega)]; exact f_61
    have hm_54 : M_7 62 = some (aI G 36 (nF mo)) := by rw [hF_12 62 (by omega)]; exact f_62
    have hm_55 : M_7 63 = some (aI G 36 (nF al)) := by rw [hF_12 63 (by omega)]; exact f_63
    have hm_56 : M_7 64 = some (aZ G 6 (bF ho)) := by rw [hF_12 64 (by omega)]; exact f_64
    have hm_57 : M_7 65 = some (aI G 120 (nF mk)) := by rw [hF_12 65 (by omega)]; exact f_65
    have hm_58 : M_7 66 = some (aI G 120 mf) := by rw [hF_12 66 (by omega)]; exact f_66
    have hm_59 : M_7 67 = some (aI G 120 mu) := by rw [hF_12 67 (by omega)]; exact f_67
    have hm_60 : M_7 68 = some (aI G 121 (nF mz)) := by rw [hF_12 68 (by omega)]; exact f_68
    have hm_61 : M_7 69 = some (aI G 726 (nF rr)) := by rw [hF_12 69 (by omega)]; exact f_69
    have hm_62 : M_7 70 = some (aI G 726 (nF ee)) := by rw [hF_12 70 (by omega)]; exact f_70
    have hm_63 : M_7 71 = some (aI G 40 (nF lst)) := by rw [hF_12 71 (by omega)]; exact f_71
    have hm_64 : M_7 72 = some (aI G 40 (nF oa)) := by rw [hF_12 72 (by omega)]; exact f_72
    have hm_65 : M_7 73 = some (aI G 40 (nF ob)) := by rw [hF_12 73 (by omega)]; exact f_73
    have hm_66 : M_7 74 = some (aI G 120 s74) := by rw [hF_12 74 (by omega)]; exact f_74
    have hm_67 : M_7 75 = some (aI G 12 ak) := by rw [hF_12 75 (by omega)]; exact f_75
    have hm_68 : M_7 76 = some (aZ G 12 (bF nm)) := by rw [hF_12 76 (by omega)]; exact f_76
    have hm_69 : M_7 77 = some (aI G 12 (nF ap)) := by rw [hF_12 77 (by omega)]; exact f_77
    have hm_70 : M_7 78 = some (aI G 48 pr) := by rw [hF_12 78 (by omega)]; exact f_78
    have hm_71 : M_7 79 = some (aI G 48 pf) := by rw [hF_12 79 (by omega)]; exact f_79
    have hm_72 : M_7 80 = some (aB G 400 tf) := by rw [hF_12 80 (by omega)]; exact f_80
    have hm_73 : M_7 81 = some (aI G 5 fv) := by rw [hF_12 81 (by omega)]; exact f_81
    have hm_74 : M_7 82 = some (aZ G 384000 (bF tr)) := by rw [hF_12 82 (by omega)]; exact f_82
    have hm_75 : M_7 83 = some (aI G 3 (oF gv)) := by rw [hF_12 83 (by omega)]; exact f_83
    have hm_76 : M_7 84 = some (aI G 3 fo) := by rw [hF_12 84 (by omega)]; exact f_84
    have hm_77 : M_7 85 = some (aZ G 40 (bF re)) := by rw [hF_12 85 (by omega)]; exact f_85
    have hm_78 : M_7 86 = some (aZ G 120 (bF us)) := by rw [hF_12 86 (by omega)]; exact f_86
    have hm_79 : M_7 87 = some (aZ G 120 (bF nx)) := by rw [hF_12 87 (by omega)]; exact f_87
    have hm_80 : M_7 99 = some (aJ G 1 of) := by rw [hF_12 99 (by omega)]; exact f_99
    have hm_81 : M_7 16 = some (cLines ad ) := by rw [hF_12 16 (by omega)]; exact h16
    have hL_82 : LSm G ad M_7 n kd fm to sz rl en := fL.keep (fun j hj => hF_12 j (by omega))
    have hF_83 : ∀ j : Nat, j ≠ 60 → M_7 j = M j := fun j q0 => (hF_12 j q0)
    rw [hr_10]
    refine lv_icmp_eq (tgt := 1333) hx hb dL_law_1328 (by decide) (fun c_84 => ?_) (fun c_84 => ?_)
    · -- 1328: (-1) eq
      refine W.widen (k := cz + 10) (n := sy + 300) (by omega) (by omega) ?_
      exact kk ad M_7 H_8 locs_9 ls n kd fm to sz rl en qa qs fw len tb le mo al ho jn hg lst jd s0 r0 th ol e0 mm9 ff lq ra rb rt rv qm pz sx ft rx dm rc ao vr kn nq pn av ro te sq su kb nb pb ab rbb tbb 0 sn pt zs bg mk mf mu mz rr ee oa ob s74 ak nm ap pr pf tf fv tr gv fo re us nx of hL_82 w1 w2 w3 w4 w5 w6 w7 w8 w9 w10 w11 w12 w13 w14 w15 w16 w17 w18 w19 w20 w21 w22 w23 w24 w25 w26 w27 w28 w29 (fun h9 => by rw [hF_83 17 (by omega), hF_83 18 (by omega)]; exact w30 h9) (by rw [hF_83 29 (by omega)]; exact w31) (fun j9 h9 => by rw [hF_83 j9 (by omega)]; exact w32 j9 h9) hm_13 hm_14 hm_15 hm_16 hm_17 hm_18 hm_19 hm_20 hm_21 hm_22 hm_23 hm_24 hm_25 hm_26 hm_27 hm_28 hm_29 hm_30 hm_31 hm_32 hm_33 hm_34 hm_35 hm_36 hm_37 hm_38 hm_39 hm_40 hm_41 hm_42 hm_43 hm_44 hm_45 hm_46 hm_47 hm_48 hm_49 hm_50 hm_51 hm_52 hm_11 hm_53 hm_54 hm_55 hm_56 hm_57 hm_58 hm_59 hm_60 hm_61 hm_62 hm_63 hm_64 hm_65 hm_66 hm_67 hm_68 hm_69 hm_70 hm_71 hm_72 hm_73 hm_74 hm_75 hm_76 hm_77 hm_78 hm_79 hm_80 hI (lv_sub hl [0, 1, 2, 3, 4] rfl)
    · -- 1328: (-1) ne
      exact absurd (by decide) c_84
  · skip
    refine lv_aload_n hx hb dL_law_1308 rfl (lv_at hl 1 rfl) ?_
    obtain ⟨t1, ht1, et1⟩ := hc_2
    rcases (by omega : t1 = 0 ∨ t1 = 1 ∨ t1 = 2 ∨ t1 = 3 ∨ t1 = 4 ∨ t1 = 5) with hc_85 | hc_86 | hc_87 | hc_88 | hc_89 | hc_90
    · skip
      refine lv_aload_n hx hb dL_law_1309 rfl (lv_at hl 0 rfl) ?_
      refine lv_iload hx hb dL_law_1310 (lv_at hl 4 rfl) ?_
      refine lv_iconst (v := nI 1) hx hb dL_law_1312 (by decide) ?_
      refine lv_iadd hx hb dL_law_1313 ?_
      refine n_eq (nI_add i 1) ?_
      refine va_sld (A := fr z) hx hb hX hbl hbz hI.S (vp_in_nI (n := i + 1) (by omega) (by omega)) dL_law_1314 ?_
      rw [nI_clamp (by omega)]
      refine n_eq (show _ = nI 0 from et1.trans (congrArg nI hc_85)) ?_
      refine k_Ri (va_runV (As := [.int (nI 0)]) (rest := []) ⟨hx, hb, hml, hown, hts⟩ (c_X9_count_0 l G z ad M (n := n) (kd := kd) (fm := fm) (to := to) (sz := sz) (rl := rl) (en := en) (qa := qa) (qs := qs) (fw := fw) fL f_0) (cwV 1 hts (gV (lwg_of t_445 rfl) (lwg_of t_446 rfl) (lwg_of t_447 rfl) (lwg_of t_1 rfl) (lwg_of t_448 rfl)) rfl rfl rfl (by decide +kernel) ⟨Nat.le_of_ble_eq_true rfl, Nat.le_of_ble_eq_true rfl⟩) (hI.preV f_0 rfl) rfl rfl hl.1 rfl (lv_room (Nat.le_of_ble_eq_true rfl)) dL_law_1315 ⟨(show _ ≤ (601024 : Nat) from by omega), (show _ ≤ (7293034 : Nat) from by omega)⟩) (fun _ h => h) (fun r_91 hp_92 => ?_)
      rw [hp_92]
      refine lv_aload_n hx hb dL_law_1318 rfl (lv_at hl 2 rfl) ?_
      refine lv_aload_n hx hb dL_law_1319 rfl (lv_at hl 0 rfl) ?_
      refine lv_iload hx hb dL_law_1320 (lv_at hl 4 rfl) ?_
      refine lv_iconst (v := nI 1) hx hb dL_law_1322 (by decide) ?_
      refine lv_iadd hx hb dL_law_1323 ?_
      refine n_eq (nI_add i 1) ?_
      refine va_sld (A := fr z) hx hb hX hbl hbz hI.S (vp_in_nI (n := i + 1) (by omega) (by omega)) dL_law_1324 ?_
      rw [nI_clamp (by omega)]
      refine n_eq (show _ = nI 0 from et1.trans (congrArg nI hc_85)) ?_
      refine k_Ni (va_runV (As := [.int (nI 0)]) (rest := [.int (nI n)]) ⟨hx, hb, hml, hown, hts⟩ (c_X10_count_0 l G z ad M (th := tw) (ln := n) (on := jn) (ao := ao) (vr := vr) (sn := sn) (tp := len) (pt := pt) (zs := zs) (bg := bg) (fa := fw) f_60) (cwV 1 hts (gV (lwg_of t_1366 rfl) (lwg_of t_1367 rfl) (lwg_of t_1368 rfl) (lwg_of t_13 rfl) (lwg_of t_1369 rfl)) rfl rfl rfl (by decide +kernel) ⟨Nat.le_of_ble_eq_true rfl, Nat.le_of_ble_eq_true rfl⟩) (hI.preV f_60 rfl) rfl rfl hl.1 rfl (lv_room (Nat.le_of_ble_eq_true rfl)) dL_law_1325 ⟨(show _ ≤ (601024 : Nat) from by omega), (show _ ≤ (7293034 : Nat) from by omega)⟩) hI (fun r_93 M_95 H_96 locs_97 hp_94 hI => ?_)
      obtain ⟨hr_98, hm_99, hF_100⟩ := hp_94
      have hm_101 : M_95 0 = some (cStore ad qa qs fw) := by rw [hF_100 0 (by omega)]; exact f_0
      have hm_102 : M_95 1 = some (cTape ad len) := by rw [hF_100 1 (by omega)]; exact f_1
      have hm_103 : M_95 2 = some (aI G 400 (nF tb)) := by rw [hF_100 2 (by omega)]; exact f_2
      have hm_104 : M_95 3 = some (cLaws ad ) := by rw [hF_100 3 (by omega)]; exact f_3
      have hm_105 : M_95 4 = some (aI G 36 (nF le)) := by rw [hF_100 4 (by omega)]; exact f_4
      have hm_106 : M_95 5 = some (aI G 36 (nF mo)) := by rw [hF_100 5 (by omega)]; exact f_5
      have hm_107 : M_95 6 = some (aI G 36 (nF al)) := by rw [hF_100 6 (by omega)]; exact f_6
      have hm_108 : M_95 7 = some (aZ G 6 (bF ho)) := by rw [hF_100 7 (by omega)]; exact f_7
      have hm_109 : M_95 8 = some (cOnes ad jn) := by rw [hF_100 8 (by omega)]; exact f_8
      have hm_110 : M_95 9 = some (aI G 40 (nF hg)) := by rw [hF_100 9 (by omega)]; exact f_9
      have hm_111 : M_95 10 = some (aI G 40 (nF lst)) := by rw [hF_100 10 (by omega)]; exact f_10
      have hm_112 : M_95 11 = some (aI G 40 (nF jd)) := by rw [hF_100 11 (by omega)]; exact f_11
      have hm_113 : M_95 12 = some (cEnds ad 12 s0) := by rw [hF_100 12 (by omega)]; exact f_12
      have hm_114 : M_95 13 = some (aI G 6 (nF r0)) := by rw [hF_100 13 (by omega)]; exact f_13
      have hm_115 : M_95 14 = some (aI G 6 (oF th)) := by rw [hF_100 14 (by omega)]; exact f_14
      have hm_116 : M_95 15 = some (aI G 6 (oF ol)) := by rw [hF_100 15 (by omega)]; exact f_15
      have hm_117 : M_95 19 = some (aZ G 120 (bF mm9)) := by rw [hF_100 19 (by omega)]; exact f_19
      have hm_118 : M_95 20 = some (aI G 120 ff) := by rw [hF_100 20 (by omega)]; exact f_20
      have hm_119 : M_95 21 = some (aI G 120 lq) := by rw [hF_100 21 (by omega)]; exact f_21
      have hm_120 : M_95 22 = some (cReader ad ra rb rt rv) := by rw [hF_100 22 (by omega)]; exact f_22
      have hm_121 : M_95 23 = some (cMatcher ad qm pz) := by rw [hF_100 23 (by omega)]; exact f_23
      have hm_122 : M_95 24 = some (aJ G 2160 sx) := by rw [hF_100 24 (by omega)]; exact f_24
      have hm_123 : M_95 25 = some (aI G 6 (nF ft)) := by rw [hF_100 25 (by omega)]; exact f_25
      have hm_124 : M_95 26 = some (aJ G 240 rx) := by rw [hF_100 26 (by omega)]; exact f_26
      have hm_125 : M_95 27 = some (aJ G 3 dm) := by rw [hF_100 27 (by omega)]; exact f_27
      have hm_126 : M_95 28 = some (aI G 3 rc) := by rw [hF_100 28 (by omega)]; exact f_28
      have hm_127 : M_95 qa = some (cQuestion ad qa ao vr) := by rw [hF_100 qa (by omega)]; exact f_qa
      have hm_128 : M_95 (qa + 1) = some (aI G 6 (nF kn)) := by rw [hF_100 (qa + 1) (by omega)]; exact f_qa_1
      have hm_129 : M_95 (qa + 2) = some (aZ G 6 (bF nq)) := by rw [hF_100 (qa + 2) (by omega)]; exact f_qa_2
      have hm_130 : M_95 (qa + 3) = some (aI G 6 (nF pn)) := by rw [hF_100 (qa + 3) (by omega)]; exact f_qa_3
      have hm_131 : M_95 (qa + 4) = some (aI G 6 (nF av)) := by rw [hF_100 (qa + 4) (by omega)]; exact f_qa_4
      have hm_132 : M_95 (qa + 5) = some (aI G 24 (nF ro)) := by rw [hF_100 (qa + 5) (by omega)]; exact f_qa_5
      have hm_133 : M_95 (qa + 6) = some (aI G 24 (nF te)) := by rw [hF_100 (qa + 6) (by omega)]; exact f_qa_6
      have hm_134 : M_95 qs = some (cQuestion ad qs sq su) := by rw [hF_100 qs (by omega)]; exact f_qs
      have hm_135 : M_95 (qs + 1) = some (aI G 6 (nF kb)) := by rw [hF_100 (qs + 1) (by omega)]; exact f_qs_1
      have hm_136 : M_95 (qs + 2) = some (aZ G 6 (bF nb)) := by rw [hF_100 (qs + 2) (by omega)]; exact f_qs_2
      have hm_137 : M_95 (qs + 3) = some (aI G 6 (nF pb)) := by rw [hF_100 (qs + 3) (by omega)]; exact f_qs_3
      have hm_138 : M_95 (qs + 4) = some (aI G 6 (nF ab)) := by rw [hF_100 (qs + 4) (by omega)]; exact f_qs_4
      have hm_139 : M_95 (qs + 5) = some (aI G 24 (nF rbb)) := by rw [hF_100 (qs + 5) (by omega)]; exact f_qs_5
      have hm_140 : M_95 (qs + 6) = some (aI G 24 (nF tbb)) := by rw [hF_100 (qs + 6) (by omega)]; exact f_qs_6
      have hm_141 : M_95 61 = some (aI G 36 (nF le)) := by rw [hF_100 61 (by omega)]; exact f_61
      have hm_142 : M_95 62 = some (aI G 36 (nF mo)) := by rw [hF_100 62 (by omega)]; exact f_62
      have hm_143 : M_95 63 = some (aI G 36 (nF al)) := by rw [hF_100 63 (by omega)]; exact f_63
      have hm_144 : M_95 64 = some (aZ G 6 (bF ho)) := by rw [hF_100 64 (by omega)]; exact f_64
      have hm_145 : M_95 65 = some (aI G 120 (nF mk)) := by rw [hF_100 65 (by omega)]; exact f_65
      have hm_146 : M_95 66 = some (aI G 120 mf) := by rw [hF_100 66 (by omega)]; exact f_66
      have hm_147 : M_95 67 = some (aI G 120 mu) := by rw [hF_100 67 (by omega)]; exact f_67
      have hm_148 : M_95 68 = some (aI G 121 (nF mz)) := by rw [hF_100 68 (by omega)]; exact f_68
      have hm_149 : M_95 69 = some (aI G 726 (nF rr)) := by rw [hF_100 69 (by omega)]; exact f_69
      have hm_150 : M_95 70 = some (aI G 726 (nF ee)) := by rw [hF_100 70 (by omega)]; exact f_70
      have hm_151 : M_95 71 = some (aI G 40 (nF lst)) := by rw [hF_100 71 (by omega)]; exact f_71
      have hm_152 : M_95 72 = some (aI G 40 (nF oa)) := by rw [hF_100 72 (by omega)]; exact f_72
      have hm_153 : M_95 73 = some (aI G 40 (nF ob)) := by rw [hF_100 73 (by omega)]; exact f_73
      have hm_154 : M_95 74 = some (aI G 120 s74) := by rw [hF_100 74 (by omega)]; exact f_74
      have hm_155 : M_95 75 = some (aI G 12 ak) := by rw [hF_100 75 (by omega)]; exact f_75
      have hm_156 : M_95 76 = some (aZ G 12 (bF nm)) := by rw [hF_100 76 (by omega)]; exact f_76
      have hm_157 : M_95 77 = some (aI G 12 (nF ap)) := by rw [hF_100 77 (by omega)]; exact f_77
      have hm_158 : M_95 78 = some (aI G 48 pr) := by rw [hF_100 78 (by omega)]; exact f_78
      have hm_159 : M_95 79 = some (aI G 48 pf) := by rw [hF_100 79 (by omega)]; exact f_79
      have hm_160 : M_95 80 = some (aB G 400 tf) := by rw [hF_100 80 (by omega)]; exact f_80
      have hm_161 : M_95 81 = some (aI G 5 fv) := by rw [hF_100 81 (by omega)]; exact f_81
      have hm_162 : M_95 82 = some (aZ G 384000 (bF tr)) := by rw [hF_100 82 (by omega)]; exact f_82
      have hm_163 : M_95 83 = some (aI G 3 (oF gv)) := by rw [hF_100 83 (by omega)]; exact f_83
      have hm_164 : M_95 84 = some (aI G 3 fo) := by rw [hF_100 84 (by omega)]; exact f_84
      have hm_165 : M_95 85 = some (aZ G 40 (bF re)) := by rw [hF_100 85 (by omega)]; exact f_85
      have hm_166 : M_95 86 = some (aZ G 120 (bF us)) := by rw [hF_100 86 (by omega)]; exact f_86
      have hm_167 : M_95 87 = some (aZ G 120 (bF nx)) := by rw [hF_100 87 (by omega)]; exact f_87
      have hm_168 : M_95 99 = some (aJ G 1 of) := by rw [hF_100 99 (by omega)]; exact f_99
      have hm_169 : M_95 16 = some (cLines ad ) := by rw [hF_100 16 (by omega)]; exact h16
      have hL_170 : LSm G ad M_95 n kd fm to sz rl en := fL.keep (fun j hj => hF_100 j (by omega))
      have hF_171 : ∀ j : Nat, j ≠ 60 → M_95 j = M j := fun j q0 => (hF_100 j q0)
      rw [hr_98]
      refine lv_icmp_eq (tgt := 1333) hx hb dL_law_1328 (by decide) (fun c_172 => ?_) (fun c_172 => ?_)
      · -- 1328: nI n eq
        have c_172 : n = n := (nI_eq (a := n) (b := n) (by omega) (by omega)).mp (c_172)
        refine W.widen (k := cz + 10) (n := sy + 300) (by omega) (by omega) ?_
        exact kk ad M_95 H_96 locs_97 ls n kd fm to sz rl en qa qs fw len tb le mo al ho jn hg lst jd s0 r0 th ol e0 mm9 ff lq ra rb rt rv qm pz sx ft rx dm rc ao vr kn nq pn av ro te sq su kb nb pb ab rbb tbb 0 sn pt zs bg mk mf mu mz rr ee oa ob s74 ak nm ap pr pf tf fv tr gv fo re us nx of hL_170 w1 w2 w3 w4 w5 w6 w7 w8 w9 w10 w11 w12 w13 w14 w15 w16 w17 w18 w19 w20 w21 w22 w23 w24 w25 w26 w27 w28 w29 (fun h9 => by rw [hF_171 17 (by omega), hF_171 18 (by omega)]; exact w30 h9) (by rw [hF_171 29 (by omega)]; exact w31) (fun j9 h9 => by rw [hF_171 j9 (by omega)]; exact w32 j9 h9) hm_101 hm_102 hm_103 hm_104 hm_105 hm_106 hm_107 hm_108 hm_109 hm_110 hm_111 hm_112 hm_113 hm_114 hm_115 hm_116 hm_117 hm_118 hm_119 hm_120 hm_121 hm_122 hm_123 hm_124 hm_125 hm_126 hm_127 hm_128 hm_129 hm_130 hm_131 hm_132 hm_133 hm_134 hm_135 hm_136 hm_137 hm_138 hm_139 hm_140 hm_99 hm_141 hm_142 hm_143 hm_144 hm_145 hm_146 hm_147 hm_148 hm_149 hm_150 hm_151 hm_152 hm_153 hm_154 hm_155 hm_156 hm_157 hm_158 hm_159 hm_160 hm_161 hm_162 hm_163 hm_164 hm_165 hm_166 hm_167 hm_168 hI (lv_sub hl [0, 1, 2, 3, 4] rfl)
      · -- 1328: nI n ne
        have c_172 : n ≠ n := by have h := mt (nI_eq (a := n) (b := n) (by omega) (by omega)).mpr c_172; omega
        exact absurd rfl c_172
    · skip
      refine lv_aload_n hx hb dL_law_1309 rfl (lv_at hl 0 rfl) ?_
      refine lv_iload hx hb dL_law_1310 (lv_at hl 4 rfl) ?_
      refine lv_iconst (v := nI 1) hx hb dL_law_1312 (by decide) ?_
      refine lv_iadd hx hb dL_law_1313 ?_
      refine n_eq (nI_add i 1) ?_
      refine va_sld (A := fr z) hx hb hX hbl hbz hI.S (vp_in_nI (n := i + 1) (by omega) (by omega)) dL_law_1314 ?_
      rw [nI_clamp (by omega)]
      refine n_eq (show _ = nI 1 from et1.trans (congrArg nI hc_86)) ?_
      refine k_Ri (va_runV (As := [.int (nI 1)]) (rest := []) ⟨hx, hb, hml, hown, hts⟩ (c_X9_count_1 l G z ad M (qa := qa) (qs := qs) (fw := fw) (s0 := s0) f_0 f_12) (cwV 1 hts (gV (lwg_of t_445 rfl) (lwg_of t_446 rfl) (lwg_of t_447 rfl) (lwg_of t_1 rfl) (lwg_of t_448 rfl)) rfl rfl rfl (by decide +kernel) ⟨Nat.le_of_ble_eq_true rfl, Nat.le_of_ble_eq_true rfl⟩) (hI.preV f_0 rfl) rfl rfl hl.1 rfl (lv_room (Nat.le_of_ble_eq_true rfl)) dL_law_1315 ⟨(show _ ≤ (601024 : Nat) from by omega), (show _ ≤ (7293034 : Nat) from by omega)⟩) (fun _ h => h) (fun r_173 hp_174 => ?_)
      rw [hp_174]
      refine lv_aload_n hx hb dL_law_1318 rfl (lv_at hl 2 rfl) ?_
      refine lv_aload_n hx hb dL_law_1319 rfl (lv_at hl 0 rfl) ?_
      refine lv_iload hx hb dL_law_1320 (lv_at hl 4 rfl) ?_
      refine lv_iconst (v := nI 1) hx hb dL_law_1322 (by decide) ?_
      refine lv_iadd hx hb dL_law_1323 ?_
      refine n_eq (nI_add i 1) ?_
      refine va_sld (A := fr z) hx hb hX hbl hbz hI.S (vp_in_nI (n := i + 1) (by omega) (by omega)) dL_law_1324 ?_
      rw [nI_clamp (by omega)]
      refine n_eq (show _ = nI 1 from et1.trans (congrArg nI hc_86)) ?_
      refine k_Ni (va_runV (As := [.int (nI 1)]) (rest := [.int (nI s0)]) ⟨hx, hb, hml, hown, hts⟩ (c_X10_count_1 l G z ad M (th := tw) (ln := n) (on := jn) (ao := ao) (vr := vr) (sn := sn) (tp := len) (pt := pt) (zs := zs) (bg := bg) (fa := fw) (mz := mz) f_60 f_68) (cwV 1 hts (gV (lwg_of t_1366 rfl) (lwg_of t_1367 rfl) (lwg_of t_1368 rfl) (lwg_of t_13 rfl) (lwg_of t_1369 rfl)) rfl rfl rfl (by decide +kernel) ⟨Nat.le_of_ble_eq_true rfl, Nat.le_of_ble_eq_true rfl⟩) (hI.preV f_60 rfl) rfl rfl hl.1 rfl (lv_room (Nat.le_of_ble_eq_true rfl)) dL_law_1325 ⟨(show _ ≤ (601024 : Nat) from by omega), (show _ ≤ (7293034 : Nat) from by omega)⟩) hI (fun r_175 M_177 H_178 locs_179 hp_176 hI => ?_)
      obtain ⟨hr_180, hm_181, hF_182⟩ := hp_176
      have hm_183 : M_177 0 = some (cStore ad qa qs fw) := by rw [hF_182 0 (by omega)]; exact f_0
      have hm_184 : M_177 1 = some (cTape ad len) := by rw [hF_182 1 (by omega)]; exact f_1
      have hm_185 : M_177 2 = some (aI G 400 (nF tb)) := by rw [hF_182 2 (by omega)]; exact f_2
      have hm_186 : M_177 3 = some (cLaws ad ) := by rw [hF_182 3 (by omega)]; exact f_3
      have hm_187 : M_177 4 = some (aI G 36 (nF le)) := by rw [hF_182 4 (by omega)]; exact f_4
      have hm_188 : M_177 5 = some (aI G 36 (nF mo)) := by rw [hF_182 5 (by omega)]; exact f_5
      have hm_189 : M_177 6 = some (aI G 36 (nF al)) := by rw [hF_182 6 (by omega)]; exact f_6
      have hm_190 : M_177 7 = some (aZ G 6 (bF ho)) := by rw [hF_182 7 (by omega)]; exact f_7
      have hm_191 : M_177 8 = some (cOnes ad jn) := by rw [hF_182 8 (by omega)]; exact f_8
      have hm_192 : M_177 9 = some (aI G 40 (nF hg)) := by rw [hF_182 9 (by omega)]; exact f_9
      have hm_193 : M_177 10 = some (aI G 40 (nF lst)) := by rw [hF_182 10 (by omega)]; exact f_10
      have hm_194 : M_177 11 = some (aI G 40 (nF jd)) := by rw [hF_182 11 (by omega)]; exact f_11
      have hm_195 : M_177 12 = some (cEnds ad 12 s0) := by rw [hF_182 12 (by omega)]; exact f_12
      have hm_196 : M_177 13 = some (aI G 6 (nF r0)) := by rw [hF_182 13 (by omega)]; exact f_13
      have hm_197 : M_177 14 = some (aI G 6 (oF th)) := by rw [hF_182 14 (by omega)]; exact f_14
      have hm_198 : M_177 15 = some (aI G 6 (oF ol)) := by rw [hF_182 15 (by omega)]; exact f_15
      have hm_199 : M_177 19 = some (aZ G 120 (bF mm9)) := by rw [hF_182 19 (by omega)]; exact f_19
      have hm_200 : M_177 20 = some (aI G 120 ff) := by rw [hF_182 20 (by omega)]; exact f_20
      have hm_201 : M_177 21 = some (aI G 120 lq) := by rw [hF_182 21 (by omega)]; exact f_21
      have hm_202 : M_177 22 = some (cReader ad ra rb rt rv) := by rw [hF_182 22 (by omega)]; exact f_22
      have hm_203 : M_177 23 = some (cMatcher ad qm pz) := by rw [hF_182 23 (by omega)]; exact f_23
      have hm_204 : M_177 24 = some (aJ G 2160 sx) := by rw [hF_182 24 (by omega)]; exact f_24
      have hm_205 : M_177 25 = some (aI G 6 (nF ft)) := by rw [hF_182 25 (by omega)]; exact f_25
      have hm_206 : M_177 26 = some (aJ G 240 rx) := by rw [hF_182 26 (by omega)]; exact f_26
      have hm_207 : M_177 27 = some (aJ G 3 dm) := by rw [hF_182 27 (by omega)]; exact f_27
      have hm_208 : M_177 28 = some (aI G 3 rc) := by rw [hF_182 28 (by omega)]; exact f_28
      have hm_209 : M_177 qa = some (cQuestion ad qa ao vr) := by rw [hF_182 qa (by omega)]; exact f_qa
      have hm_210 : M_177 (qa + 1) = some (aI G 6 (nF kn)) := by rw [hF_182 (qa + 1) (by omega)]; exact f_qa_1
      have hm_211 : M_177 (qa + 2) = some (aZ G 6 (bF nq)) := by rw [hF_182 (qa + 2) (by omega)]; exact f_qa_2
      have hm_212 : M_177 (qa + 3) = some (aI G 6 (nF pn)) := by rw [hF_182 (qa + 3) (by omega)]; exact f_qa_3
      have hm_213 : M_177 (qa + 4) = some (aI G 6 (nF av)) := by rw [hF_182 (qa + 4) (by omega)]; exact f_qa_4
      have hm_214 : M_177 (qa + 5) = some (aI G 24 (nF ro)) := by rw [hF_182 (qa + 5) (by omega)]; exact f_qa_5
      have hm_215 : M_177 (qa + 6) = some (aI G 24 (nF te)) := by rw [hF_182 (qa + 6) (by omega)]; exact f_qa_6
      have hm_216 : M_177 qs = some (cQuestion ad qs sq su) := by rw [hF_182 qs (by omega)]; exact f_qs
      have hm_217 : M_177 (qs + 1) = some (aI G 6 (nF kb)) := by rw [hF_182 (qs + 1) (by omega)]; exact f_qs_1
      have hm_218 : M_177 (qs + 2) = some (aZ G 6 (bF nb)) := by rw [hF_182 (qs + 2) (by omega)]; exact f_qs_2
      have hm_219 : M_177 (qs + 3) = some (aI G 6 (nF pb)) := by rw [hF_182 (qs + 3) (by omega)]; exact f_qs_3
      have hm_220 : M_177 (qs + 4) = some (aI G 6 (nF ab)) := by rw [hF_182 (qs + 4) (by omega)]; exact f_qs_4
      have hm_221 : M_177 (qs + 5) = some (aI G 24 (nF rbb)) := by rw [hF_182 (qs + 5) (by omega)]; exact f_qs_5
      have hm_222 : M_177 (qs + 6) = some (aI G 24 (nF tbb)) := by rw [hF_182 (qs + 6) (by omega)]; exact f_qs_6
      have hm_223 : M_177 61 = some (aI G 36 (nF le)) := by rw [hF_182 61 (by omega)]; exact f_61
      have hm_224 : M_177 62 = some (aI G 36 (nF mo)) := by rw [hF_182 62 (by omega)]; exact f_62
      have hm_225 : M_177 63 = some (aI G 36 (nF al)) := by rw [hF_182 63 (by omega)]; exact f_63
      have hm_226 : M_177 64 = some (aZ G 6 (bF ho)) := by rw [hF_182 64 (by omega)]; exact f_64
      have hm_227 : M_177 65 = some (aI G 120 (nF mk)) := by rw [hF_182 65 (by omega)]; exact f_65
      have hm_228 : M_177 66 = some (aI G 120 mf) := by rw [hF_182 66 (by omega)]; exact f_66
      have hm_229 : M_177 67 = some (aI G 120 mu) := by rw [hF_182 67 (by omega)]; exact f_67
      have hm_230 : M_177 68 = some (aI G 121 (nF mz)) := by rw [hF_182 68 (by omega)]; exact f_68
      have hm_231 : M_177 69 = some (aI G 726 (nF rr)) := by rw [hF_182 69 (by omega)]; exact f_69
      have hm_232 : M_177 70 = some (aI G 726 (nF ee)) := by rw [hF_182 70 (by omega)]; exact f_70
      have hm_233 : M_177 71 = some (aI G 40 (nF lst)) := by rw [hF_182 71 (by omega)]; exact f_71
      have hm_234 : M_177 72 = some (aI G 40 (nF oa)) := by rw [hF_182 72 (by omega)]; exact f_72
      have hm_235 : M_177 73 = some (aI G 40 (nF ob)) := by rw [hF_182 73 (by omega)]; exact f_73
      have hm_236 : M_177 74 = some (aI G 120 s74) := by rw [hF_182 74 (by omega)]; exact f_74
      have hm_237 : M_177 75 = some (aI G 12 ak) := by rw [hF_182 75 (by omega)]; exact f_75
      have hm_238 : M_177 76 = some (aZ G 12 (bF nm)) := by rw [hF_182 76 (by omega)]; exact f_76
      have hm_239 : M_177 77 = some (aI G 12 (nF ap)) := by rw [hF_182 77 (by omega)]; exact f_77
      have hm_240 : M_177 78 = some (aI G 48 pr) := by rw [hF_182 78 (by omega)]; exact f_78
      have hm_241 : M_177 79 = some (aI G 48 pf) := by rw [hF_182 79 (by omega)]; exact f_79
      have hm_242 : M_177 80 = some (aB G 400 tf) := by rw [hF_182 80 (by omega)]; exact f_80
      have hm_243 : M_177 81 = some (aI G 5 fv) := by rw [hF_182 81 (by omega)]; exact f_81
      have hm_244 : M_177 82 = some (aZ G 384000 (bF tr)) := by rw [hF_182 82 (by omega)]; exact f_82
      have hm_245 : M_177 83 = some (aI G 3 (oF gv)) := by rw [hF_182 83 (by omega)]; exact f_83
      have hm_246 : M_177 84 = some (aI G 3 fo) := by rw [hF_182 84 (by omega)]; exact f_84
      have hm_247 : M_177 85 = some (aZ G 40 (bF re)) := by rw [hF_182 85 (by omega)]; exact f_85
      have hm_248 : M_177 86 = some (aZ G 120 (bF us)) := by rw [hF_182 86 (by omega)]; exact f_86
      have hm_249 : M_177 87 = some (aZ G 120 (bF nx)) := by rw [hF_182 87 (by omega)]; exact f_87
      have hm_250 : M_177 99 = some (aJ G 1 of) := by rw [hF_182 99 (by omega)]; exact f_99
      have hm_251 : M_177 16 = some (cLines ad ) := by rw [hF_182 16 (by omega)]; exact h16
      have hL_252 : LSm G ad M_177 n kd fm to sz rl en := fL.keep (fun j hj => hF_182 j (by omega))
      have hF_253 : ∀ j : Nat, j ≠ 60 → M_177 j = M j := fun j q0 => (hF_182 j q0)
      rw [hr_180]
      refine lv_icmp_eq (tgt := 1333) hx hb dL_law_1328 (by decide) (fun c_254 => ?_) (fun c_254 => ?_)
      · -- 1328: nI s0 eq
        have c_254 : s0 = mz 120 := (nI_eq (a := s0) (b := mz 120) (by omega) (by omega)).mp (c_254)
        refine W.widen (k := cz + 10) (n := sy + 300) (by omega) (by omega) ?_
        exact kk ad M_177 H_178 locs_179 ls n kd fm to sz rl en qa qs fw len tb le mo al ho jn hg lst jd s0 r0 th ol e0 mm9 ff lq ra rb rt rv qm pz sx ft rx dm rc ao vr kn nq pn av ro te sq su kb nb pb ab rbb tbb 0 sn pt zs bg mk mf mu mz rr ee oa ob s74 ak nm ap pr pf tf fv tr gv fo re us nx of hL_252 w1 w2 w3 w4 w5 w6 w7 w8 w9 w10 w11 w12 w13 w14 w15 w16 w17 w18 w19 w20 w21 w22 w23 w24 w25 w26 w27 w28 w29 (fun h9 => by rw [hF_253 17 (by omega), hF_253 18 (by omega)]; exact w30 h9) (by rw [hF_253 29 (by omega)]; exact w31) (fun j9 h9 => by rw [hF_253 j9 (by omega)]; exact w32 j9 h9) hm_183 hm_184 hm_185 hm_186 hm_187 hm_188 hm_189 hm_190 hm_191 hm_192 hm_193 hm_194 hm_195 hm_196 hm_197 hm_198 hm_199 hm_200 hm_201 hm_202 hm_203 hm_204 hm_205 hm_206 hm_207 hm_208 hm_209 hm_210 hm_211 hm_212 hm_213 hm_214 hm_215 hm_216 hm_217 hm_218 hm_219 hm_220 hm_221 hm_222 hm_181 hm_223 hm_224 hm_225 hm_226 hm_227 hm_228 hm_229 hm_230 hm_231 hm_232 hm_233 hm_234 hm_235 hm_236 hm_237 hm_238 hm_239 hm_240 hm_241 hm_242 hm_243 hm_244 hm_245 hm_246 hm_247 hm_248 hm_249 hm_250 hI (lv_sub hl [0, 1, 2, 3, 4] rfl)
      · -- 1328: nI s0 ne
        have c_254 : s0 ≠ mz 120 := by have h := mt (nI_eq (a := s0) (b := mz 120) (by omega) (by omega)).mpr c_254; omega
        omega
    · skip
      refine lv_aload_n hx hb dL_law_1309 rfl (lv_at hl 0 rfl) ?_
      refine lv_iload hx hb dL_law_1310 (lv_at hl 4 rfl) ?_
      refine lv_iconst (v := nI 1) hx hb dL_law_1312 (by decide) ?_
      refine lv_iadd hx hb dL_law_1313 ?_
      refine n_eq (nI_add i 1) ?_
      refine va_sld (A := fr z) hx hb hX hbl hbz hI.S (vp_in_nI (n := i + 1) (by omega) (by omega)) dL_law_1314 ?_
      rw [nI_clamp (by omega)]
      refine n_eq (show _ = nI 2 from et1.trans (congrArg nI hc_87)) ?_
      refine k_Ri (va_runV (As := [.int (nI 2)]) (rest := []) ⟨hx, hb, hml, hown, hts⟩ (c_X9_count_2 l G z ad M (qa := qa) (qs := qs) (fw := fw) (jn := jn) f_0 f_8) (cwV 1 hts (gV (lwg_of t_445 rfl) (lwg_of t_446 rfl) (lwg_of t_447 rfl) (lwg_of t_1 rfl) (lwg_of t_448 rfl)) rfl rfl rfl (by decide +kernel) ⟨Nat.le_of_ble_eq_true rfl, Nat.le_of_ble_eq_true rfl⟩) (hI.preV f_0 rfl) rfl rfl hl.1 rfl (lv_room (Nat.le_of_ble_eq_true rfl)) dL_law_1315 ⟨(show _ ≤ (601024 : Nat) from by omega), (show _ ≤ (7293034 : Nat) from by omega)⟩) (fun _ h => h) (fun r_255 hp_256 => ?_)
      rw [hp_256]
      refine lv_aload_n hx hb dL_law_1318 rfl (lv_at hl 2 rfl) ?_
      refine lv_aload_n hx hb dL_law_1319 rfl (lv_at hl 0 rfl) ?_
      refine lv_iload hx hb dL_law_1320 (lv_at hl 4 rfl) ?_
      refine lv_iconst (v := nI 1) hx hb dL_law_1322 (by decide) ?_
      refine lv_iadd hx hb dL_law_1323 ?_
      refine n_eq (nI_add i 1) ?_
      refine va_sld (A := fr z) hx hb hX hbl hbz hI.S (vp_in_nI (n := i + 1) (by omega) (by omega)) dL_law_1324 ?_
      rw [nI_clamp (by omega)]
      refine n_eq (show _ = nI 2 from et1.trans (congrArg nI hc_87)) ?_
      refine k_Ni (va_runV (As := [.int (nI 2)]) (rest := [.int (nI jn)]) ⟨hx, hb, hml, hown, hts⟩ (c_X10_count_2 l G z ad M (th := tw) (ln := n) (on := jn) (ao := ao) (vr := vr) (sn := sn) (tp := len) (pt := pt) (zs := zs) (bg := bg) (fa := fw) f_60) (cwV 1 hts (gV (lwg_of t_1366 rfl) (lwg_of t_1367 rfl) (lwg_of t_1368 rfl) (lwg_of t_13 rfl) (lwg_of t_1369 rfl)) rfl rfl rfl (by decide +kernel) ⟨Nat.le_of_ble_eq_true rfl, Nat.le_of_ble_eq_true rfl⟩) (hI.preV f_60 rfl) rfl rfl hl.1 rfl (lv_room (Nat.le_of_ble_eq_true rfl)) dL_law_1325 ⟨(show _ ≤ (601024 : Nat) from by omega), (show _ ≤ (7293034 : Nat) from by omega)⟩) hI (fun r_257 M_259 H_260 locs_261 hp_258 hI => ?_)
      obtain ⟨hr_262, hm_263, hF_264⟩ := hp_258
      have hm_265 : M_259 0 = some (cStore ad qa qs fw) := by rw [hF_264 0 (by omega)]; exact f_0
      have hm_266 : M_259 1 = some (cTape ad len) := by rw [hF_264 1 (by omega)]; exact f_1
      have hm_267 : M_259 2 = some (aI G 400 (nF tb)) := by rw [hF_264 2 (by omega)]; exact f_2
      have hm_268 : M_259 3 = some (cLaws ad ) := by rw [hF_264 3 (by omega)]; exact f_3
      have hm_269 : M_259 4 = some (aI G 36 (nF le)) := by rw [hF_264 4 (by omega)]; exact f_4
      have hm_270 : M_259 5 = some (aI G 36 (nF mo)) := by rw [hF_264 5 (by omega)]; exact f_5
      have hm_271 : M_259 6 = some (aI G 36 (nF al)) := by rw [hF_264 6 (by omega)]; exact f_6
      have hm_272 : M_259 7 = some (aZ G 6 (bF ho)) := by rw [hF_264 7 (by omega)]; exact f_7
      have hm_273 : M_259 8 = some (cOnes ad jn) := by rw [hF_264 8 (by omega)]; exact f_8
      have hm_274 : M_259 9 = some (aI G 40 (nF hg)) := by rw [hF_264 9 (by omega)]; exact f_9
      have hm_275 : M_259 10 = some (aI G 40 (nF lst)) := by rw [hF_264 10 (by omega)]; exact f_10
      have hm_276 : M_259 11 = some (aI G 40 (nF jd)) := by rw [hF_264 11 (by omega)]; exact f_11
      have hm_277 : M_259 12 = some (cEnds ad 12 s0) := by rw [hF_264 12 (by omega)]; exact f_12
      have hm_278 : M_259 13 = some (aI G 6 (nF r0)) := by rw [hF_264 13 (by omega)]; exact f_13
      have hm_279 : M_259 14 = some (aI G 6 (oF th)) := by rw [hF_264 14 (by omega)]; exact f_14
      have hm_280 : M_259 15 = some (aI G 6 (oF ol)) := by rw [hF_264 15 (by omega)]; exact f_15
      have hm_281 : M_259 19 = some (aZ G 120 (bF mm9)) := by rw [hF_264 19 (by omega)]; exact f_19
      have hm_282 : M_259 20 = some (aI G 120 ff) := by rw [hF_264 20 (by omega)]; exact f_20
      have hm_283 : M_259 21 = some (aI G 120 lq) := by rw [hF_264 21 (by omega)]; exact f_21
      have hm_284 : M_259 22 = some (cReader ad ra rb rt rv) := by rw [hF_264 22 (by omega)]; exact f_22
      have hm_285 : M_259 23 = some (cMatcher ad qm pz) := by rw [hF_264 23 (by omega)]; exact f_23
      have hm_286 : M_259 24 = some (aJ G 2160 sx) := by rw [hF_264 24 (by omega)]; exact f_24
      have hm_287 : M_259 25 = some (aI G 6 (nF ft)) := by rw [hF_264 25 (by omega)]; exact f_25
      have hm_288 : M_259 26 = some (aJ G 240 rx) := by rw [hF_264 26 (by omega)]; exact f_26
      have hm_289 : M_259 27 = some (aJ G 3 dm) := by rw [hF_264 27 (by omega)]; exact f_27
      have hm_290 : M_259 28 = some (aI G 3 rc) := by rw [hF_264 28 (by omega)]; exact f_28
      have hm_291 : M_259 qa = some (cQuestion ad qa ao vr) := by rw [hF_264 qa (by omega)]; exact f_qa
      have hm_292 : M_259 (qa + 1) = some (aI G 6 (nF kn)) := by rw [hF_264 (qa + 1) (by omega)]; exact f_qa_1
      have hm_293 : M_259 (qa + 2) = some (aZ G 6 (bF nq)) := by rw [hF_264 (qa + 2) (by omega)]; exact f_qa_2
      have hm_294 : M_259 (qa + 3) = some (aI G 6 (nF pn)) := by rw [hF_264 (qa + 3) (by omega)]; exact f_qa_3
      have hm_295 : M_259 (qa + 4) = some (aI G 6 (nF av)) := by rw [hF_264 (qa + 4) (by omega)]; exact f_qa_4
      have hm_296 : M_259 (qa + 5) = some (aI G 24 (nF ro)) := by rw [hF_264 (qa + 5) (by omega)]; exact f_qa_5
      have hm_297 : M_259 (qa + 6) = some (aI G 24 (nF te)) := by rw [hF_264 (qa + 6) (by omega)]; exact f_qa_6
      have hm_298 : M_259 qs = some (cQuestion ad qs sq su) := by rw [hF_264 qs (by omega)]; exact f_qs
      have hm_299 : M_259 (qs + 1) = some (aI G 6 (nF kb)) := by rw [hF_264 (qs + 1) (by omega)]; exact f_qs_1
      have hm_300 : M_259 (qs + 2) = some (aZ G 6 (bF nb)) := by rw [hF_264 (qs + 2) (by omega)]; exact f_qs_2
      have hm_301 : M_259 (qs + 3) = some (aI G 6 (nF pb)) := by rw [hF_264 (qs + 3) (by omega)]; exact f_qs_3
      have hm_302 : M_259 (qs + 4) = some (aI G 6 (nF ab)) := by rw [hF_264 (qs + 4) (by omega)]; exact f_qs_4
      have hm_303 : M_259 (qs + 5) = some (aI G 24 (nF rbb)) := by rw [hF_264 (qs + 5) (by omega)]; exact f_qs_5
      have hm_304 : M_259 (qs + 6) = some (aI G 24 (nF tbb)) := by rw [hF_264 (qs + 6) (by omega)]; exact f_qs_6
      have hm_305 : M_259 61 = some (aI G 36 (nF le)) := by rw [hF_264 61 (by omega)]; exact f_61
      have hm_306 : M_259 62 = some (aI G 36 (nF mo)) := by rw [hF_264 62 (by omega)]; exact f_62
      have hm_307 : M_259 63 = some (aI G 36 (nF al)) := by rw [hF_264 63 (by omega)]; exact f_63
      have hm_308 : M_259 64 = some (aZ G 6 (bF ho)) := by rw [hF_264 64 (by omega)]; exact f_64
      have hm_309 : M_259 65 = some (aI G 120 (nF mk)) := by rw [hF_264 65 (by omega)]; exact f_65
      have hm_310 : M_259 66 = some (aI G 120 mf) := by rw [hF_264 66 (by omega)]; exact f_66
      have hm_311 : M_259 67 = some (aI G 120 mu) := by rw [hF_264 67 (by omega)]; exact f_67
      have hm_312 : M_259 68 = some (aI G 121 (nF mz)) := by rw [hF_264 68 (by omega)]; exact f_68
      have hm_313 : M_259 69 = some (aI G 726 (nF rr)) := by rw [hF_264 69 (by omega)]; exact f_69
      have hm_314 : M_259 70 = some (aI G 726 (nF ee)) := by rw [hF_264 70 (by omega)]; exact f_70
      have hm_315 : M_259 71 = some (aI G 40 (nF lst)) := by rw [hF_264 71 (by omega)]; exact f_71
      have hm_316 : M_259 72 = some (aI G 40 (nF oa)) := by rw [hF_264 72 (by omega)]; exact f_72
      have hm_317 : M_259 73 = some (aI G 40 (nF ob)) := by rw [hF_264 73 (by omega)]; exact f_73
      have hm_318 : M_259 74 = some (aI G 120 s74) := by rw [hF_264 74 (by omega)]; exact f_74
      have hm_319 : M_259 75 = some (aI G 12 ak) := by rw [hF_264 75 (by omega)]; exact f_75
      have hm_320 : M_259 76 = some (aZ G 12 (bF nm)) := by rw [hF_264 76 (by omega)]; exact f_76
      have hm_321 : M_259 77 = some (aI G 12 (nF ap)) := by rw [hF_264 77 (by omega)]; exact f_77
      have hm_322 : M_259 78 = some (aI G 48 pr) := by rw [hF_264 78 (by omega)]; exact f_78
      have hm_323 : M_259 79 = some (aI G 48 pf) := by rw [hF_264 79 (by omega)]; exact f_79
      have hm_324 : M_259 80 = some (aB G 400 tf) := by rw [hF_264 80 (by omega)]; exact f_80
      have hm_325 : M_259 81 = some (aI G 5 fv) := by rw [hF_264 81 (by omega)]; exact f_81
      have hm_326 : M_259 82 = some (aZ G 384000 (bF tr)) := by rw [hF_264 82 (by omega)]; exact f_82
      have hm_327 : M_259 83 = some (aI G 3 (oF gv)) := by rw [hF_264 83 (by omega)]; exact f_83
      have hm_328 : M_259 84 = some (aI G 3 fo) := by rw [hF_264 84 (by omega)]; exact f_84
      have hm_329 : M_259 85 = some (aZ G 40 (bF re)) := by rw [hF_264 85 (by omega)]; exact f_85
      have hm_330 : M_259 86 = some (aZ G 120 (bF us)) := by rw [hF_264 86 (by omega)]; exact f_86
      have hm_331 : M_259 87 = some (aZ G 120 (bF nx)) := by rw [hF_264 87 (by omega)]; exact f_87
      have hm_332 : M_259 99 = some (aJ G 1 of) := by rw [hF_264 99 (by omega)]; exact f_99
      have hm_333 : M_259 16 = some (cLines ad ) := by rw [hF_264 16 (by omega)]; exact h16
      have hL_334 : LSm G ad M_259 n kd fm to sz rl en := fL.keep (fun j hj => hF_264 j (by omega))
      have hF_335 : ∀ j : Nat, j ≠ 60 → M_259 j = M j := fun j q0 => (hF_264 j q0)
      rw [hr_262]
      refine lv_icmp_eq (tgt := 1333) hx hb dL_law_1328 (by decide) (fun c_336 => ?_) (fun c_336 => ?_)
      · -- 1328: nI jn eq
        have c_336 : jn = jn := (nI_eq (a := jn) (b := jn) (by omega) (by omega)).mp (c_336)
        refine W.widen (k := cz + 10) (n := sy + 300) (by omega) (by omega) ?_
        exact kk ad M_259 H_260 locs_261 ls n kd fm to sz rl en qa qs fw len tb le mo al ho jn hg lst jd s0 r0 th ol e0 mm9 ff lq ra rb rt rv qm pz sx ft rx dm rc ao vr kn nq pn av ro te sq su kb nb pb ab rbb tbb 0 sn pt zs bg mk mf mu mz rr ee oa ob s74 ak nm ap pr pf tf fv tr gv fo re us nx of hL_334 w1 w2 w3 w4 w5 w6 w7 w8 w9 w10 w11 w12 w13 w14 w15 w16 w17 w18 w19 w20 w21 w22 w23 w24 w25 w26 w27 w28 w29 (fun h9 => by rw [hF_335 17 (by omega), hF_335 18 (by omega)]; exact w30 h9) (by rw [hF_335 29 (by omega)]; exact w31) (fun j9 h9 => by rw [hF_335 j9 (by omega)]; exact w32 j9 h9) hm_265 hm_266 hm_267 hm_268 hm_269 hm_270 hm_271 hm_272 hm_273 hm_274 hm_275 hm_276 hm_277 hm_278 hm_279 hm_280 hm_281 hm_282 hm_283 hm_284 hm_285 hm_286 hm_287 hm_288 hm_289 hm_290 hm_291 hm_292 hm_293 hm_294 hm_295 hm_296 hm_297 hm_298 hm_299 hm_300 hm_301 hm_302 hm_303 hm_304 hm_263 hm_305 hm_306 hm_307 hm_308 hm_309 hm_310 hm_311 hm_312 hm_313 hm_314 hm_315 hm_316 hm_317 hm_318 hm_319 hm_320 hm_321 hm_322 hm_323 hm_324 hm_325 hm_326 hm_327 hm_328 hm_329 hm_330 hm_331 hm_332 hI (lv_sub hl [0, 1, 2, 3, 4] rfl)
      · -- 1328: nI jn ne
        have c_336 : jn ≠ jn := by have h := mt (nI_eq (a := jn) (b := jn) (by omega) (by omega)).mpr c_336; omega
        exact absurd rfl c_336
    · skip
      refine lv_aload_n hx hb dL_law_1309 rfl (lv_at hl 0 rfl) ?_
      refine lv_iload hx hb dL_law_1310 (lv_at hl 4 rfl) ?_
      refine lv_iconst (v := nI 1) hx hb dL_law_1312 (by decide) ?_
      refine lv_iadd hx hb dL_law_1313 ?_
      refine n_eq (nI_add i 1) ?_
      refine va_sld (A := fr z) hx hb hX hbl hbz hI.S (vp_in_nI (n := i + 1) (by omega) (by omega)) dL_law_1314 ?_
      rw [nI_clamp (by omega)]
      refine n_eq (show _ = nI 3 from et1.trans (congrArg nI hc_88)) ?_
      refine k_Ri (va_runV (As := [.int (nI 3)]) (rest := []) ⟨hx, hb, hml, hown, hts⟩ (c_X9_count_3 l G z ad M (qa := qa) (qs := qs) (fw := fw) (jn := jn) f_0 f_8 (ji_le w3)) (cwV 1 hts (gV (lwg_of t_445 rfl) (lwg_of t_446 rfl) (lwg_of t_447 rfl) (lwg_of t_1 rfl) (lwg_of t_448 rfl)) rfl rfl rfl (by decide +kernel) ⟨Nat.le_of_ble_eq_true rfl, Nat.le_of_ble_eq_true rfl⟩) (hI.preV f_0 rfl) rfl rfl hl.1 rfl (lv_room (Nat.le_of_ble_eq_true rfl)) dL_law_1315 ⟨(show _ ≤ (601024 : Nat) from by omega), (show _ ≤ (7293034 : Nat) from by omega)⟩) (fun _ h => h) (fun r_337 hp_338 => ?_)
      rw [hp_338]
      refine lv_aload_n hx hb dL_law_1318 rfl (lv_at hl 2 rfl) ?_
      refine lv_aload_n hx hb dL_law_1319 rfl (lv_at hl 0 rfl) ?_
      refine lv_iload hx hb dL_law_1320 (lv_at hl 4 rfl) ?_
      refine lv_iconst (v := nI 1) hx hb dL_law_1322 (by decide) ?_
      refine lv_iadd hx hb dL_law_1323 ?_
      refine n_eq (nI_add i 1) ?_
      refine va_sld (A := fr z) hx hb hX hbl hbz hI.S (vp_in_nI (n := i + 1) (by omega) (by omega)) dL_law_1324 ?_
      rw [nI_clamp (by omega)]
      refine n_eq (show _ = nI 3 from et1.trans (congrArg nI hc_88)) ?_
      refine k_Ni (va_runV (As := [.int (nI 3)]) (rest := [.int (nI (40 - jn))]) ⟨hx, hb, hml, hown, hts⟩ (c_X10_count_3 l G z ad M (th := tw) (ln := n) (on := jn) (ao := ao) (vr := vr) (sn := sn) (tp := len) (pt := pt) (zs := zs) (bg := bg) (fa := fw) (lst := lst) f_60 f_71 hlst) (cwV 1 hts (gV (lwg_of t_1366 rfl) (lwg_of t_1367 rfl) (lwg_of t_1368 rfl) (lwg_of t_13 rfl) (lwg_of t_1369 rfl)) rfl rfl rfl (by decide +kernel) ⟨Nat.le_of_ble_eq_true rfl, Nat.le_of_ble_eq_true rfl⟩) (hI.preV f_60 rfl) rfl rfl hl.1 rfl (lv_room (Nat.le_of_ble_eq_true rfl)) dL_law_1325 ⟨(show _ ≤ (601024 : Nat) from by omega), (show _ ≤ (7293034 : Nat) from by omega)⟩) hI (fun r_339 M_341 H_342 locs_343 hp_340 hI => ?_)
      obtain ⟨hr_344, hm_345, hF_346⟩ := hp_340
      have hm_347 : M_341 0 = some (cStore ad qa qs fw) := by rw [hF_346 0 (by omega)]; exact f_0
      have hm_348 : M_341 1 = some (cTape ad len) := by rw [hF_346 1 (by omega)]; exact f_1
      have hm_349 : M_341 2 = some (aI G 400 (nF tb)) := by rw [hF_346 2 (by omega)]; exact f_2
      have hm_350 : M_341 3 = some (cLaws ad ) := by rw [hF_346 3 (by omega)]; exact f_3
      have hm_351 : M_341 4 = some (aI G 36 (nF le)) := by rw [hF_346 4 (by omega)]; exact f_4
      have hm_352 : M_341 5 = some (aI G 36 (nF mo)) := by rw [hF_346 5 (by omega)]; exact f_5
      have hm_353 : M_341 6 = some (aI G 36 (nF al)) := by rw [hF_346 6 (by omega)]; exact f_6
      have hm_354 : M_341 7 = some (aZ G 6 (bF ho)) := by rw [hF_346 7 (by omega)]; exact f_7
      have hm_355 : M_341 8 = some (cOnes ad jn) := by rw [hF_346 8 (by omega)]; exact f_8
      have hm_356 : M_341 9 = some (aI G 40 (nF hg)) := by rw [hF_346 9 (by omega)]; exact f_9
      have hm_357 : M_341 10 = some (aI G 40 (nF lst)) := by rw [hF_346 10 (by omega)]; exact f_10
      have hm_358 : M_341 11 = some (aI G 40 (nF jd)) := by rw [hF_346 11 (by omega)]; exact f_11
      have hm_359 : M_341 12 = some (cEnds ad 12 s0) := by rw [hF_346 12 (by omega)]; exact f_12
      have hm_360 : M_341 13 = some (aI G 6 (nF r0)) := by rw [hF_346 13 (by omega)]; exact f_13
      have hm_361 : M_341 14 = some (aI G 6 (oF th)) := by rw [hF_346 14 (by omega)]; exact f_14
      have hm_362 : M_341 15 = some (aI G 6 (oF ol)) := by rw [hF_346 15 (by omega)]; exact f_15
      have hm_363 : M_341 19 = some (aZ G 120 (bF mm9)) := by rw [hF_346 19 (by omega)]; exact f_19
      have hm_364 : M_341 20 = some (aI G 120 ff) := by rw [hF_346 20 (by omega)]; exact f_20
      have hm_365 : M_341 21 = some (aI G 120 lq) := by rw [hF_346 21 (by omega)]; exact f_21
      have hm_366 : M_341 22 = some (cReader ad ra rb rt rv) := by rw [hF_346 22 (by omega)]; exact f_22
      have hm_367 : M_341 23 = some (cMatcher ad qm pz) := by rw [hF_346 23 (by omega)]; exact f_23
      have hm_368 : M_341 24 = some (aJ G 2160 sx) := by rw [hF_346 24 (by omega)]; exact f_24
      have hm_369 : M_341 25 = some (aI G 6 (nF ft)) := by rw [hF_346 25 (by omega)]; exact f_25
      have hm_370 : M_341 26 = some (aJ G 240 rx) := by rw [hF_346 26 (by omega)]; exact f_26
      have hm_371 : M_341 27 = some (aJ G 3 dm) := by rw [hF_346 27 (by omega)]; exact f_27
      have hm_372 : M_341 28 = some (aI G 3 rc) := by rw [hF_346 28 (by omega)]; exact f_28
      have hm_373 : M_341 qa = some (cQuestion ad qa ao vr) := by rw [hF_346 qa (by omega)]; exact f_qa
      have hm_374 : M_341 (qa + 1) = some (aI G 6 (nF kn)) := by rw [hF_346 (qa + 1) (by omega)]; exact f_qa_1
      have hm_375 : M_341 (qa + 2) = some (aZ G 6 (bF nq)) := by rw [hF_346 (qa + 2) (by omega)]; exact f_qa_2
      have hm_376 : M_341 (qa + 3) = some (aI G 6 (nF pn)) := by rw [hF_346 (qa + 3) (by omega)]; exact f_qa_3
      have hm_377 : M_341 (qa + 4) = some (aI G 6 (nF av)) := by rw [hF_346 (qa + 4) (by omega)]; exact f_qa_4
      have hm_378 : M_341 (qa + 5) = some (aI G 24 (nF ro)) := by rw [hF_346 (qa + 5) (by omega)]; exact f_qa_5
      have hm_379 : M_341 (qa + 6) = some (aI G 24 (nF te)) := by rw [hF_346 (qa + 6) (by omega)]; exact f_qa_6
      have hm_380 : M_341 qs = some (cQuestion ad qs sq su) := by rw [hF_346 qs (by omega)]; exact f_qs
      have hm_381 : M_341 (qs + 1) = some (aI G 6 (nF kb)) := by rw [hF_346 (qs + 1) (by omega)]; exact f_qs_1
      have hm_382 : M_341 (qs + 2) = some (aZ G 6 (bF nb)) := by rw [hF_346 (qs + 2) (by omega)]; exact f_qs_2
      have hm_383 : M_341 (qs + 3) = some (aI G 6 (nF pb)) := by rw [hF_346 (qs + 3) (by omega)]; exact f_qs_3
      have hm_384 : M_341 (qs + 4) = some (aI G 6 (nF ab)) := by rw [hF_346 (qs + 4) (by omega)]; exact f_qs_4
      have hm_385 : M_341 (qs + 5) = some (aI G 24 (nF rbb)) := by rw [hF_346 (qs + 5) (by omega)]; exact f_qs_5
      have hm_386 : M_341 (qs + 6) = some (aI G 24 (nF tbb)) := by rw [hF_346 (qs + 6) (by omega)]; exact f_qs_6
      have hm_387 : M_341 61 = some (aI G 36 (nF le)) := by rw [hF_346 61 (by omega)]; exact f_61
      have hm_388 : M_341 62 = some (aI G 36 (nF mo)) := by rw [hF_346 62 (by omega)]; exact f_62
      have hm_389 : M_341 63 = some (aI G 36 (nF al)) := by rw [hF_346 63 (by omega)]; exact f_63
      have hm_390 : M_341 64 = some (aZ G 6 (bF ho)) := by rw [hF_346 64 (by omega)]; exact f_64
      have hm_391 : M_341 65 = some (aI G 120 (nF mk)) := by rw [hF_346 65 (by omega)]; exact f_65
      have hm_392 : M_341 66 = some (aI G 120 mf) := by rw [hF_346 66 (by omega)]; exact f_66
      have hm_393 : M_341 67 = some (aI G 120 mu) := by rw [hF_346 67 (by omega)]; exact f_67
      have hm_394 : M_341 68 = some (aI G 121 (nF mz)) := by rw [hF_346 68 (by omega)]; exact f_68
      have hm_395 : M_341 69 = some (aI G 726 (nF rr)) := by rw [hF_346 69 (by omega)]; exact f_69
      have hm_396 : M_341 70 = some (aI G 726 (nF ee)) := by rw [hF_346 70 (by omega)]; exact f_70
      have hm_397 : M_341 71 = some (aI G 40 (nF lst)) := by rw [hF_346 71 (by omega)]; exact f_71
      have hm_398 : M_341 72 = some (aI G 40 (nF oa)) := by rw [hF_346 72 (by omega)]; exact f_72
      have hm_399 : M_341 73 = some (aI G 40 (nF ob)) := by rw [hF_346 73 (by omega)]; exact f_73
      have hm_400 : M_341 74 = some (aI G 120 s74) := by rw [hF_346 74 (by omega)]; exact f_74
      have hm_401 : M_341 75 = some (aI G 12 ak) := by rw [hF_346 75 (by omega)]; exact f_75
      have hm_402 : M_341 76 = some (aZ G 12 (bF nm)) := by rw [hF_346 76 (by omega)]; exact f_76
      have hm_403 : M_341 77 = some (aI G 12 (nF ap)) := by rw [hF_346 77 (by omega)]; exact f_77
      have hm_404 : M_341 78 = some (aI G 48 pr) := by rw [hF_346 78 (by omega)]; exact f_78
      have hm_405 : M_341 79 = some (aI G 48 pf) := by rw [hF_346 79 (by omega)]; exact f_79
      have hm_406 : M_341 80 = some (aB G 400 tf) := by rw [hF_346 80 (by omega)]; exact f_80
      have hm_407 : M_341 81 = some (aI G 5 fv) := by rw [hF_346 81 (by omega)]; exact f_81
      have hm_408 : M_341 82 = some (aZ G 384000 (bF tr)) := by rw [hF_346 82 (by omega)]; exact f_82
      have hm_409 : M_341 83 = some (aI G 3 (oF gv)) := by rw [hF_346 83 (by omega)]; exact f_83
      have hm_410 : M_341 84 = some (aI G 3 fo) := by rw [hF_346 84 (by omega)]; exact f_84
      have hm_411 : M_341 85 = some (aZ G 40 (bF re)) := by rw [hF_346 85 (by omega)]; exact f_85
      have hm_412 : M_341 86 = some (aZ G 120 (bF us)) := by rw [hF_346 86 (by omega)]; exact f_86
      have hm_413 : M_341 87 = some (aZ G 120 (bF nx)) := by rw [hF_346 87 (by omega)]; exact f_87
      have hm_414 : M_341 99 = some (aJ G 1 of) := by rw [hF_346 99 (by omega)]; exact f_99
      have hm_415 : M_341 16 = some (cLines ad ) := by rw [hF_346 16 (by omega)]; exact h16
      have hL_416 : LSm G ad M_341 n kd fm to sz rl en := fL.keep (fun j hj => hF_346 j (by omega))
      have hF_417 : ∀ j : Nat, j ≠ 60 → M_341 j = M j := fun j q0 => (hF_346 j q0)
      rw [hr_344]
      refine lv_icmp_eq (tgt := 1333) hx hb dL_law_1328 (by decide) (fun c_418 => ?_) (fun c_418 => ?_)
      · -- 1328: nI (40 - jn) eq
        have c_418 : 40 - jn = cntB (fun t => decide (lst t = t)) 40 := (nI_eq (a := 40 - jn) (b := cntB (fun t => decide (lst t = t)) 40) (by omega) (by omega)).mp (c_418)
        refine W.widen (k := cz + 10) (n := sy + 300) (by omega) (by omega) ?_
        exact kk ad M_341 H_342 locs_343 ls n kd fm to sz rl en qa qs fw len tb le mo al ho jn hg lst jd s0 r0 th ol e0 mm9 ff lq ra rb rt rv qm pz sx ft rx dm rc ao vr kn nq pn av ro te sq su kb nb pb ab rbb tbb 0 sn pt zs bg mk mf mu mz rr ee oa ob s74 ak nm ap pr pf tf fv tr gv fo re us nx of hL_416 w1 w2 w3 w4 w5 w6 w7 w8 w9 w10 w11 w12 w13 w14 w15 w16 w17 w18 w19 w20 w21 w22 w23 w24 w25 w26 w27 w28 w29 (fun h9 => by rw [hF_417 17 (by omega), hF_417 18 (by omega)]; exact w30 h9) (by rw [hF_417 29 (by omega)]; exact w31) (fun j9 h9 => by rw [hF_417 j9 (by omega)]; exact w32 j9 h9) hm_347 hm_348 hm_349 hm_350 hm_351 hm_352 hm_353 hm_354 hm_355 hm_356 hm_357 hm_358 hm_359 hm_360 hm_361 hm_362 hm_363 hm_364 hm_365 hm_366 hm_367 hm_368 hm_369 hm_370 hm_371 hm_372 hm_373 hm_374 hm_375 hm_376 hm_377 hm_378 hm_379 hm_380 hm_381 hm_382 hm_383 hm_384 hm_385 hm_386 hm_345 hm_387 hm_388 hm_389 hm_390 hm_391 hm_392 hm_393 hm_394 hm_395 hm_396 hm_397 hm_398 hm_399 hm_400 hm_401 hm_402 hm_403 hm_404 hm_405 hm_406 hm_407 hm_408 hm_409 hm_410 hm_411 hm_412 hm_413 hm_414 hI (lv_sub hl [0, 1, 2, 3, 4] rfl)
      · -- 1328: nI (40 - jn) ne
        have c_418 : 40 - jn ≠ cntB (fun t => decide (lst t = t)) 40 := by have h := mt (nI_eq (a := 40 - jn) (b := cntB (fun t => decide (lst t = t)) 40) (by omega) (by omega)).mpr c_418; omega
        omega
    · skip
      refine lv_aload_n hx hb dL_law_1309 rfl (lv_at hl 0 rfl) ?_
      refine lv_iload hx hb dL_law_1310 (lv_at hl 4 rfl) ?_
      refine lv_iconst (v := nI 1) hx hb dL_law_1312 (by decide) ?_
      refine lv_iadd hx hb dL_law_1313 ?_
      refine n_eq (nI_add i 1) ?_
      refine va_sld (A := fr z) hx hb hX hbl hbz hI.S (vp_in_nI (n := i + 1) (by omega) (by omega)) dL_law_1314 ?_
      rw [nI_clamp (by omega)]
      refine n_eq (show _ = nI 4 from et1.trans (congrArg nI hc_89)) ?_
      refine k_Ri (va_runV (As := [.int (nI 4)]) (rest := []) ⟨hx, hb, hml, hown, hts⟩ (c_X9_count_4 l G z ad M (qa := qa) (qs := qs) (fw := fw) (aa := ao) (uv := vr) f_0 f_qa) (cwV 1 hts (gV (lwg_of t_445 rfl) (lwg_of t_446 rfl) (lwg_of t_447 rfl) (lwg_of t_1 rfl) (lwg_of t_448 rfl)) rfl rfl rfl (by decide +kernel) ⟨Nat.le_of_ble_eq_true rfl, Nat.le_of_ble_eq_true rfl⟩) (hI.preV f_0 rfl) rfl rfl hl.1 rfl (lv_room (Nat.le_of_ble_eq_true rfl)) dL_law_1315 ⟨(show _ ≤ (601024 : Nat) from by omega), (show _ ≤ (7293034 : Nat) from by omega)⟩) (fun _ h => h) (fun r_419 hp_420 => ?_)
      rw [hp_420]
      refine lv_aload_n hx hb dL_law_1318 rfl (lv_at hl 2 rfl) ?_
      refine lv_aload_n hx hb dL_law_1319 rfl (lv_at hl 0 rfl) ?_
      refine lv_iload hx hb dL_law_1320 (lv_at hl 4 rfl) ?_
      refine lv_iconst (v := nI 1) hx hb dL_law_1322 (by decide) ?_
      refine lv_iadd hx hb dL_law_1323 ?_
      refine n_eq (nI_add i 1) ?_
      refine va_sld (A := fr z) hx hb hX hbl hbz hI.S (vp_in_nI (n := i + 1) (by omega) (by omega)) dL_law_1324 ?_
      rw [nI_clamp (by omega)]
      refine n_eq (show _ = nI 4 from et1.trans (congrArg nI hc_89)) ?_
      refine k_Ni (va_runV (As := [.int (nI 4)]) (rest := [.int (nI ao)]) ⟨hx, hb, hml, hown, hts⟩ (c_X10_count_4 l G z ad M (th := tw) (ln := n) (on := jn) (ao := ao) (vr := vr) (sn := sn) (tp := len) (pt := pt) (zs := zs) (bg := bg) (fa := fw) f_60) (cwV 1 hts (gV (lwg_of t_1366 rfl) (lwg_of t_1367 rfl) (lwg_of t_1368 rfl) (lwg_of t_13 rfl) (lwg_of t_1369 rfl)) rfl rfl rfl (by decide +kernel) ⟨Nat.le_of_ble_eq_true rfl, Nat.le_of_ble_eq_true rfl⟩) (hI.preV f_60 rfl) rfl rfl hl.1 rfl (lv_room (Nat.le_of_ble_eq_true rfl)) dL_law_1325 ⟨(show _ ≤ (601024 : Nat) from by omega), (show _ ≤ (7293034 : Nat) from by omega)⟩) hI (fun r_421 M_423 H_424 locs_425 hp_422 hI => ?_)
      obtain ⟨hr_426, hm_427, hF_428⟩ := hp_422
      have hm_429 : M_423 0 = some (cStore ad qa qs fw) := by rw [hF_428 0 (by omega)]; exact f_0
      have hm_430 : M_423 1 = some (cTape ad len) := by rw [hF_428 1 (by omega)]; exact f_1
      have hm_431 : M_423 2 = some (aI G 400 (nF tb)) := by rw [hF_428 2 (by omega)]; exact f_2
      have hm_432 : M_423 3 = some (cLaws ad ) := by rw [hF_428 3 (by omega)]; exact f_3
      have hm_433 : M_423 4 = some (aI G 36 (nF le)) := by rw [hF_428 4 (by omega)]; exact f_4
      have hm_434 : M_423 5 = some (aI G 36 (nF mo)) := by rw [hF_428 5 (by omega)]; exact f_5
      have hm_435 : M_423 6 = some (aI G 36 (nF al)) := by rw [hF_428 6 (by omega)]; exact f_6
      have hm_436 : M_423 7 = some (aZ G 6 (bF ho)) := by rw [hF_428 7 (by omega)]; exact f_7
      have hm_437 : M_423 8 = some (cOnes ad jn) := by rw [hF_428 8 (by omega)]; exact f_8
      have hm_438 : M_423 9 = some (aI G 40 (nF hg)) := by rw [hF_428 9 (by omega)]; exact f_9
      have hm_439 : M_423 10 = some (aI G 40 (nF lst)) := by rw [hF_428 10 (by omega)]; exact f_10
      have hm_440 : M_423 11 = some (aI G 40 (nF jd)) := by rw [hF_428 11 (by omega)]; exact f_11
      have hm_441 : M_423 12 = some (cEnds ad 12 s0) := by rw [hF_428 12 (by omega)]; exact f_12
      have hm_442 : M_423 13 = some (aI G 6 (nF r0)) := by rw [hF_428 13 (by omega)]; exact f_13
      have hm_443 : M_423 14 = some (aI G 6 (oF th)) := by rw [hF_428 14 (by omega)]; exact f_14
      have hm_444 : M_423 15 = some (aI G 6 (oF ol)) := by rw [hF_428 15 (by omega)]; exact f_15
      have hm_445 : M_423 19 = some (aZ G 120 (bF mm9)) := by rw [hF_428 19 (by omega)]; exact f_19
      have hm_446 : M_423 20 = some (aI G 120 ff) := by rw [hF_428 20 (by omega)]; exact f_20
      have hm_447 : M_423 21 = some (aI G 120 lq) := by rw [hF_428 21 (by omega)]; exact f_21
      have hm_448 : M_423 22 = some (cReader ad ra rb rt rv) := by rw [hF_428 22 (by omega)]; exact f_22
      have hm_449 : M_423 23 = some (cMatcher ad qm pz) := by rw [hF_428 23 (by omega)]; exact f_23
      have hm_450 : M_423 24 = some (aJ G 2160 sx) := by rw [hF_428 24 (by omega)]; exact f_24
      have hm_451 : M_423 25 = some (aI G 6 (nF ft)) := by rw [hF_428 25 (by omega)]; exact f_25
      have hm_452 : M_423 26 = some (aJ G 240 rx) := by rw [hF_428 26 (by omega)]; exact f_26
      have hm_453 : M_423 27 = some (aJ G 3 dm) := by rw [hF_428 27 (by omega)]; exact f_27
      have hm_454 : M_423 28 = some (aI G 3 rc) := by rw [hF_428 28 (by omega)]; exact f_28
      have hm_455 : M_423 qa = some (cQuestion ad qa ao vr) := by rw [hF_428 qa (by omega)]; exact f_qa
      have hm_456 : M_423 (qa + 1) = some (aI G 6 (nF kn)) := by rw [hF_428 (qa + 1) (by omega)]; exact f_qa_1
      have hm_457 : M_423 (qa + 2) = some (aZ G 6 (bF nq)) := by rw [hF_428 (qa + 2) (by omega)]; exact f_qa_2
      have hm_458 : M_423 (qa + 3) = some (aI G 6 (nF pn)) := by rw [hF_428 (qa + 3) (by omega)]; exact f_qa_3
      have hm_459 : M_423 (qa + 4) = some (aI G 6 (nF av)) := by rw [hF_428 (qa + 4) (by omega)]; exact f_qa_4
      have hm_460 : M_423 (qa + 5) = some (aI G 24 (nF ro)) := by rw [hF_428 (qa + 5) (by omega)]; exact f_qa_5
      have hm_461 : M_423 (qa + 6) = some (aI G 24 (nF te)) := by rw [hF_428 (qa + 6) (by omega)]; exact f_qa_6
      have hm_462 : M_423 qs = some (cQuestion ad qs sq su) := by rw [hF_428 qs (by omega)]; exact f_qs
      have hm_463 : M_423 (qs + 1) = some (aI G 6 (nF kb)) := by rw [hF_428 (qs + 1) (by omega)]; exact f_qs_1
      have hm_464 : M_423 (qs + 2) = some (aZ G 6 (bF nb)) := by rw [hF_428 (qs + 2) (by omega)]; exact f_qs_2
      have hm_465 : M_423 (qs + 3) = some (aI G 6 (nF pb)) := by rw [hF_428 (qs + 3) (by omega)]; exact f_qs_3
      have hm_466 : M_423 (qs + 4) = some (aI G 6 (nF ab)) := by rw [hF_428 (qs + 4) (by omega)]; exact f_qs_4
      have hm_467 : M_423 (qs + 5) = some (aI G 24 (nF rbb)) := by rw [hF_428 (qs + 5) (by omega)]; exact f_qs_5
      have hm_468 : M_423 (qs + 6) = some (aI G 24 (nF tbb)) := by rw [hF_428 (qs + 6) (by omega)]; exact f_qs_6
      have hm_469 : M_423 61 = some (aI G 36 (nF le)) := by rw [hF_428 61 (by omega)]; exact f_61
      have hm_470 : M_423 62 = some (aI G 36 (nF mo)) := by rw [hF_428 62 (by omega)]; exact f_62
      have hm_471 : M_423 63 = some (aI G 36 (nF al)) := by rw [hF_428 63 (by omega)]; exact f_63
      have hm_472 : M_423 64 = some (aZ G 6 (bF ho)) := by rw [hF_428 64 (by omega)]; exact f_64
      have hm_473 : M_423 65 = some (aI G 120 (nF mk)) := by rw [hF_428 65 (by omega)]; exact f_65
      have hm_474 : M_423 66 = some (aI G 120 mf) := by rw [hF_428 66 (by omega)]; exact f_66
      have hm_475 : M_423 67 = some (aI G 120 mu) := by rw [hF_428 67 (by omega)]; exact f_67
      have hm_476 : M_423 68 = some (aI G 121 (nF mz)) := by rw [hF_428 68 (by omega)]; exact f_68
      have hm_477 : M_423 69 = some (aI G 726 (nF rr)) := by rw [hF_428 69 (by omega)]; exact f_69
      have hm_478 : M_423 70 = some (aI G 726 (nF ee)) := by rw [hF_428 70 (by omega)]; exact f_70
      have hm_479 : M_423 71 = some (aI G 40 (nF lst)) := by rw [hF_428 71 (by omega)]; exact f_71
      have hm_480 : M_423 72 = some (aI G 40 (nF oa)) := by rw [hF_428 72 (by omega)]; exact f_72
      have hm_481 : M_423 73 = some (aI G 40 (nF ob)) := by rw [hF_428 73 (by omega)]; exact f_73
      have hm_482 : M_423 74 = some (aI G 120 s74) := by rw [hF_428 74 (by omega)]; exact f_74
      have hm_483 : M_423 75 = some (aI G 12 ak) := by rw [hF_428 75 (by omega)]; exact f_75
      have hm_484 : M_423 76 = some (aZ G 12 (bF nm)) := by rw [hF_428 76 (by omega)]; exact f_76
      have hm_485 : M_423 77 = some (aI G 12 (nF ap)) := by rw [hF_428 77 (by omega)]; exact f_77
      have hm_486 : M_423 78 = some (aI G 48 pr) := by rw [hF_428 78 (by omega)]; exact f_78
      have hm_487 : M_423 79 = some (aI G 48 pf) := by rw [hF_428 79 (by omega)]; exact f_79
      have hm_488 : M_423 80 = some (aB G 400 tf) := by rw [hF_428 80 (by omega)]; exact f_80
      have hm_489 : M_423 81 = some (aI G 5 fv) := by rw [hF_428 81 (by omega)]; exact f_81
      have hm_490 : M_423 82 = some (aZ G 384000 (bF tr)) := by rw [hF_428 82 (by omega)]; exact f_82
      have hm_491 : M_423 83 = some (aI G 3 (oF gv)) := by rw [hF_428 83 (by omega)]; exact f_83
      have hm_492 : M_423 84 = some (aI G 3 fo) := by rw [hF_428 84 (by omega)]; exact f_84
      have hm_493 : M_423 85 = some (aZ G 40 (bF re)) := by rw [hF_428 85 (by omega)]; exact f_85
      have hm_494 : M_423 86 = some (aZ G 120 (bF us)) := by rw [hF_428 86 (by omega)]; exact f_86
      have hm_495 : M_423 87 = some (aZ G 120 (bF nx)) := by rw [hF_428 87 (by omega)]; exact f_87
      have hm_496 : M_423 99 = some (aJ G 1 of) := by rw [hF_428 99 (by omega)]; exact f_99
      have hm_497 : M_423 16 = some (cLines ad ) := by rw [hF_428 16 (by omega)]; exact h16
      have hL_498 : LSm G ad M_423 n kd fm to sz rl en := fL.keep (fun j hj => hF_428 j (by omega))
      have hF_499 : ∀ j : Nat, j ≠ 60 → M_423 j = M j := fun j q0 => (hF_428 j q0)
      rw [hr_426]
      refine lv_icmp_eq (tgt := 1333) hx hb dL_law_1328 (by decide) (fun c_500 => ?_) (fun c_500 => ?_)
      · -- 1328: nI ao eq
        have c_500 : ao = ao := (nI_eq (a := ao) (b := ao) (by omega) (by omega)).mp (c_500)
        refine W.widen (k := cz + 10) (n := sy + 300) (by omega) (by omega) ?_
        exact kk ad M_423 H_424 locs_425 ls n kd fm to sz rl en qa qs fw len tb le mo al ho jn hg lst jd s0 r0 th ol e0 mm9 ff lq ra rb rt rv qm pz sx ft rx dm rc ao vr kn nq pn av ro te sq su kb nb pb ab rbb tbb 0 sn pt zs bg mk mf mu mz rr ee oa ob s74 ak nm ap pr pf tf fv tr gv fo re us nx of hL_498 w1 w2 w3 w4 w5 w6 w7 w8 w9 w10 w11 w12 w13 w14 w15 w16 w17 w18 w19 w20 w21 w22 w23 w24 w25 w26 w27 w28 w29 (fun h9 => by rw [hF_499 17 (by omega), hF_499 18 (by omega)]; exact w30 h9) (by rw [hF_499 29 (by omega)]; exact w31) (fun j9 h9 => by rw [hF_499 j9 (by omega)]; exact w32 j9 h9) hm_429 hm_430 hm_431 hm_432 hm_433 hm_434 hm_435 hm_436 hm_437 hm_438 hm_439 hm_440 hm_441 hm_442 hm_443 hm_444 hm_445 hm_446 hm_447 hm_448 hm_449 hm_450 hm_451 hm_452 hm_453 hm_454 hm_455 hm_456 hm_457 hm_458 hm_459 hm_460 hm_461 hm_462 hm_463 hm_464 hm_465 hm_466 hm_467 hm_468 hm_427 hm_469 hm_470 hm_471 hm_472 hm_473 hm_474 hm_475 hm_476 hm_477 hm_478 hm_479 hm_480 hm_481 hm_482 hm_483 hm_484 hm_485 hm_486 hm_487 hm_488 hm_489 hm_490 hm_491 hm_492 hm_493 hm_494 hm_495 hm_496 hI (lv_sub hl [0, 1, 2, 3, 4] rfl)
      · -- 1328: nI ao ne
        have c_500 : ao ≠ ao := by have h := mt (nI_eq (a := ao) (b := ao) (by omega) (by omega)).mpr c_500; omega
        exact absurd rfl c_500
    · skip
      refine lv_aload_n hx hb dL_law_1309 rfl (lv_at hl 0 rfl) ?_
      refine lv_iload hx hb dL_law_1310 (lv_at hl 4 rfl) ?_
      refine lv_iconst (v := nI 1) hx hb dL_law_1312 (by decide) ?_
      refine lv_iadd hx hb dL_law_1313 ?_
      refine n_eq (nI_add i 1) ?_
      refine va_sld (A := fr z) hx hb hX hbl hbz hI.S (vp_in_nI (n := i + 1) (by omega) (by omega)) dL_law_1314 ?_
      rw [nI_clamp (by omega)]
      refine n_eq (show _ = nI 5 from et1.trans (congrArg nI hc_90)) ?_
      refine k_Ri (va_runV (As := [.int (nI 5)]) (rest := []) ⟨hx, hb, hml, hown, hts⟩ (c_X9_count_5 l G z ad M (qa := qa) (qs := qs) (fw := fw) (aa := ao) (uv := vr) f_0 f_qa w20) (cwV 1 hts (gV (lwg_of t_445 rfl) (lwg_of t_446 rfl) (lwg_of t_447 rfl) (lwg_of t_1 rfl) (lwg_of t_448 rfl)) rfl rfl rfl (by decide +kernel) ⟨Nat.le_of_ble_eq_true rfl, Nat.le_of_ble_eq_true rfl⟩) (hI.preV f_0 rfl) rfl rfl hl.1 rfl (lv_room (Nat.le_of_ble_eq_true rfl)) dL_law_1315 ⟨(show _ ≤ (601024 : Nat) from by omega), (show _ ≤ (7293034 : Nat) from by omega)⟩) (fun _ h => h) (fun r_501 hp_502 => ?_)
      rw [hp_502]
      refine lv_aload_n hx hb dL_law_1318 rfl (lv_at hl 2 rfl) ?_
      refine lv_aload_n hx hb dL_law_1319 rfl (lv_at hl 0 rfl) ?_
      refine lv_iload hx hb dL_law_1320 (lv_at hl 4 rfl) ?_
      refine lv_iconst (v := nI 1) hx hb dL_law_1322 (by decide) ?_
      refine lv_iadd hx hb dL_law_1323 ?_
      refine n_eq (nI_add i 1) ?_
      refine va_sld (A := fr z) hx hb hX hbl hbz hI.S (vp_in_nI (n := i + 1) (by omega) (by omega)) dL_law_1324 ?_
      rw [nI_clamp (by omega)]
      refine n_eq (show _ = nI 5 from et1.trans (congrArg nI hc_90)) ?_
      refine k_Ni (va_runV (As := [.int (nI 5)]) (rest := [.int (nI (cnt3 vr))]) ⟨hx, hb, hml, hown, hts⟩ (c_X10_count_5 l G z ad M (th := tw) (ln := n) (on := jn) (ao := ao) (vr := vr) (sn := sn) (tp := len) (pt := pt) (zs := zs) (bg := bg) (fa := fw) f_60 w20) (cwV 1 hts (gV (lwg_of t_1366 rfl) (lwg_of t_1367 rfl) (lwg_of t_1368 rfl) (lwg_of t_13 rfl) (lwg_of t_1369 rfl)) rfl rfl rfl (by decide +kernel) ⟨Nat.le_of_ble_eq_true rfl, Nat.le_of_ble_eq_true rfl⟩) (hI.preV f_60 rfl) rfl rfl hl.1 rfl (lv_room (Nat.le_of_ble_eq_true rfl)) dL_law_1325 ⟨(show _ ≤ (601024 : Nat) from by omega), (show _ ≤ (7293034 : Nat) from by omega)⟩) hI (fun r_503 M_505 H_506 locs_507 hp_504 hI => ?_)
      obtain ⟨hr_508, hm_509, hF_510⟩ := hp_504
      have hm_511 : M_505 0 = some (cStore ad qa qs fw) := by rw [hF_510 0 (by omega)]; exact f_0
      have hm_512 : M_505 1 = some (cTape ad len) := by rw [hF_510 1 (by omega)]; exact f_1
      have hm_513 : M_505 2 = some (aI G 400 (nF tb)) := by rw [hF_510 2 (by omega)]; exact f_2
      have hm_514 : M_505 3 = some (cLaws ad ) := by rw [hF_510 3 (by omega)]; exact f_3
      have hm_515 : M_505 4 = some (aI G 36 (nF le)) := by rw [hF_510 4 (by omega)]; exact f_4
      have hm_516 : M_505 5 = some (aI G 36 (nF mo)) := by rw [hF_510 5 (by omega)]; exact f_5
      have hm_517 : M_505 6 = some (aI G 36 (nF al)) := by rw [hF_510 6 (by omega)]; exact f_6
      have hm_518 : M_505 7 = some (aZ G 6 (bF ho)) := by rw [hF_510 7 (by omega)]; exact f_7
      have hm_519 : M_505 8 = some (cOnes ad jn) := by rw [hF_510 8 (by omega)]; exact f_8
      have hm_520 : M_505 9 = some (aI G 40 (nF hg)) := by rw [hF_510 9 (by omega)]; exact f_9
      have hm_521 : M_505 10 = some (aI G 40 (nF lst)) := by rw [hF_510 10 (by omega)]; exact f_10
      have hm_522 : M_505 11 = some (aI G 40 (nF jd)) := by rw [hF_510 11 (by omega)]; exact f_11
      have hm_523 : M_505 12 = some (cEnds ad 12 s0) := by rw [hF_510 12 (by omega)]; exact f_12
      have hm_524 : M_505 13 = some (aI G 6 (nF r0)) := by rw [hF_510 13 (by omega)]; exact f_13
      have hm_525 : M_505 14 = some (aI G 6 (oF th)) := by rw [hF_510 14 (by omega)]; exact f_14
      have hm_526 : M_505 15 = some (aI G 6 (oF ol)) := by rw [hF_510 15 (by omega)]; exact f_15
      have hm_527 : M_505 19 = some (aZ G 120 (bF mm9)) := by rw [hF_510 19 (by omega)]; exact f_19
      have hm_528 : M_505 20 = some (aI G 120 ff) := by rw [hF_510 20 (by omega)]; exact f_20
      have hm_529 : M_505 21 = some (aI G 120 lq) := by rw [hF_510 21 (by omega)]; exact f_21
      have hm_530 : M_505 22 = some (cReader ad ra rb rt rv) := by rw [hF_510 22 (by omega)]; exact f_22
      have hm_531 : M_505 23 = some (cMatcher ad qm pz) := by rw [hF_510 23 (by omega)]; exact f_23
      have hm_532 : M_505 24 = some (aJ G 2160 sx) := by rw [hF_510 24 (by omega)]; exact f_24
      have hm_533 : M_505 25 = some (aI G 6 (nF ft)) := by rw [hF_510 25 (by omega)]; exact f_25
      have hm_534 : M_505 26 = some (aJ G 240 rx) := by rw [hF_510 26 (by omega)]; exact f_26
      have hm_535 : M_505 27 = some (aJ G 3 dm) := by rw [hF_510 27 (by omega)]; exact f_27
      have hm_536 : M_505 28 = some (aI G 3 rc) := by rw [hF_510 28 (by omega)]; exact f_28
      have hm_537 : M_505 qa = some (cQuestion ad qa ao vr) := by rw [hF_510 qa (by omega)]; exact f_qa
      have hm_538 : M_505 (qa + 1) = some (aI G 6 (nF kn)) := by rw [hF_510 (qa + 1) (by omega)]; exact f_qa_1
      have hm_539 : M_505 (qa + 2) = some (aZ G 6 (bF nq)) := by rw [hF_510 (qa + 2) (by omega)]; exact f_qa_2
      have hm_540 : M_505 (qa + 3) = some (aI G 6 (nF pn)) := by rw [hF_510 (qa + 3) (by omega)]; exact f_qa_3
      have hm_541 : M_505 (qa + 4) = some (aI G 6 (nF av)) := by rw [hF_510 (qa + 4) (by omega)]; exact f_qa_4
      have hm_542 : M_505 (qa + 5) = some (aI G 24 (nF ro)) := by rw [hF_510 (qa + 5) (by omega)]; exact f_qa_5
      have hm_543 : M_505 (qa + 6) = some (aI G 24 (nF te)) := by rw [hF_510 (qa + 6) (by omega)]; exact f_qa_6
      have hm_544 : M_505 qs = some (cQuestion ad qs sq su) := by rw [hF_510 qs (by omega)]; exact f_qs
      have hm_545 : M_505 (qs + 1) = some (aI G 6 (nF kb)) := by rw [hF_510 (qs + 1) (by omega)]; exact f_qs_1
      have hm_546 : M_505 (qs + 2) = some (aZ G 6 (bF nb)) := by rw [hF_510 (qs + 2) (by omega)]; exact f_qs_2
      have hm_547 : M_505 (qs + 3) = some (aI G 6 (nF pb)) := by rw [hF_510 (qs + 3) (by omega)]; exact f_qs_3
      have hm_548 : M_505 (qs + 4) = some (aI G 6 (nF ab)) := by rw [hF_510 (qs + 4) (by omega)]; exact f_qs_4
      have hm_549 : M_505 (qs + 5) = some (aI G 24 (nF rbb)) := by rw [hF_510 (qs + 5) (by omega)]; exact f_qs_5
      have hm_550 : M_505 (qs + 6) = some (aI G 24 (nF tbb)) := by rw [hF_510 (qs + 6) (by omega)]; exact f_qs_6
      have hm_551 : M_505 61 = some (aI G 36 (nF le)) := by rw [hF_510 61 (by omega)]; exact f_61
      have hm_552 : M_505 62 = some (aI G 36 (nF mo)) := by rw [hF_510 62 (by omega)]; exact f_62
      have hm_553 : M_505 63 = some (aI G 36 (nF al)) := by rw [hF_510 63 (by omega)]; exact f_63
      have hm_554 : M_505 64 = some (aZ G 6 (bF ho)) := by rw [hF_510 64 (by omega)]; exact f_64
      have hm_555 : M_505 65 = some (aI G 120 (nF mk)) := by rw [hF_510 65 (by omega)]; exact f_65
      have hm_556 : M_505 66 = some (aI G 120 mf) := by rw [hF_510 66 (by omega)]; exact f_66
      have hm_557 : M_505 67 = some (aI G 120 mu) := by rw [hF_510 67 (by omega)]; exact f_67
      have hm_558 : M_505 68 = some (aI G 121 (nF mz)) := by rw [hF_510 68 (by omega)]; exact f_68
      have hm_559 : M_505 69 = some (aI G 726 (nF rr)) := by rw [hF_510 69 (by omega)]; exact f_69
      have hm_560 : M_505 70 = some (aI G 726 (nF ee)) := by rw [hF_510 70 (by omega)]; exact f_70
      have hm_561 : M_505 71 = some (aI G 40 (nF lst)) := by rw [hF_510 71 (by omega)]; exact f_71
      have hm_562 : M_505 72 = some (aI G 40 (nF oa)) := by rw [hF_510 72 (by omega)]; exact f_72
      have hm_563 : M_505 73 = some (aI G 40 (nF ob)) := by rw [hF_510 73 (by omega)]; exact f_73
      have hm_564 : M_505 74 = some (aI G 120 s74) := by rw [hF_510 74 (by omega)]; exact f_74
      have hm_565 : M_505 75 = some (aI G 12 ak) := by rw [hF_510 75 (by omega)]; exact f_75
      have hm_566 : M_505 76 = some (aZ G 12 (bF nm)) := by rw [hF_510 76 (by omega)]; exact f_76
      have hm_567 : M_505 77 = some (aI G 12 (nF ap)) := by rw [hF_510 77 (by omega)]; exact f_77
      have hm_568 : M_505 78 = some (aI G 48 pr) := by rw [hF_510 78 (by omega)]; exact f_78
      have hm_569 : M_505 79 = some (aI G 48 pf) := by rw [hF_510 79 (by omega)]; exact f_79
      have hm_570 : M_505 80 = some (aB G 400 tf) := by rw [hF_510 80 (by omega)]; exact f_80
      have hm_571 : M_505 81 = some (aI G 5 fv) := by rw [hF_510 81 (by omega)]; exact f_81
      have hm_572 : M_505 82 = some (aZ G 384000 (bF tr)) := by rw [hF_510 82 (by omega)]; exact f_82
      have hm_573 : M_505 83 = some (aI G 3 (oF gv)) := by rw [hF_510 83 (by omega)]; exact f_83
      have hm_574 : M_505 84 = some (aI G 3 fo) := by rw [hF_510 84 (by omega)]; exact f_84
      have hm_575 : M_505 85 = some (aZ G 40 (bF re)) := by rw [hF_510 85 (by omega)]; exact f_85
      have hm_576 : M_505 86 = some (aZ G 120 (bF us)) := by rw [hF_510 86 (by omega)]; exact f_86
      have hm_577 : M_505 87 = some (aZ G 120 (bF nx)) := by rw [hF_510 87 (by omega)]; exact f_87
      have hm_578 : M_505 99 = some (aJ G 1 of) := by rw [hF_510 99 (by omega)]; exact f_99
      have hm_579 : M_505 16 = some (cLines ad ) := by rw [hF_510 16 (by omega)]; exact h16
      have hL_580 : LSm G ad M_505 n kd fm to sz rl en := fL.keep (fun j hj => hF_510 j (by omega))
      have hF_581 : ∀ j : Nat, j ≠ 60 → M_505 j = M j := fun j q0 => (hF_510 j q0)
      rw [hr_508]
      refine lv_icmp_eq (tgt := 1333) hx hb dL_law_1328 (by decide) (fun c_582 => ?_) (fun c_582 => ?_)
      · -- 1328: nI (cnt3 vr) eq
        have c_582 : cnt3 vr = cnt3 vr := (nI_eq (a := cnt3 vr) (b := cnt3 vr) (by omega) (by omega)).mp (c_582)
        refine W.widen (k := cz + 10) (n := sy + 300) (by omega) (by omega) ?_
        exact kk ad M_505 H_506 locs_507 ls n kd fm to sz rl en qa qs fw len tb le mo al ho jn hg lst jd s0 r0 th ol e0 mm9 ff lq ra rb rt rv qm pz sx ft rx dm rc ao vr kn nq pn av ro te sq su kb nb pb ab rbb tbb 0 sn pt zs bg mk mf mu mz rr ee oa ob s74 ak nm ap pr pf tf fv tr gv fo re us nx of hL_580 w1 w2 w3 w4 w5 w6 w7 w8 w9 w10 w11 w12 w13 w14 w15 w16 w17 w18 w19 w20 w21 w22 w23 w24 w25 w26 w27 w28 w29 (fun h9 => by rw [hF_581 17 (by omega), hF_581 18 (by omega)]; exact w30 h9) (by rw [hF_581 29 (by omega)]; exact w31) (fun j9 h9 => by rw [hF_581 j9 (by omega)]; exact w32 j9 h9) hm_511 hm_512 hm_513 hm_514 hm_515 hm_516 hm_517 hm_518 hm_519 hm_520 hm_521 hm_522 hm_523 hm_524 hm_525 hm_526 hm_527 hm_528 hm_529 hm_530 hm_531 hm_532 hm_533 hm_534 hm_535 hm_536 hm_537 hm_538 hm_539 hm_540 hm_541 hm_542 hm_543 hm_544 hm_545 hm_546 hm_547 hm_548 hm_549 hm_550 hm_509 hm_551 hm_552 hm_553 hm_554 hm_555 hm_556 hm_557 hm_558 hm_559 hm_560 hm_561 hm_562 hm_563 hm_564 hm_565 hm_566 hm_567 hm_568 hm_569 hm_570 hm_571 hm_572 hm_573 hm_574 hm_575 hm_576 hm_577 hm_578 hI (lv_sub hl [0, 1, 2, 3, 4] rfl)
      · -- 1328: nI (cnt3 vr) ne
        have c_582 : cnt3 vr ≠ cnt3 vr := by have h := mt (nI_eq (a := cnt3 vr) (b := cnt3 vr) (by omega) (by omega)).mpr c_582; omega
        exact absurd rfl c_582

set_option maxHeartbeats 8000000 in
set_option maxRecDepth 100000 in
theorem law_17 {p : Program} {l : Launch} {e : Env} {s : State} {m : MethodId} {below : List Frame} {meth : Method} {c : Code} {b L : Nat} {xs : Nat → Int32} {Q : State → Prop} {G : GG} {z : Nat} {ad : Nat → Nat} {M : Mem} {H : Heap} {locs : List Loc} {ls : Array Slot} {i cz sy : Nat} (hst : l.stackTraces = false) (hx : p.tables.exec = Jvm.exec) (hb : c.code = code) (hml : c.maxLocals = 7) (hown : s.vm.findClass RL = some m.cls) {cx : Cond} (hts : ∀ w ∈ cx :: lwg, w.before #[Value.ref b] s = true) (hX : va_X b L xs s s.heap) (hbl : b < s.heap.size) (hbz : ¬ z ≤ b) (hI : Iv G z ad M s H locs) (hl : lv_has ls 7 [(0, .ref b), (1, .ref (ad 0)), (2, .ref (ad 60)), (3, .ref (ad 99)), (4, .int (nI i))]) (hiL : i + 6 ≤ L) (hL : L ≤ 3072) (hcz : cz + 10 ≤ 601024) (hsy : sy + 300 ≤ 7293034) {n : Nat} {kd : Nat → Nat} {fm : Nat → Int32} {to : Nat → Int32} {sz : Nat → Nat} {rl : Nat → Nat → Nat} {en : Nat → Nat → Nat} {qa : Nat} {qs : Nat} {fw : Int32} {len : Nat} {tb : Nat → Nat} {le : Nat → Nat} {mo : Nat → Nat} {al : Nat → Nat} {ho : Nat → Bool} {jn : Nat} {hg : Nat → Nat} {lst : Nat → Nat} {jd : Nat → Nat} {s0 : Nat} {r0 : Nat → Nat} {th : Nat → Option Nat} {ol : Nat → Option Nat} {e0 : Nat → Nat} {mm9 : Nat → Bool} {ff : Nat → Int32} {lq : Nat → Int32} {ra : Nat} {rb : Nat} {rt : Int32} {rv : Int32} {qm : Nat} {pz : Nat} {sx : Nat → Int64} {ft : Nat → Nat} {rx : Nat → Int64} {dm : Nat → Int64} {rc : Nat → Int32} {ao : Nat} {vr : Nat} {kn : Nat → Nat} {nq : Nat → Bool} {pn : Nat → Nat} {av : Nat → Nat} {ro : Nat → Nat} {te : Nat → Nat} {sq : Nat} {su : Nat} {kb : Nat → Nat} {nb : Nat → Bool} {pb : Nat → Nat} {ab : Nat → Nat} {rbb : Nat → Nat} {tbb : Nat → Nat} {tw : Nat} {sn : Nat} {pt : Nat} {zs : Nat} {bg : Nat} {mk : Nat → Nat} {mf : Nat → Int32} {mu : Nat → Int32} {mz : Nat → Nat} {rr : Nat → Nat} {ee : Nat → Nat} {oa : Nat → Nat} {ob : Nat → Nat} {s74 : Nat → Int32} {ak : Nat → Int32} {nm : Nat → Bool} {ap : Nat → Nat} {pr : Nat → Int32} {pf : Nat → Int32} {tf : Nat → Int32} {fv : Nat → Int32} {tr : Nat → Bool} {gv : Nat → Option Nat} {fo : Nat → Int32} {re : Nat → Bool} {us : Nat → Bool} {nx : Nat → Bool} {of : Nat → Int64} (fL : LSm G ad M n kd fm to sz rl en) (w1 : LSw n kd sz rl en) (w2 : MRel n kd fm to sz rl en mk mf mu mz rr ee) (w3 : JI jn hg lst jd oa ob) (w4 : len ≤ 400) (w5 : ∀ j, j < len → tb j < 256) (w6 : ∀ j, j < len → tf j = sB (tb j)) (w7 : s0 ≤ 6) (w8 : mz 120 = s0) (w9 : ∀ j, j < s0 → rr (720 + j) = r0 j ∧ ee (720 + j) = e0 j) (w10 : ∀ j, j < s0 → r0 j < 6) (w11 : ∀ j, j < s0 → e0 j < 40 + n) (w12 : ∀ j, j < s0 → th j = thE e0 j) (w13 : ∀ j, j < s0 → ol j = olE e0 j) (w14 : ∀ j, j < 36 → le j < 100) (w15 : ∀ j, j < 36 → mo j < 100) (w16 : ∀ j, j < 36 → al j ≤ 100) (w17 : ∀ i, i < n → (0 : Int32) ≤ fm i) (w18 : ∀ i, i < n → ∀ k, hgs sz en i k = true → fm k ≤ fm i) (w19 : ao ≤ 6) (w20 : vr < 8) (w21 : ∀ i, i < ao → ap i ≤ 4 ∧ (ak i = nI (kn i) ∧ kn i < 6) ∧ ∀ p8, p8 < ap i → (pr (4 * i + p8) = nI (ro (i * 4 + p8)) ∧ ro (i * 4 + p8) < 6) ∧ te (i * 4 + p8) < 43 ∧ pf (4 * i + p8) = tmI (te (i * 4 + p8))) (w22 : ∀ i, i < ao → nm i = nq i ∧ ap i = pn i) (w23 : ∀ i, i < ao → av i < 8) (w24 : ∀ i, i < ao → (av i).testBit 0 = false → ∀ p9, p9 < pn i → te (i * 4 + p9) ≠ 40) (w25 : ∀ v, v < 3 → vr.testBit v = true → ∃ i, i < ao ∧ nq i = false ∧ ∃ k, k < pn i ∧ te (i * 4 + k) = 40 + v) (w26 : 29 < qa ∧ qa < 38) (w27 : 29 < qs ∧ qs < 38) (w28 : qa + 7 ≤ qs ∨ qs + 7 ≤ qa) (w29 : 29 < qm ∧ qm < 51) (w30 : n = 0 → (∃ mcn : Int32, M 17 = some (cList ad mcn G.2.2.2.2 0)) ∧ M 18 = none) (w31 : M 29 = none) (w32 : ∀ j, 100 + 5 * n ≤ j → M j = none) (f_0 : M 0 = some (cStore ad qa qs fw)) (f_1 : M 1 = some (cTape ad len)) (f_2 : M 2 = some (aI G 400 (nF tb))) (f_3 : M 3 = some (cLaws ad )) (f_4 : M 4 = some (aI G 36 (nF le))) (f_5 : M 5 = some (aI G 36 (nF mo))) (f_6 : M 6 = some (aI G 36 (nF al))) (f_7 : M 7 = some (aZ G 6 (bF ho))) (f_8 : M 8 = some (cOnes ad jn)) (f_9 : M 9 = some (aI G 40 (nF hg))) (f_10 : M 10 = some (aI G 40 (nF lst))) (f_11 : M 11 = some (aI G 40 (nF jd))) (f_12 : M 12 = some (cEnds ad 12 s0)) (f_13 : M 13 = some (aI G 6 (nF r0))) (f_14 : M 14 = some (aI G 6 (oF th))) (f_15 : M 15 = some (aI G 6 (oF ol))) (f_19 : M 19 = some (aZ G 120 (bF mm9))) (f_20 : M 20 = some (aI G 120 ff)) (f_21 : M 21 = some (aI G 120 lq)) (f_22 : M 22 = some (cReader ad ra rb rt rv)) (f_23 : M 23 = some (cMatcher ad qm pz)) (f_24 : M 24 = some (aJ G 2160 sx)) (f_25 : M 25 = some (aI G 6 (nF ft))) (f_26 : M 26 = some (aJ G 240 rx)) (f_27 : M 27 = some (aJ G 3 dm)) (f_28 : M 28 = some (aI G 3 rc)) (f_qa : M qa = some (cQuestion ad qa ao vr)) (f_qa_1 : M (qa + 1) = some (aI G 6 (nF kn))) (f_qa_2 : M (qa + 2) = some (aZ G 6 (bF nq))) (f_qa_3 : M (qa + 3) = some (aI G 6 (nF pn))) (f_qa_4 : M (qa + 4) = some (aI G 6 (nF av))) (f_qa_5 : M (qa + 5) = some (aI G 24 (nF ro))) (f_qa_6 : M (qa + 6) = some (aI G 24 (nF te))) (f_qs : M qs = some (cQuestion ad qs sq su)) (f_qs_1 : M (qs + 1) = some (aI G 6 (nF kb))) (f_qs_2 : M (qs + 2) = some (aZ G 6 (bF nb))) (f_qs_3 : M (qs + 3) = some (aI G 6 (nF pb))) (f_qs_4 : M (qs + 4) = some (aI G 6 (nF ab))) (f_qs_5 : M (qs + 5) = some (aI G 24 (nF rbb))) (f_qs_6 : M (qs + 6) = some (aI G 24 (nF tbb))) (f_60 : M 60 = some (cModel ad tw n jn ao vr sn len pt zs bg fw)) (f_61 : M 61 = some (aI G 36 (nF le))) (f_62 : M 62 = some (aI G 36 (nF mo))) (f_63 : M 63 = some (aI G 36 (nF al))) (f_64 : M 64 = some (aZ G 6 (bF ho))) (f_65 : M 65 = some (aI G 120 (nF mk))) (f_66 : M 66 = some (aI G 120 mf)) (f_67 : M 67 = some (aI G 120 mu)) (f_68 : M 68 = some (aI G 121 (nF mz))) (f_69 : M 69 = some (aI G 726 (nF rr))) (f_70 : M 70 = some (aI G 726 (nF ee))) (f_71 : M 71 = some (aI G 40 (nF lst))) (f_72 : M 72 = some (aI G 40 (nF oa))) (f_73 : M 73 = some (aI G 40 (nF ob))) (f_74 : M 74 = some (aI G 120 s74)) (f_75 : M 75 = some (aI G 12 ak)) (f_76 : M 76 = some (aZ G 12 (bF nm))) (f_77 : M 77 = some (aI G 12 (nF ap))) (f_78 : M 78 = some (aI G 48 pr)) (f_79 : M 79 = some (aI G 48 pf)) (f_80 : M 80 = some (aB G 400 tf)) (f_81 : M 81 = some (aI G 5 fv)) (f_82 : M 82 = some (aZ G 384000 (bF tr))) (f_83 : M 83 = some (aI G 3 (oF gv))) (f_84 : M 84 = some (aI G 3 fo)) (f_85 : M 85 = some (aZ G 40 (bF re))) (f_86 : M 86 = some (aZ G 120 (bF us))) (f_87 : M 87 = some (aZ G 120 (bF nx))) (f_99 : M 99 = some (aJ G 1 of)) (kk : ∀ (ad1 : Nat → Nat) (M1 : Mem) (H1 : Heap) (locs1 : List Loc) (ls1 : Array Slot) (n : Nat) (kd : Nat → Nat) (fm : Nat → Int32) (to : Nat → Int32) (sz : Nat → Nat) (rl : Nat → Nat → Nat) (en : Nat → Nat → Nat) (qa : Nat) (qs : Nat) (fw : Int32) (len : Nat) (tb : Nat → Nat) (le : Nat → Nat) (mo : Nat → Nat) (al : Nat → Nat) (ho : Nat → Bool) (jn : Nat) (hg : Nat → Nat) (lst : Nat → Nat) (jd : Nat → Nat) (s0 : Nat) (r0 : Nat → Nat) (th : Nat → Option Nat) (ol : Nat → Option Nat) (e0 : Nat → Nat) (mm9 : Nat → Bool) (ff : Nat → Int32) (lq : Nat → Int32) (ra : Nat) (rb : Nat) (rt : Int32) (rv : Int32) (qm : Nat) (pz : Nat) (sx : Nat → Int64) (ft : Nat → Nat) (rx : Nat → Int64) (dm : Nat → Int64) (rc : Nat → Int32) (ao : Nat) (vr : Nat) (kn : Nat → Nat) (nq : Nat → Bool) (pn : Nat → Nat) (av : Nat → Nat) (ro : Nat → Nat) (te : Nat → Nat) (sq : Nat) (su : Nat) (kb : Nat → Nat) (nb : Nat → Bool) (pb : Nat → Nat) (ab : Nat → Nat) (rbb : Nat → Nat) (tbb : Nat → Nat) (tw : Nat) (sn : Nat) (pt : Nat) (zs : Nat) (bg : Nat) (mk : Nat → Nat) (mf : Nat → Int32) (mu : Nat → Int32) (mz : Nat → Nat) (rr : Nat → Nat) (ee : Nat → Nat) (oa : Nat → Nat) (ob : Nat → Nat) (s74 : Nat → Int32) (ak : Nat → Int32) (nm : Nat → Bool) (ap : Nat → Nat) (pr : Nat → Int32) (pf : Nat → Int32) (tf : Nat → Int32) (fv : Nat → Int32) (tr : Nat → Bool) (gv : Nat → Option Nat) (fo : Nat → Int32) (re : Nat → Bool) (us : Nat → Bool) (nx : Nat → Bool) (of : Nat → Int64), (LSm G ad1 M1 n kd fm to sz rl en) → (LSw n kd sz rl en) → (MRel n kd fm to sz rl en mk mf mu mz rr ee) → (JI jn hg lst jd oa ob) → (len ≤ 400) → (∀ j, j < len → tb j < 256) → (∀ j, j < len → tf j = sB (tb j)) → (s0 ≤ 6) → (mz 120 = s0) → (∀ j, j < s0 → rr (720 + j) = r0 j ∧ ee (720 + j) = e0 j) → (∀ j, j < s0 → r0 j < 6) → (∀ j, j < s0 → e0 j < 40 + n) → (∀ j, j < s0 → th j = thE e0 j) → (∀ j, j < s0 → ol j = olE e0 j) → (∀ j, j < 36 → le j < 100) → (∀ j, j < 36 → mo j < 100) → (∀ j, j < 36 → al j ≤ 100) → (∀ i, i < n → (0 : Int32) ≤ fm i) → (∀ i, i < n → ∀ k, hgs sz en i k = true → fm k ≤ fm i) → (ao ≤ 6) → (vr < 8) → (∀ i, i < ao → ap i ≤ 4 ∧ (ak i = nI (kn i) ∧ kn i < 6) ∧ ∀ p8, p8 < ap i → (pr (4 * i + p8) = nI (ro (i * 4 + p8)) ∧ ro (i * 4 + p8) < 6) ∧ te (i * 4 + p8) < 43 ∧ pf (4 * i + p8) = tmI (te (i * 4 + p8))) → (∀ i, i < ao → nm i = nq i ∧ ap i = pn i) → (∀ i, i < ao → av i < 8) → (∀ i, i < ao → (av i).testBit 0 = false → ∀ p9, p9 < pn i → te (i * 4 + p9) ≠ 40) → (∀ v, v < 3 → vr.testBit v = true → ∃ i, i < ao ∧ nq i = false ∧ ∃ k, k < pn i ∧ te (i * 4 + k) = 40 + v) → (29 < qa ∧ qa < 38) → (29 < qs ∧ qs < 38) → (qa + 7 ≤ qs ∨ qs + 7 ≤ qa) → (29 < qm ∧ qm < 51) → (n = 0 → (∃ mcn : Int32, M1 17 = some (cList ad1 mcn G.2.2.2.2 0)) ∧ M1 18 = none) → (M1 29 = none) → (∀ j, 100 + 5 * n ≤ j → M1 j = none) → (M1 0 = some (cStore ad1 qa qs fw)) → (M1 1 = some (cTape ad1 len)) → (M1 2 = some (aI G 400 (nF tb))) → (M1 3 = some (cLaws ad1 )) → (M1 4 = some (aI G 36 (nF le))) → (M1 5 = some (aI G 36 (nF mo))) → (M1 6 = some (aI G 36 (nF al))) → (M1 7 = some (aZ G 6 (bF ho))) → (M1 8 = some (cOnes ad1 jn)) → (M1 9 = some (aI G 40 (nF hg))) → (M1 10 = some (aI G 40 (nF lst))) → (M1 11 = some (aI G 40 (nF jd))) → (M1 12 = some (cEnds ad1 12 s0)) → (M1 13 = some (aI G 6 (nF r0))) → (M1 14 = some (aI G 6 (oF th))) → (M1 15 = some (aI G 6 (oF ol))) → (M1 19 = some (aZ G 120 (bF mm9))) → (M1 20 = some (aI G 120 ff)) → (M1 21 = some (aI G 120 lq)) → (M1 22 = some (cReader ad1 ra rb rt rv)) → (M1 23 = some (cMatcher ad1 qm pz)) → (M1 24 = some (aJ G 2160 sx)) → (M1 25 = some (aI G 6 (nF ft))) → (M1 26 = some (aJ G 240 rx)) → (M1 27 = some (aJ G 3 dm)) → (M1 28 = some (aI G 3 rc)) → (M1 qa = some (cQuestion ad1 qa ao vr)) → (M1 (qa + 1) = some (aI G 6 (nF kn))) → (M1 (qa + 2) = some (aZ G 6 (bF nq))) → (M1 (qa + 3) = some (aI G 6 (nF pn))) → (M1 (qa + 4) = some (aI G 6 (nF av))) → (M1 (qa + 5) = some (aI G 24 (nF ro))) → (M1 (qa + 6) = some (aI G 24 (nF te))) → (M1 qs = some (cQuestion ad1 qs sq su)) → (M1 (qs + 1) = some (aI G 6 (nF kb))) → (M1 (qs + 2) = some (aZ G 6 (bF nb))) → (M1 (qs + 3) = some (aI G 6 (nF pb))) → (M1 (qs + 4) = some (aI G 6 (nF ab))) → (M1 (qs + 5) = some (aI G 24 (nF rbb))) → (M1 (qs + 6) = some (aI G 24 (nF tbb))) → (M1 60 = some (cModel ad1 tw n jn ao vr sn len pt zs bg fw)) → (M1 61 = some (aI G 36 (nF le))) → (M1 62 = some (aI G 36 (nF mo))) → (M1 63 = some (aI G 36 (nF al))) → (M1 64 = some (aZ G 6 (bF ho))) → (M1 65 = some (aI G 120 (nF mk))) → (M1 66 = some (aI G 120 mf)) → (M1 67 = some (aI G 120 mu)) → (M1 68 = some (aI G 121 (nF mz))) → (M1 69 = some (aI G 726 (nF rr))) → (M1 70 = some (aI G 726 (nF ee))) → (M1 71 = some (aI G 40 (nF lst))) → (M1 72 = some (aI G 40 (nF oa))) → (M1 73 = some (aI G 40 (nF ob))) → (M1 74 = some (aI G 120 s74)) → (M1 75 = some (aI G 12 ak)) → (M1 76 = some (aZ G 12 (bF nm))) → (M1 77 = some (aI G 12 (nF ap))) → (M1 78 = some (aI G 48 pr)) → (M1 79 = some (aI G 48 pf)) → (M1 80 = some (aB G 400 tf)) → (M1 81 = some (aI G 5 fv)) → (M1 82 = some (aZ G 384000 (bF tr))) → (M1 83 = some (aI G 3 (oF gv))) → (M1 84 = some (aI G 3 fo)) → (M1 85 = some (aZ G 40 (bF re))) → (M1 86 = some (aZ G 120 (bF us))) → (M1 87 = some (aZ G 120 (bF nx))) → (M1 99 = some (aJ G 1 of)) → Iv G z ad1 M1 s H1 locs1 → lv_has ls1 7 [(0, .ref b), (1, .ref (ad1 0)), (2, .ref (ad1 60)), (3, .ref (ad1 99)), (4, .int (nI i))] → W p l e room_1 s m #[Value.ref b] below meth c H1 locs1 (cz + 10) (sy + 300) Q (F0 m 1333 ls1 [])) : W p l e room_1 s m #[Value.ref b] below meth c H locs cz sy Q (F0 m 1124 ls []) := by
  have h16 := fL.1
  have hw1 := w1.1
  have hlst := ji_lst w3
  rcases (in_or 40 (xs (i + 1)) (by omega) : (xs (i + 1) < 0 ∨ ¬ xs (i + 1) < nI 40) ∨ (∃ t : Nat, t < 40 ∧ xs (i + 1) = nI t)) with hc_1 | hc_2
  · skip
    refine lv_aload_n hx hb dL_law_1124 rfl (lv_at hl 1 rfl) ?_
    refine lv_aload_n hx hb dL_law_1125 rfl (lv_at hl 0 rfl) ?_
    refine lv_iload hx hb dL_law_1126 (lv_at hl 4 rfl) ?_
    refine lv_iconst (v := nI 1) hx hb dL_law_1128 (by decide) ?_
    refine lv_iadd hx hb dL_law_1129 ?_
    refine n_eq (nI_add i 1) ?_
    refine va_sld (A := fr z) hx hb hX hbl hbz hI.S (vp_in_nI (n := i + 1) (by omega) (by omega)) dL_law_1130 ?_
    rw [nI_clamp (by omega)]
    refine lv_aload_n hx hb dL_law_1131 rfl (lv_at hl 0 rfl) ?_
    refine lv_iload hx hb dL_law_1132 (lv_at hl 4 rfl) ?_
    refine lv_iconst (v := nI 2) hx hb dL_law_1134 (by decide) ?_
    refine lv_iadd hx hb dL_law_1135 ?_
    refine n_eq (nI_add i 2) ?_
    refine va_sld (A := fr z) hx hb hX hbl hbz hI.S (vp_in_nI (n := i + 2) (by omega) (by omega)) dL_law_1136 ?_
    rw [nI_clamp (by omega)]
    refine lv_aload_n hx hb dL_law_1137 rfl (lv_at hl 0 rfl) ?_
    refine lv_iload hx hb dL_law_1138 (lv_at hl 4 rfl) ?_
    refine lv_iconst (v := nI 3) hx hb dL_law_1140 (by decide) ?_
    refine lv_iadd hx hb dL_law_1141 ?_
    refine n_eq (nI_add i 3) ?_
    refine va_sld (A := fr z) hx hb hX hbl hbz hI.S (vp_in_nI (n := i + 3) (by omega) (by omega)) dL_law_1142 ?_
    rw [nI_clamp (by omega)]
    refine lv_aload_n hx hb dL_law_1143 rfl (lv_at hl 0 rfl) ?_
    refine lv_iload hx hb dL_law_1144 (lv_at hl 4 rfl) ?_
    refine lv_iconst (v := nI 4) hx hb dL_law_1146 (by decide) ?_
    refine lv_iadd hx hb dL_law_1147 ?_
    refine n_eq (nI_add i 4) ?_
    refine va_sld (A := fr z) hx hb hX hbl hbz hI.S (vp_in_nI (n := i + 4) (by omega) (by omega)) dL_law_1148 ?_
    rw [nI_clamp (by omega)]
    refine lv_aload_n hx hb dL_law_1149 rfl (lv_at hl 3 rfl) ?_
    refine k_Ni (vx_runSW (As := [.ref (ad 0), .int (xs (i + 1)), .int (xs (i + 2)), .int (xs (i + 3)), .int (xs (i + 4)), .ref (ad 99)]) (rest := []) ⟨hx, hb, hml, hown, hts⟩ (c_L_ways_a l hst G z ad M (qa := qa) (qs := qs) (fw := fw) (x0 := xs (i + 1)) (x1 := xs (i + 2)) (x2 := xs (i + 3)) (x3 := xs (i + 4)) f_0 hc_1) (vx_cwSW 6 hts (gSW (lwg_of t_967 rfl) (lwg_of t_968 rfl) (lwg_of t_0 rfl) (lwg_of t_969 rfl)) rfl rfl rfl (by decide +kernel) ⟨Nat.le_of_ble_eq_true rfl, Nat.le_of_ble_eq_true rfl⟩) hI.preS rfl rfl hl.1 rfl (lv_room (Nat.le_of_ble_eq_true rfl)) dL_law_1150 ⟨(show _ ≤ (601024 : Nat) from by omega), (show _ ≤ (7293034 : Nat) from by omega)⟩) hI (fun r_3 M_5 H_6 locs_7 hp_4 hI => ?_)
    obtain ⟨hr_8, hF_9⟩ := hp_4
    have hm_10 : M_5 0 = some (cStore ad qa qs fw) := by rw [hF_9 0 ]; exact f_0
    have hm_11 : M_5 1 = some (cTape ad len) := by rw [hF_9 1 ]; exact f_1
    have hm_12 : M_5 2 = some (aI G 400 (nF tb)) := by rw [hF_9 2 ]; exact f_2
    have hm_13 : M_5 3 = some (cLaws ad ) := by rw [hF_9 3 ]; exact f_3
    have hm_14 : M_5 4 = some (aI G 36 (nF le)) := by rw [hF_9 4 ]; exact f_4
    have hm_15 : M_5 5 = some (aI G 36 (nF mo)) := by rw [hF_9 5 ]; exact f_5
    have hm_16 : M_5 6 = some (aI G 36 (nF al)) := by rw [hF_9 6 ]; exact f_6
    have hm_17 : M_5 7 = some (aZ G 6 (bF ho)) := by rw [hF_9 7 ]; exact f_7
    have hm_18 : M_5 8 = some (cOnes ad jn) := by rw [hF_9 8 ]; exact f_8
    have hm_19 : M_5 9 = some (aI G 40 (nF hg)) := by rw [hF_9 9 ]; exact f_9
    have hm_20 : M_5 10 = some (aI G 40 (nF lst)) := by rw [hF_9 10 ]; exact f_10
    have hm_21 : M_5 11 = some (aI G 40 (nF jd)) := by rw [hF_9 11 ]; exact f_11
    have hm_22 : M_5 12 = some (cEnds ad 12 s0) := by rw [hF_9 12 ]; exact f_12
    have hm_23 : M_5 13 = some (aI G 6 (nF r0)) := by rw [hF_9 13 ]; exact f_13
    have hm_24 : M_5 14 = some (aI G 6 (oF th)) := by rw [hF_9 14 ]; exact f_14
    have hm_25 : M_5 15 = some (aI G 6 (oF ol)) := by rw [hF_9 15 ]; exact f_15
    have hm_26 : M_5 19 = some (aZ G 120 (bF mm9)) := by rw [hF_9 19 ]; exact f_19
    have hm_27 : M_5 20 = some (aI G 120 ff) := by rw [hF_9 20 ]; exact f_20
    have hm_28 : M_5 21 = some (aI G 120 lq) := by rw [hF_9 21 ]; exact f_21
    have hm_29 : M_5 22 = some (cReader ad ra rb rt rv) := by rw [hF_9 22 ]; exact f_22
    have hm_30 : M_5 23 = some (cMatcher ad qm pz) := by rw [hF_9 23 ]; exact f_23
    have hm_31 : M_5 24 = some (aJ G 2160 sx) := by rw [hF_9 24 ]; exact f_24
    have hm_32 : M_5 25 = some (aI G 6 (nF ft)) := by rw [hF_9 25 ]; exact f_25
    have hm_33 : M_5 26 = some (aJ G 240 rx) := by rw [hF_9 26 ]; exact f_26
    have hm_34 : M_5 27 = some (aJ G 3 dm) := by rw [hF_9 27 ]; exact f_27
    have hm_35 : M_5 28 = some (aI G 3 rc) := by rw [hF_9 28 ]; exact f_28
    have hm_36 : M_5 qa = some (cQuestion ad qa ao vr) := by rw [hF_9 qa ]; exact f_qa
    have hm_37 : M_5 (qa + 1) = some (aI G 6 (nF kn)) := by rw [hF_9 (qa + 1) ]; exact f_qa_1
    have hm_38 : M_5 (qa + 2) = some (aZ G 6 (bF nq)) := by rw [hF_9 (qa + 2) ]; exact f_qa_2
    have hm_39 : M_5 (qa + 3) = some (aI G 6 (nF pn)) := by rw [hF_9 (qa + 3) ]; exact f_qa_3
    have hm_40 : M_5 (qa + 4) = some (aI G 6 (nF av)) := by rw [hF_9 (qa + 4) ]; exact f_qa_4
    have hm_41 : M_5 (qa + 5) = some (aI G 24 (nF ro)) := by rw [hF_9 (qa + 5) ]; exact f_qa_5
    have hm_42 : M_5 (qa + 6) = some (aI G 24 (nF te)) := by rw [hF_9 (qa + 6) ]; exact f_qa_6
    have hm_43 : M_5 qs = some (cQuestion ad qs sq su) := by rw [hF_9 qs ]; exact f_qs
    have hm_44 : M_5 (qs + 1) = some (aI G 6 (nF kb)) := by rw [hF_9 (qs + 1) ]; exact f_qs_1
    have hm_45 : M_5 (qs + 2) = some (aZ G 6 (bF nb)) := by rw [hF_9 (qs + 2) ]; exact f_qs_2
    have hm_46 : M_5 (qs + 3) = some (aI G 6 (nF pb)) := by rw [hF_9 (qs + 3) ]; exact f_qs_3
    have hm_47 : M_5 (qs + 4) = some (aI G 6 (nF ab)) := by rw [hF_9 (qs + 4) ]; exact f_qs_4
    have hm_48 : M_5 (qs + 5) = some (aI G 24 (nF rbb)) := by rw [hF_9 (qs + 5) ]; exact f_qs_5
    have hm_49 : M_5 (qs + 6) = some (aI G 24 (nF tbb)) := by rw [hF_9 (qs + 6) ]; exact f_qs_6
    have hm_50 : M_5 60 = some (cModel ad tw n jn ao vr sn len pt zs bg fw) := by rw [hF_9 60 ]; exact f_60
    have hm_51 : M_5 61 = some (aI G 36 (nF le)) := by rw [hF_9 61 ]; exact f_61
    have hm_52 : M_5 62 = some (aI G 36 (nF mo)) := by rw [hF_9 62 ]; exact f_62
    have hm_53 : M_5 63 = some (aI G 36 (nF al)) := by rw [hF_9 63 ]; exact f_63
    have hm_54 : M_5 64 = some (aZ G 6 (bF ho)) := by rw [hF_9 64 ]; exact f_64
    have hm_55 : M_5 65 = some (aI G 120 (nF mk)) := by rw [hF_9 65 ]; exact f_65
    have hm_56 : M_5 66 = some (aI G 120 mf) := by rw [hF_9 66 ]; exact f_66
    have hm_57 : M_5 67 = some (aI G 120 mu) := by rw [hF_9 67 ]; exact f_67
    have hm_58 : M_5 68 = some (aI G 121 (nF mz)) := by rw [hF_9 68 ]; exact f_68
    have hm_59 : M_5 69 = some (aI G 726 (nF rr)) := by rw [hF_9 69 ]; exact f_69
    have hm_60 : M_5 70 = some (aI G 726 (nF ee)) := by rw [hF_9 70 ]; exact f_70
    have hm_61 : M_5 71 = some (aI G 40 (nF lst)) := by rw [hF_9 71 ]; exact f_71
    have hm_62 : M_5 72 = some (aI G 40 (nF oa)) := by rw [hF_9 72 ]; exact f_72
    have hm_63 : M_5 73 = some (aI G 40 (nF ob)) := by rw [hF_9 73 ]; exact f_73
    have hm_64 : M_5 74 = some (aI G 120 s74) := by rw [hF_9 74 ]; exact f_74
    have hm_65 : M_5 75 = some (aI G 12 ak) := by rw [hF_9 75 ]; exact f_75
    have hm_66 : M_5 76 = some (aZ G 12 (bF nm)) := by rw [hF_9 76 ]; exact f_76
    have hm_67 : M_5 77 = some (aI G 12 (nF ap)) := by rw [hF_9 77 ]; exact f_77
    have hm_68 : M_5 78 = some (aI G 48 pr) := by rw [hF_9 78 ]; exact f_78
    have hm_69 : M_5 79 = some (aI G 48 pf) := by rw [hF_9 79 ]; exact f_79
    have hm_70 : M_5 80 = some (aB G 400 tf) := by rw [hF_9 80 ]; exact f_80
    have hm_71 : M_5 81 = some (aI G 5 fv) := by rw [hF_9 81 ]; exact f_81
    have hm_72 : M_5 82 = some (aZ G 384000 (bF tr)) := by rw [hF_9 82 ]; exact f_82
    have hm_73 : M_5 83 = some (aI G 3 (oF gv)) := by rw [hF_9 83 ]; exact f_83
    have hm_74 : M_5 84 = some (aI G 3 fo) := by rw [hF_9 84 ]; exact f_84
    have hm_75 : M_5 85 = some (aZ G 40 (bF re)) := by rw [hF_9 85 ]; exact f_85
    have hm_76 : M_5 86 = some (aZ G 120 (bF us)) := by rw [hF_9 86 ]; exact f_86
    have hm_77 : M_5 87 = some (aZ G 120 (bF nx)) := by rw [hF_9 87 ]; exact f_87
    have hm_78 : M_5 99 = some (aJ G 1 of) := by rw [hF_9 99 ]; exact f_99
    have hm_79 : M_5 16 = some (cLines ad ) := by rw [hF_9 16 ]; exact h16
    have hL_80 : LSm G ad M_5 n kd fm to sz rl en := fL.keep (fun j hj => hF_9 j )
    rw [hr_8]
    refine lv_istore (lv' := [(5, .int (nI 1)), (0, .ref b), (1, .ref (ad 0)), (2, .ref (ad 60)), (3, .ref (ad 99)), (4, .int (nI i))]) hx hb dL_law_1153 hl (by decide) rfl (fun ls hl => ?_)
    refine lv_aload_n hx hb dL_law_1155 rfl (lv_at hl 3 rfl) ?_
    refine lv_aload_n hx hb dL_law_1156 rfl (lv_at hl 1 rfl) ?_
    refine lv_iload hx hb dL_law_1157 (lv_at hl 5 rfl) ?_
    refine lv_iconst (v := nI 1) hx hb dL_law_1159 (by decide) ?_
    refine lv_iadd hx hb dL_law_1160 ?_
    refine n_eq (nI_add i 1) ?_
    refine va_sld (A := fr z) hx hb hX hbl hbz hI.S (vp_in_nI (n := i + 1) (by omega) (by omega)) dL_law_1161 ?_
    rw [nI_clamp (by omega)]
    refine lv_aload_n hx hb dL_law_1162 rfl (lv_at hl 1 rfl) ?_
    refine lv_iload hx hb dL_law_1163 (lv_at hl 5 rfl) ?_
    refine lv_iconst (v := nI 2) hx hb dL_law_1165 (by decide) ?_
    refine lv_iadd hx hb dL_law_1166 ?_
    refine n_eq (nI_add i 2) ?_
    refine va_sld (A := fr z) hx hb hX hbl hbz hI.S (vp_in_nI (n := i + 2) (by omega) (by omega)) dL_law_1167 ?_
    rw [nI_clamp (by omega)]
    refine lv_aload_n hx hb dL_law_1168 rfl (lv_at hl 1 rfl) ?_
    refine lv_iload hx hb dL_law_1169 (lv_at hl 5 rfl) ?_
    refine lv_iconst (v := nI 3) hx hb dL_law_1171 (by decide) ?_
    refine lv_iadd hx hb dL_law_1172 ?_
    refine n_eq (nI_add i 3) ?_
    refine va_sld (A := fr z) hx hb hX hbl hbz hI.S (vp_in_nI (n := i + 3) (by omega) (by omega)) dL_law_1173 ?_
    rw [nI_clamp (by omega)]
    refine lv_aload_n hx hb dL_law_1174 rfl (lv_at hl 1 rfl) ?_
    refine lv_iload hx hb dL_law_1175 (lv_at hl 5 rfl) ?_
    refine lv_iconst (v := nI 4) hx hb dL_law_1177 (by decide) ?_
    refine lv_iadd hx hb dL_law_1178 ?_
    refine n_eq (nI_add i 4) ?_
    refine va_sld (A := fr z) hx hb hX hbl hbz hI.S (vp_in_nI (n := i + 4) (by omega) (by omega)) dL_law_1179 ?_
    rw [nI_clamp (by omega)]
    refine k_Ni (va_runV (As := [.int (xs (i + 1)), .int (xs (i + 2)), .int (xs (i + 3)), .int (xs (i + 4))]) (rest := []) ⟨hx, hb, hml, hown, hts⟩ (c_X10_ways_a l G z ad M_5 (th := tw) (ln := n) (on := jn) (ao := ao) (vr := vr) (sn := sn) (tp := len) (pt := pt) (zs := zs) (bg := bg) (fa := fw) (x0 := xs (i + 1)) (x1 := xs (i + 2)) (x2 := xs (i + 3)) (x3 := xs (i + 4)) hm_50 hc_1) (cwV 4 hts (gV (lwg_of t_1354 rfl) (lwg_of t_1355 rfl) (lwg_of t_1356 rfl) (lwg_of t_13 rfl) (lwg_of t_1357 rfl)) rfl rfl rfl (by decide +kernel) ⟨Nat.le_of_ble_eq_true rfl, Nat.le_of_ble_eq_true rfl⟩) (hI.preV hm_50 rfl) rfl rfl hl.1 rfl (lv_room (Nat.le_of_ble_eq_true rfl)) dL_law_1180 ⟨(show _ ≤ (601024 : Nat) from by omega), (show _ ≤ (7293034 : Nat) from by omega)⟩) hI (fun r_81 M_83 H_84 locs_85 hp_82 hI => ?_)
    obtain ⟨hr_86, hm_87, hF_88⟩ := hp_82
    have hm_89 : M_83 0 = some (cStore ad qa qs fw) := by rw [hF_88 0 (by omega)]; exact hm_10
    have hm_90 : M_83 1 = some (cTape ad len) := by rw [hF_88 1 (by omega)]; exact hm_11
    have hm_91 : M_83 2 = some (aI G 400 (nF tb)) := by rw [hF_88 2 (by omega)]; exact hm_12
    have hm_92 : M_83 3 = some (cLaws ad ) := by rw [hF_88 3 (by omega)]; exact hm_13
    have hm_93 : M_83 4 = some (aI G 36 (nF le)) := by rw [hF_88 4 (by omega)]; exact hm_14
    have hm_94 : M_83 5 = some (aI G 36 (nF mo)) := by rw [hF_88 5 (by omega)]; exact hm_15
    have hm_95 : M_83 6 = some (aI G 36 (nF al)) := by rw [hF_88 6 (by omega)]; exact hm_16
    have hm_96 : M_83 7 = some (aZ G 6 (bF ho)) := by rw [hF_88 7 (by omega)]; exact hm_17
    have hm_97 : M_83 8 = some (cOnes ad jn) := by rw [hF_88 8 (by omega)]; exact hm_18
    have hm_98 : M_83 9 = some (aI G 40 (nF hg)) := by rw [hF_88 9 (by omega)]; exact hm_19
    have hm_99 : M_83 10 = some (aI G 40 (nF lst)) := by rw [hF_88 10 (by omega)]; exact hm_20
    have hm_100 : M_83 11 = some (aI G 40 (nF jd)) := by rw [hF_88 11 (by omega)]; exact hm_21
    have hm_101 : M_83 12 = some (cEnds ad 12 s0) := by rw [hF_88 12 (by omega)]; exact hm_22
    have hm_102 : M_83 13 = some (aI G 6 (nF r0)) := by rw [hF_88 13 (by omega)]; exact hm_23
    have hm_103 : M_83 14 = some (aI G 6 (oF th)) := by rw [hF_88 14 (by omega)]; exact hm_24
    have hm_104 : M_83 15 = some (aI G 6 (oF ol)) := by rw [hF_88 15 (by omega)]; exact hm_25
    have hm_105 : M_83 19 = some (aZ G 120 (bF mm9)) := by rw [hF_88 19 (by omega)]; exact hm_26
    have hm_106 : M_83 20 = some (aI G 120 ff) := by rw [hF_88 20 (by omega)]; exact hm_27
    have hm_107 : M_83 21 = some (aI G 120 lq) := by rw [hF_88 21 (by omega)]; exact hm_28
    have hm_108 : M_83 22 = some (cReader ad ra rb rt rv) := by rw [hF_88 22 (by omega)]; exact hm_29
    have hm_109 : M_83 23 = some (cMatcher ad qm pz) := by rw [hF_88 23 (by omega)]; exact hm_30
    have hm_110 : M_83 24 = some (aJ G 2160 sx) := by rw [hF_88 24 (by omega)]; exact hm_31
    have hm_111 : M_83 25 = some (aI G 6 (nF ft)) := by rw [hF_88 25 (by omega)]; exact hm_32
    have hm_112 : M_83 26 = some (aJ G 240 rx) := by rw [hF_88 26 (by omega)]; exact hm_33
    have hm_113 : M_83 27 = some (aJ G 3 dm) := by rw [hF_88 27 (by omega)]; exact hm_34
    have hm_114 : M_83 28 = some (aI G 3 rc) := by rw [hF_88 28 (by omega)]; exact hm_35
    have hm_115 : M_83 qa = some (cQuestion ad qa ao vr) := by rw [hF_88 qa (by omega)]; exact hm_36
    have hm_116 : M_83 (qa + 1) = some (aI G 6 (nF kn)) := by rw [hF_88 (qa + 1) (by omega)]; exact hm_37
    have hm_117 : M_83 (qa + 2) = some (aZ G 6 (bF nq)) := by rw [hF_88 (qa + 2) (by omega)]; exact hm_38
    have hm_118 : M_83 (qa + 3) = some (aI G 6 (nF pn)) := by rw [hF_88 (qa + 3) (by omega)]; exact hm_39
    have hm_119 : M_83 (qa + 4) = some (aI G 6 (nF av)) := by rw [hF_88 (qa + 4) (by omega)]; exact hm_40
    have hm_120 : M_83 (qa + 5) = some (aI G 24 (nF ro)) := by rw [hF_88 (qa + 5) (by omega)]; exact hm_41
    have hm_121 : M_83 (qa + 6) = some (aI G 24 (nF te)) := by rw [hF_88 (qa + 6) (by omega)]; exact hm_42
    have hm_122 : M_83 qs = some (cQuestion ad qs sq su) := by rw [hF_88 qs (by omega)]; exact hm_43
    have hm_123 : M_83 (qs + 1) = some (aI G 6 (nF kb)) := by rw [hF_88 (qs + 1) (by omega)]; exact hm_44
    have hm_124 : M_83 (qs + 2) = some (aZ G 6 (bF nb)) := by rw [hF_88 (qs + 2) (by omega)]; exact hm_45
    have hm_125 : M_83 (qs + 3) = some (aI G 6 (nF pb)) := by rw [hF_88 (qs + 3) (by omega)]; exact hm_46
    have hm_126 : M_83 (qs + 4) = some (aI G 6 (nF ab)) := by rw [hF_88 (qs + 4) (by omega)]; exact hm_47
    have hm_127 : M_83 (qs + 5) = some (aI G 24 (nF rbb)) := by rw [hF_88 (qs + 5) (by omega)]; exact hm_48
    have hm_128 : M_83 (qs + 6) = some (aI G 24 (nF tbb)) := by rw [hF_88 (qs + 6) (by omega)]; exact hm_49
    have hm_129 : M_83 61 = some (aI G 36 (nF le)) := by rw [hF_88 61 (by omega)]; exact hm_51
    have hm_130 : M_83 62 = some (aI G 36 (nF mo)) := by rw [hF_88 62 (by omega)]; exact hm_52
    have hm_131 : M_83 63 = some (aI G 36 (nF al)) := by rw [hF_88 63 (by omega)]; exact hm_53
    have hm_132 : M_83 64 = some (aZ G 6 (bF ho)) := by rw [hF_88 64 (by omega)]; exact hm_54
    have hm_133 : M_83 65 = some (aI G 120 (nF mk)) := by rw [hF_88 65 (by omega)]; exact hm_55
    have hm_134 : M_83 66 = some (aI G 120 mf) := by rw [hF_88 66 (by omega)]; exact hm_56
    have hm_135 : M_83 67 = some (aI G 120 mu) := by rw [hF_88 67 (by omega)]; exact hm_57
    have hm_136 : M_83 68 = some (aI G 121 (nF mz)) := by rw [hF_88 68 (by omega)]; exact hm_58
    have hm_137 : M_83 69 = some (aI G 726 (nF rr)) := by rw [hF_88 69 (by omega)]; exact hm_59
    have hm_138 : M_83 70 = some (aI G 726 (nF ee)) := by rw [hF_88 70 (by omega)]; exact hm_60
    have hm_139 : M_83 71 = some (aI G 40 (nF lst)) := by rw [hF_88 71 (by omega)]; exact hm_61
    have hm_140 : M_83 72 = some (aI G 40 (nF oa)) := by rw [hF_88 72 (by omega)]; exact hm_62
    have hm_141 : M_83 73 = some (aI G 40 (nF ob)) := by rw [hF_88 73 (by omega)]; exact hm_63
    have hm_142 : M_83 74 = some (aI G 120 s74) := by rw [hF_88 74 (by omega)]; exact hm_64
    have hm_143 : M_83 75 = some (aI G 12 ak) := by rw [hF_88 75 (by omega)]; exact hm_65
    have hm_144 : M_83 76 = some (aZ G 12 (bF nm)) := by rw [hF_88 76 (by omega)]; exact hm_66
    have hm_145 : M_83 77 = some (aI G 12 (nF ap)) := by rw [hF_88 77 (by omega)]; exact hm_67
    have hm_146 : M_83 78 = some (aI G 48 pr) := by rw [hF_88 78 (by omega)]; exact hm_68
    have hm_147 : M_83 79 = some (aI G 48 pf) := by rw [hF_88 79 (by omega)]; exact hm_69
    have hm_148 : M_83 80 = some (aB G 400 tf) := by rw [hF_88 80 (by omega)]; exact hm_70
    have hm_149 : M_83 81 = some (aI G 5 fv) := by rw [hF_88 81 (by omega)]; exact hm_71
    have hm_150 : M_83 82 = some (aZ G 384000 (bF tr)) := by rw [hF_88 82 (by omega)]; exact hm_72
    have hm_151 : M_83 83 = some (aI G 3 (oF gv)) := by rw [hF_88 83 (by omega)]; exact hm_73
    have hm_152 : M_83 84 = some (aI G 3 fo) := by rw [hF_88 84 (by omega)]; exact hm_74
    have hm_153 : M_83 85 = some (aZ G 40 (bF re)) := by rw [hF_88 85 (by omega)]; exact hm_75
    have hm_154 : M_83 86 = some (aZ G 120 (bF us)) := by rw [hF_88 86 (by omega)]; exact hm_76
    have hm_155 : M_83 87 = some (aZ G 120 (bF nx)) := by rw [hF_88 87 (by omega)]; exact hm_77
    have hm_156 : M_83 99 = some (aJ G 1 of) := by rw [hF_88 99 (by omega)]; exact hm_78
    have hm_157 : M_83 16 = some (cLines ad ) := by rw [hF_88 16 (by omega)]; exact hm_79
    have hL_158 : LSm G ad M_83 n kd fm to sz rl en := hL_80.keep (fun j hj => hF_88 j (by omega))
    have hF_159 : ∀ j : Nat, j ≠ 60 → M_83 j = M j := fun j q0 => (hF_88 j q0).trans (hF_9 j )
    rw [hr_86]
    refine lv_istore (lv' := [(6, .int (nI 0)), (5, .int (nI 1)), (0, .ref b), (1, .ref (ad 0)), (2, .ref (ad 60)), (3, .ref (ad 99)), (4, .int (nI i))]) hx hb dL_law_1183 hl (by decide) rfl (fun ls hl => ?_)
    refine lv_aload_n hx hb dL_law_1185 rfl (lv_at hl 4 rfl) ?_
    refine k_Ri (va_runV (As := []) (rest := []) ⟨hx, hb, hml, hown, hts⟩ (c_X10_thrown l G z ad M_83 (th := 1) (ln := n) (on := jn) (ao := ao) (vr := vr) (sn := sn) (tp := len) (pt := pt) (zs := zs) (bg := bg) (fa := fw) hm_87) (cwV 0 hts (gV (lwg_of t_997 rfl) (lwg_of t_998 rfl) (lwg_of t_999 rfl) (lwg_of t_13 rfl) (lwg_of t_1000 rfl)) rfl rfl rfl (by decide +kernel) ⟨Nat.le_of_ble_eq_true rfl, Nat.le_of_ble_eq_true rfl⟩) (hI.preV hm_87 rfl) rfl rfl hl.1 rfl (lv_room (Nat.le_of_ble_eq_true rfl)) dL_law_1186 ⟨(show _ ≤ (601024 : Nat) from by omega), (show _ ≤ (7293034 : Nat) from by omega)⟩) (fun _ h => h) (fun r_160 hp_161 => ?_)
    rw [hp_161]
    refine lv_iload hx hb dL_law_1189 (lv_at hl 1 rfl) ?_
    refine lv_icmp_eq (tgt := 1196) hx hb dL_law_1191 (by decide) (fun c_162 => ?_) (fun c_162 => ?_)
    · -- 1191: nI 1 eq
      refine lv_iload hx hb dL_law_1196 (lv_at hl 1 rfl) ?_
      refine lv_if_ne (tgt := 1213) hx hb dL_law_1198 (by decide) (fun c_163 => ?_) (fun c_163 => ?_)
      · -- 1198: nI 1 ne
        refine lv_goto (tgt := 1333) hx hb dL_law_1213 (by decide) ?_
        refine W.widen (k := cz + 10) (n := sy + 300) (by omega) (by omega) ?_
        exact kk ad M_83 H_84 locs_85 ls n kd fm to sz rl en qa qs fw len tb le mo al ho jn hg lst jd s0 r0 th ol e0 mm9 ff lq ra rb rt rv qm pz sx ft rx dm rc ao vr kn nq pn av ro te sq su kb nb pb ab rbb tbb 1 sn pt zs bg mk mf mu mz rr ee oa ob s74 ak nm ap pr pf tf fv tr gv fo re us nx of hL_158 w1 w2 w3 w4 w5 w6 w7 w8 w9 w10 w11 w12 w13 w14 w15 w16 w17 w18 w19 w20 w21 w22 w23 w24 w25 w26 w27 w28 w29 (fun h9 => by rw [hF_159 17 (by omega), hF_159 18 (by omega)]; exact w30 h9) (by rw [hF_159 29 (by omega)]; exact w31) (fun j9 h9 => by rw [hF_159 j9 (by omega)]; exact w32 j9 h9) hm_89 hm_90 hm_91 hm_92 hm_93 hm_94 hm_95 hm_96 hm_97 hm_98 hm_99 hm_100 hm_101 hm_102 hm_103 hm_104 hm_105 hm_106 hm_107 hm_108 hm_109 hm_110 hm_111 hm_112 hm_113 hm_114 hm_115 hm_116 hm_117 hm_118 hm_119 hm_120 hm_121 hm_122 hm_123 hm_124 hm_125 hm_126 hm_127 hm_128 hm_87 hm_129 hm_130 hm_131 hm_132 hm_133 hm_134 hm_135 hm_136 hm_137 hm_138 hm_139 hm_140 hm_141 hm_142 hm_143 hm_144 hm_145 hm_146 hm_147 hm_148 hm_149 hm_150 hm_151 hm_152 hm_153 hm_154 hm_155 hm_156 hI (lv_sub hl [2, 3, 4, 5, 6] rfl)
      · -- 1198: nI 1 eq
        exact absurd c_163 (by decide)
    · -- 1191: nI 1 ne
      exact absurd (by decide) c_162
  · skip
    refine lv_aload_n hx hb dL_law_1124 rfl (lv_at hl 1 rfl) ?_
    obtain ⟨t1, ht1, et1⟩ := hc_2
    rcases (in_or 40 (xs (i + 2)) (by omega) : (xs (i + 2) < 0 ∨ ¬ xs (i + 2) < nI 40) ∨ (∃ t : Nat, t < 40 ∧ xs (i + 2) = nI t)) with hc_164 | hc_165
    · skip
      refine lv_aload_n hx hb dL_law_1125 rfl (lv_at hl 0 rfl) ?_
      refine lv_iload hx hb dL_law_1126 (lv_at hl 4 rfl) ?_
      refine lv_iconst (v := nI 1) hx hb dL_law_1128 (by decide) ?_
      refine lv_iadd hx hb dL_law_1129 ?_
      refine n_eq (nI_add i 1) ?_
      refine va_sld (A := fr z) hx hb hX hbl hbz hI.S (vp_in_nI (n := i + 1) (by omega) (by omega)) dL_law_1130 ?_
      rw [nI_clamp (by omega)]
      refine n_eq (show _ = nI t1 from et1) ?_
      refine lv_aload_n hx hb dL_law_1131 rfl (lv_at hl 0 rfl) ?_
      refine lv_iload hx hb dL_law_1132 (lv_at hl 4 rfl) ?_
      refine lv_iconst (v := nI 2) hx hb dL_law_1134 (by decide) ?_
      refine lv_iadd hx hb dL_law_1135 ?_
      refine n_eq (nI_add i 2) ?_
      refine va_sld (A := fr z) hx hb hX hbl hbz hI.S (vp_in_nI (n := i + 2) (by omega) (by omega)) dL_law_1136 ?_
      rw [nI_clamp (by omega)]
      refine lv_aload_n hx hb dL_law_1137 rfl (lv_at hl 0 rfl) ?_
      refine lv_iload hx hb dL_law_1138 (lv_at hl 4 rfl) ?_
      refine lv_iconst (v := nI 3) hx hb dL_law_1140 (by decide) ?_
      refine lv_iadd hx hb dL_law_1141 ?_
      refine n_eq (nI_add i 3) ?_
      refine va_sld (A := fr z) hx hb hX hbl hbz hI.S (vp_in_nI (n := i + 3) (by omega) (by omega)) dL_law_1142 ?_
      rw [nI_clamp (by omega)]
      refine lv_aload_n hx hb dL_law_1143 rfl (lv_at hl 0 rfl) ?_
      refine lv_iload hx hb dL_law_1144 (lv_at hl 4 rfl) ?_
      refine lv_iconst (v := nI 4) hx hb dL_law_1146 (by decide) ?_
      refine lv_iadd hx hb dL_law_1147 ?_
      refine n_eq (nI_add i 4) ?_
      refine va_sld (A := fr z) hx hb hX hbl hbz hI.S (vp_in_nI (n := i + 4) (by omega) (by omega)) dL_law_1148 ?_
      rw [nI_clamp (by omega)]
      refine lv_aload_n hx hb dL_law_1149 rfl (lv_at hl 3 rfl) ?_
      refine k_Ni (vx_runSW (As := [.ref (ad 0), .int (nI t1), .int (xs (i + 2)), .int (xs (i + 3)), .int (xs (i + 4)), .ref (ad 99)]) (rest := []) ⟨hx, hb, hml, hown, hts⟩ (c_L_ways_b l hst G z ad M (qa := qa) (qs := qs) (fw := fw) (a := t1) (x1 := xs (i + 2)) (x2 := xs (i + 3)) (x3 := xs (i + 4)) f_0 ht1 hc_164) (vx_cwSW 6 hts (gSW (lwg_of t_967 rfl) (lwg_of t_968 rfl) (lwg_of t_0 rfl) (lwg_of t_969 rfl)) rfl rfl rfl (by decide +kernel) ⟨Nat.le_of_ble_eq_true rfl, Nat.le_of_ble_eq_true rfl⟩) hI.preS rfl rfl hl.1 rfl (lv_room (Nat.le_of_ble_eq_true rfl)) dL_law_1150 ⟨(show _ ≤ (601024 : Nat) from by omega), (show _ ≤ (7293034 : Nat) from by omega)⟩) hI (fun r_166 M_168 H_169 locs_170 hp_167 hI => ?_)
      obtain ⟨hr_171, hF_172⟩ := hp_167
      have hm_173 : M_168 0 = some (cStore ad qa qs fw) := by rw [hF_172 0 ]; exact f_0
      have hm_174 : M_168 1 = some (cTape ad len) := by rw [hF_172 1 ]; exact f_1
      have hm_175 : M_168 2 = some (aI G 400 (nF tb)) := by rw [hF_172 2 ]; exact f_2
      have hm_176 : M_168 3 = some (cLaws ad ) := by rw [hF_172 3 ]; exact f_3
      have hm_177 : M_168 4 = some (aI G 36 (nF le)) := by rw [hF_172 4 ]; exact f_4
      have hm_178 : M_168 5 = some (aI G 36 (nF mo)) := by rw [hF_172 5 ]; exact f_5
      have hm_179 : M_168 6 = some (aI G 36 (nF al)) := by rw [hF_172 6 ]; exact f_6
      have hm_180 : M_168 7 = some (aZ G 6 (bF ho)) := by rw [hF_172 7 ]; exact f_7
      have hm_181 : M_168 8 = some (cOnes ad jn) := by rw [hF_172 8 ]; exact f_8
      have hm_182 : M_168 9 = some (aI G 40 (nF hg)) := by rw [hF_172 9 ]; exact f_9
      have hm_183 : M_168 10 = some (aI G 40 (nF lst)) := by rw [hF_172 10 ]; exact f_10
      have hm_184 : M_168 11 = some (aI G 40 (nF jd)) := by rw [hF_172 11 ]; exact f_11
      have hm_185 : M_168 12 = some (cEnds ad 12 s0) := by rw [hF_172 12 ]; exact f_12
      have hm_186 : M_168 13 = some (aI G 6 (nF r0)) := by rw [hF_172 13 ]; exact f_13
      have hm_187 : M_168 14 = some (aI G 6 (oF th)) := by rw [hF_172 14 ]; exact f_14
      have hm_188 : M_168 15 = some (aI G 6 (oF ol)) := by rw [hF_172 15 ]; exact f_15
      have hm_189 : M_168 19 = some (aZ G 120 (bF mm9)) := by rw [hF_172 19 ]; exact f_19
      have hm_190 : M_168 20 = some (aI G 120 ff) := by rw [hF_172 20 ]; exact f_20
      have hm_191 : M_168 21 = some (aI G 120 lq) := by rw [hF_172 21 ]; exact f_21
      have hm_192 : M_168 22 = some (cReader ad ra rb rt rv) := by rw [hF_172 22 ]; exact f_22
      have hm_193 : M_168 23 = some (cMatcher ad qm pz) := by rw [hF_172 23 ]; exact f_23
      have hm_194 : M_168 24 = some (aJ G 2160 sx) := by rw [hF_172 24 ]; exact f_24
      have hm_195 : M_168 25 = some (aI G 6 (nF ft)) := by rw [hF_172 25 ]; exact f_25
      have hm_196 : M_168 26 = some (aJ G 240 rx) := by rw [hF_172 26 ]; exact f_26
      have hm_197 : M_168 27 = some (aJ G 3 dm) := by rw [hF_172 27 ]; exact f_27
      have hm_198 : M_168 28 = some (aI G 3 rc) := by rw [hF_172 28 ]; exact f_28
      have hm_199 : M_168 qa = some (cQuestion ad qa ao vr) := by rw [hF_172 qa ]; exact f_qa
      have hm_200 : M_168 (qa + 1) = some (aI G 6 (nF kn)) := by rw [hF_172 (qa + 1) ]; exact f_qa_1
      have hm_201 : M_168 (qa + 2) = some (aZ G 6 (bF nq)) := by rw [hF_172 (qa + 2) ]; exact f_qa_2
      have hm_202 : M_168 (qa + 3) = some (aI G 6 (nF pn)) := by rw [hF_172 (qa + 3) ]; exact f_qa_3
      have hm_203 : M_168 (qa + 4) = some (aI G 6 (nF av)) := by rw [hF_172 (qa + 4) ]; exact f_qa_4
      have hm_204 : M_168 (qa + 5) = some (aI G 24 (nF ro)) := by rw [hF_172 (qa + 5) ]; exact f_qa_5
      have hm_205 : M_168 (qa + 6) = some (aI G 24 (nF te)) := by rw [hF_172 (qa + 6) ]; exact f_qa_6
      have hm_206 : M_168 qs = some (cQuestion ad qs sq su) := by rw [hF_172 qs ]; exact f_qs
      have hm_207 : M_168 (qs + 1) = some (aI G 6 (nF kb)) := by rw [hF_172 (qs + 1) ]; exact f_qs_1
      have hm_208 : M_168 (qs + 2) = some (aZ G 6 (bF nb)) := by rw [hF_172 (qs + 2) ]; exact f_qs_2
      have hm_209 : M_168 (qs + 3) = some (aI G 6 (nF pb)) := by rw [hF_172 (qs + 3) ]; exact f_qs_3
      have hm_210 : M_168 (qs + 4) = some (aI G 6 (nF ab)) := by rw [hF_172 (qs + 4) ]; exact f_qs_4
      have hm_211 : M_168 (qs + 5) = some (aI G 24 (nF rbb)) := by rw [hF_172 (qs + 5) ]; exact f_qs_5
      have hm_212 : M_168 (qs + 6) = some (aI G 24 (nF tbb)) := by rw [hF_172 (qs + 6) ]; exact f_qs_6
      have hm_213 : M_168 60 = some (cModel ad tw n jn ao vr sn len pt zs bg fw) := by rw [hF_172 60 ]; exact f_60
      have hm_214 : M_168 61 = some (aI G 36 (nF le)) := by rw [hF_172 61 ]; exact f_61
      have hm_215 : M_168 62 = some (aI G 36 (nF mo)) := by rw [hF_172 62 ]; exact f_62
      have hm_216 : M_168 63 = some (aI G 36 (nF al)) := by rw [hF_172 63 ]; exact f_63
      have hm_217 : M_168 64 = some (aZ G 6 (bF ho)) := by rw [hF_172 64 ]; exact f_64
      have hm_218 : M_168 65 = some (aI G 120 (nF mk)) := by rw [hF_172 65 ]; exact f_65
      have hm_219 : M_168 66 = some (aI G 120 mf) := by rw [hF_172 66 ]; exact f_66
      have hm_220 : M_168 67 = some (aI G 120 mu) := by rw [hF_172 67 ]; exact f_67
      have hm_221 : M_168 68 = some (aI G 121 (nF mz)) := by rw [hF_172 68 ]; exact f_68
      have hm_222 : M_168 69 = some (aI G 726 (nF rr)) := by rw [hF_172 69 ]; exact f_69
      have hm_223 : M_168 70 = some (aI G 726 (nF ee)) := by rw [hF_172 70 ]; exact f_70
      have hm_224 : M_168 71 = some (aI G 40 (nF lst)) := by rw [hF_172 71 ]; exact f_71
      have hm_225 : M_168 72 = some (aI G 40 (nF oa)) := by rw [hF_172 72 ]; exact f_72
      have hm_226 : M_168 73 = some (aI G 40 (nF ob)) := by rw [hF_172 73 ]; exact f_73
      have hm_227 : M_168 74 = some (aI G 120 s74) := by rw [hF_172 74 ]; exact f_74
      have hm_228 : M_168 75 = some (aI G 12 ak) := by rw [hF_172 75 ]; exact f_75
      have hm_229 : M_168 76 = some (aZ G 12 (bF nm)) := by rw [hF_172 76 ]; exact f_76
      have hm_230 : M_168 77 = some (aI G 12 (nF ap)) := by rw [hF_172 77 ]; exact f_77
      have hm_231 : M_168 78 = some (aI G 48 pr) := by rw [hF_172 78 ]; exact f_78
      have hm_232 : M_168 79 = some (aI G 48 pf) := by rw [hF_172 79 ]; exact f_79
      have hm_233 : M_168 80 = some (aB G 400 tf) := by rw [hF_172 80 ]; exact f_80
      have hm_234 : M_168 81 = some (aI G 5 fv) := by rw [hF_172 81 ]; exact f_81
      have hm_235 : M_168 82 = some (aZ G 384000 (bF tr)) := by rw [hF_172 82 ]; exact f_82
      have hm_236 : M_168 83 = some (aI G 3 (oF gv)) := by rw [hF_172 83 ]; exact f_83
      have hm_237 : M_168 84 = some (aI G 3 fo) := by rw [hF_172 84 ]; exact f_84
      have hm_238 : M_168 85 = some (aZ G 40 (bF re)) := by rw [hF_172 85 ]; exact f_85
      have hm_239 : M_168 86 = some (aZ G 120 (bF us)) := by rw [hF_172 86 ]; exact f_86
      have hm_240 : M_168 87 = some (aZ G 120 (bF nx)) := by rw [hF_172 87 ]; exact f_87
      have hm_241 : M_168 99 = some (aJ G 1 of) := by rw [hF_172 99 ]; exact f_99
      have hm_242 : M_168 16 = some (cLines ad ) := by rw [hF_172 16 ]; exact h16
      have hL_243 : LSm G ad M_168 n kd fm to sz rl en := fL.keep (fun j hj => hF_172 j )
      rw [hr_171]
      refine lv_istore (lv' := [(5, .int (nI 1)), (0, .ref b), (1, .ref (ad 0)), (2, .ref (ad 60)), (3, .ref (ad 99)), (4, .int (nI i))]) hx hb dL_law_1153 hl (by decide) rfl (fun ls hl => ?_)
      refine lv_aload_n hx hb dL_law_1155 rfl (lv_at hl 3 rfl) ?_
      refine lv_aload_n hx hb dL_law_1156 rfl (lv_at hl 1 rfl) ?_
      refine lv_iload hx hb dL_law_1157 (lv_at hl 5 rfl) ?_
      refine lv_iconst (v := nI 1) hx hb dL_law_1159 (by decide) ?_
      refine lv_iadd hx hb dL_law_1160 ?_
      refine n_eq (nI_add i 1) ?_
      refine va_sld (A := fr z) hx hb hX hbl hbz hI.S (vp_in_nI (n := i + 1) (by omega) (by omega)) dL_law_1161 ?_
      rw [nI_clamp (by omega)]
      refine n_eq (show _ = nI t1 from et1) ?_
      refine lv_aload_n hx hb dL_law_1162 rfl (lv_at hl 1 rfl) ?_
      refine lv_iload hx hb dL_law_1163 (lv_at hl 5 rfl) ?_
      refine lv_iconst (v := nI 2) hx hb dL_law_1165 (by decide) ?_
      refine lv_iadd hx hb dL_law_1166 ?_
      refine n_eq (nI_add i 2) ?_
      refine va_sld (A := fr z) hx hb hX hbl hbz hI.S (vp_in_nI (n := i + 2) (by omega) (by omega)) dL_law_1167 ?_
      rw [nI_clamp (by omega)]
      refine lv_aload_n hx hb dL_law_1168 rfl (lv_at hl 1 rfl) ?_
      refine lv_iload hx hb dL_law_1169 (lv_at hl 5 rfl) ?_
      refine lv_iconst (v := nI 3) hx hb dL_law_1171 (by decide) ?_
      refine lv_iadd hx hb dL_law_1172 ?_
      refine n_eq (nI_add i 3) ?_
      refine va_sld (A := fr z) hx hb hX hbl hbz hI.S (vp_in_nI (n := i + 3) (by omega) (by omega)) dL_law_1173 ?_
      rw [nI_clamp (by omega)]
      refine lv_aload_n hx hb dL_law_1174 rfl (lv_at hl 1 rfl) ?_
      refine lv_iload hx hb dL_law_1175 (lv_at hl 5 rfl) ?_
      refine lv_iconst (v := nI 4) hx hb dL_law_1177 (by decide) ?_
      refine lv_iadd hx hb dL_law_1178 ?_
      refine n_eq (nI_add i 4) ?_
      refine va_sld (A := fr z) hx hb hX hbl hbz hI.S (vp_in_nI (n := i + 4) (by omega) (by omega)) dL_law_1179 ?_
      rw [nI_clamp (by omega)]
      refine k_Ni (va_runV (As := [.int (nI t1), .int (xs (i + 2)), .int (xs (i + 3)), .int (xs (i + 4))]) (rest := []) ⟨hx, hb, hml, hown, hts⟩ (c_X10_ways_b l G z ad M_168 (th := tw) (ln := n) (on := jn) (ao := ao) (vr := vr) (sn := sn) (tp := len) (pt := pt) (zs := zs) (bg := bg) (fa := fw) (a := t1) (x1 := xs (i + 2)) (x2 := xs (i + 3)) (x3 := xs (i + 4)) hm_213 ht1 hc_164) (cwV 4 hts (gV (lwg_of t_1354 rfl) (lwg_of t_1355 rfl) (lwg_of t_1356 rfl) (lwg_of t_13 rfl) (lwg_of t_1357 rfl)) rfl rfl rfl (by decide +kernel) ⟨Nat.le_of_ble_eq_true rfl, Nat.le_of_ble_eq_true rfl⟩) (hI.preV hm_213 rfl) rfl rfl hl.1 rfl (lv_room (Nat.le_of_ble_eq_true rfl)) dL_law_1180 ⟨(show _ ≤ (601024 : Nat) from by omega), (show _ ≤ (7293034 : Nat) from by omega)⟩) hI (fun r_244 M_246 H_247 locs_248 hp_245 hI => ?_)
      obtain ⟨hr_249, hm_250, hF_251⟩ := hp_245
      have hm_252 : M_246 0 = some (cStore ad qa qs fw) := by rw [hF_251 0 (by omega)]; exact hm_173
      have hm_253 : M_246 1 = some (cTape ad len) := by rw [hF_251 1 (by omega)]; exact hm_174
      have hm_254 : M_246 2 = some (aI G 400 (nF tb)) := by rw [hF_251 2 (by omega)]; exact hm_175
      have hm_255 : M_246 3 = some (cLaws ad ) := by rw [hF_251 3 (by omega)]; exact hm_176
      have hm_256 : M_246 4 = some (aI G 36 (nF le)) := by rw [hF_251 4 (by omega)]; exact hm_177
      have hm_257 : M_246 5 = some (aI G 36 (nF mo)) := by rw [hF_251 5 (by omega)]; exact hm_178
      have hm_258 : M_246 6 = some (aI G 36 (nF al)) := by rw [hF_251 6 (by omega)]; exact hm_179
      have hm_259 : M_246 7 = some (aZ G 6 (bF ho)) := by rw [hF_251 7 (by omega)]; exact hm_180
      have hm_260 : M_246 8 = some (cOnes ad jn) := by rw [hF_251 8 (by omega)]; exact hm_181
      have hm_261 : M_246 9 = some (aI G 40 (nF hg)) := by rw [hF_251 9 (by omega)]; exact hm_182
      have hm_262 : M_246 10 = some (aI G 40 (nF lst)) := by rw [hF_251 10 (by omega)]; exact hm_183
      have hm_263 : M_246 11 = some (aI G 40 (nF jd)) := by rw [hF_251 11 (by omega)]; exact hm_184
      have hm_264 : M_246 12 = some (cEnds ad 12 s0) := by rw [hF_251 12 (by omega)]; exact hm_185
      have hm_265 : M_246 13 = some (aI G 6 (nF r0)) := by rw [hF_251 13 (by omega)]; exact hm_186
      have hm_266 : M_246 14 = some (aI G 6 (oF th)) := by rw [hF_251 14 (by omega)]; exact hm_187
      have hm_267 : M_246 15 = some (aI G 6 (oF ol)) := by rw [hF_251 15 (by omega)]; exact hm_188
      have hm_268 : M_246 19 = some (aZ G 120 (bF mm9)) := by rw [hF_251 19 (by omega)]; exact hm_189
      have hm_269 : M_246 20 = some (aI G 120 ff) := by rw [hF_251 20 (by omega)]; exact hm_190
      have hm_270 : M_246 21 = some (aI G 120 lq) := by rw [hF_251 21 (by omega)]; exact hm_191
      have hm_271 : M_246 22 = some (cReader ad ra rb rt rv) := by rw [hF_251 22 (by omega)]; exact hm_192
      have hm_272 : M_246 23 = some (cMatcher ad qm pz) := by rw [hF_251 23 (by omega)]; exact hm_193
      have hm_273 : M_246 24 = some (aJ G 2160 sx) := by rw [hF_251 24 (by omega)]; exact hm_194
      have hm_274 : M_246 25 = some (aI G 6 (nF ft)) := by rw [hF_251 25 (by omega)]; exact hm_195
      have hm_275 : M_246 26 = some (aJ G 240 rx) := by rw [hF_251 26 (by omega)]; exact hm_196
      have hm_276 : M_246 27 = some (aJ G 3 dm) := by rw [hF_251 27 (by omega)]; exact hm_197
      have hm_277 : M_246 28 = some (aI G 3 rc) := by rw [hF_251 28 (by omega)]; exact hm_198
      have hm_278 : M_246 qa = some (cQuestion ad qa ao vr) := by rw [hF_251 qa (by omega)]; exact hm_199
      have hm_279 : M_246 (qa + 1) = some (aI G 6 (nF kn)) := by rw [hF_251 (qa + 1) (by omega)]; exact hm_200
      have hm_280 : M_246 (qa + 2) = some (aZ G 6 (bF nq)) := by rw [hF_251 (qa + 2) (by omega)]; exact hm_201
      have hm_281 : M_246 (qa + 3) = some (aI G 6 (nF pn)) := by rw [hF_251 (qa + 3) (by omega)]; exact hm_202
      have hm_282 : M_246 (qa + 4) = some (aI G 6 (nF av)) := by rw [hF_251 (qa + 4) (by omega)]; exact hm_203
      have hm_283 : M_246 (qa + 5) = some (aI G 24 (nF ro)) := by rw [hF_251 (qa + 5) (by omega)]; exact hm_204
      have hm_284 : M_246 (qa + 6) = some (aI G 24 (nF te)) := by rw [hF_251 (qa + 6) (by omega)]; exact hm_205
      have hm_285 : M_246 qs = some (cQuestion ad qs sq su) := by rw [hF_251 qs (by omega)]; exact hm_206
      have hm_286 : M_246 (qs + 1) = some (aI G 6 (nF kb)) := by rw [hF_251 (qs + 1) (by omega)]; exact hm_207
      have hm_287 : M_246 (qs + 2) = some (aZ G 6 (bF nb)) := by rw [hF_251 (qs + 2) (by omega)]; exact hm_208
      have hm_288 : M_246 (qs + 3) = some (aI G 6 (nF pb)) := by rw [hF_251 (qs + 3) (by omega)]; exact hm_209
      have hm_289 : M_246 (qs + 4) = some (aI G 6 (nF ab)) := by rw [hF_251 (qs + 4) (by omega)]; exact hm_210
      have hm_290 : M_246 (qs + 5) = some (aI G 24 (nF rbb)) := by rw [hF_251 (qs + 5) (by omega)]; exact hm_211
      have hm_291 : M_246 (qs + 6) = some (aI G 24 (nF tbb)) := by rw [hF_251 (qs + 6) (by omega)]; exact hm_212
      have hm_292 : M_246 61 = some (aI G 36 (nF le)) := by rw [hF_251 61 (by omega)]; exact hm_214
      have hm_293 : M_246 62 = some (aI G 36 (nF mo)) := by rw [hF_251 62 (by omega)]; exact hm_215
      have hm_294 : M_246 63 = some (aI G 36 (nF al)) := by rw [hF_251 63 (by omega)]; exact hm_216
      have hm_295 : M_246 64 = some (aZ G 6 (bF ho)) := by rw [hF_251 64 (by omega)]; exact hm_217
      have hm_296 : M_246 65 = some (aI G 120 (nF mk)) := by rw [hF_251 65 (by omega)]; exact hm_218
      have hm_297 : M_246 66 = some (aI G 120 mf) := by rw [hF_251 66 (by omega)]; exact hm_219
      have hm_298 : M_246 67 = some (aI G 120 mu) := by rw [hF_251 67 (by omega)]; exact hm_220
      have hm_299 : M_246 68 = some (aI G 121 (nF mz)) := by rw [hF_251 68 (by omega)]; exact hm_221
      have hm_300 : M_246 69 = some (aI G 726 (nF rr)) := by rw [hF_251 69 (by omega)]; exact hm_222
      have hm_301 : M_246 70 = some (aI G 726 (nF ee)) := by rw [hF_251 70 (by omega)]; exact hm_223
      have hm_302 : M_246 71 = some (aI G 40 (nF lst)) := by rw [hF_251 71 (by omega)]; exact hm_224
      have hm_303 : M_246 72 = some (aI G 40 (nF oa)) := by rw [hF_251 72 (by omega)]; exact hm_225
      have hm_304 : M_246 73 = some (aI G 40 (nF ob)) := by rw [hF_251 73 (by omega)]; exact hm_226
      have hm_305 : M_246 74 = some (aI G 120 s74) := by rw [hF_251 74 (by omega)]; exact hm_227
      have hm_306 : M_246 75 = some (aI G 12 ak) := by rw [hF_251 75 (by omega)]; exact hm_228
      have hm_307 : M_246 76 = some (aZ G 12 (bF nm)) := by rw [hF_251 76 (by omega)]; exact hm_229
      have hm_308 : M_246 77 = some (aI G 12 (nF ap)) := by rw [hF_251 77 (by omega)]; exact hm_230
      have hm_309 : M_246 78 = some (aI G 48 pr) := by rw [hF_251 78 (by omega)]; exact hm_231
      have hm_310 : M_246 79 = some (aI G 48 pf) := by rw [hF_251 79 (by omega)]; exact hm_232
      have hm_311 : M_246 80 = some (aB G 400 tf) := by rw [hF_251 80 (by omega)]; exact hm_233
      have hm_312 : M_246 81 = some (aI G 5 fv) := by rw [hF_251 81 (by omega)]; exact hm_234
      have hm_313 : M_246 82 = some (aZ G 384000 (bF tr)) := by rw [hF_251 82 (by omega)]; exact hm_235
      have hm_314 : M_246 83 = some (aI G 3 (oF gv)) := by rw [hF_251 83 (by omega)]; exact hm_236
      have hm_315 : M_246 84 = some (aI G 3 fo) := by rw [hF_251 84 (by omega)]; exact hm_237
      have hm_316 : M_246 85 = some (aZ G 40 (bF re)) := by rw [hF_251 85 (by omega)]; exact hm_238
      have hm_317 : M_246 86 = some (aZ G 120 (bF us)) := by rw [hF_251 86 (by omega)]; exact hm_239
      have hm_318 : M_246 87 = some (aZ G 120 (bF nx)) := by rw [hF_251 87 (by omega)]; exact hm_240
      have hm_319 : M_246 99 = some (aJ G 1 of) := by rw [hF_251 99 (by omega)]; exact hm_241
      have hm_320 : M_246 16 = some (cLines ad ) := by rw [hF_251 16 (by omega)]; exact hm_242
      have hL_321 : LSm G ad M_246 n kd fm to sz rl en := hL_243.keep (fun j hj => hF_251 j (by omega))
      have hF_322 : ∀ j : Nat, j ≠ 60 → M_246 j = M j := fun j q0 => (hF_251 j q0).trans (hF_172 j )
      rw [hr_249]
      refine lv_istore (lv' := [(6, .int (nI 0)), (5, .int (nI 1)), (0, .ref b), (1, .ref (ad 0)), (2, .ref (ad 60)), (3, .ref (ad 99)), (4, .int (nI i))]) hx hb dL_law_1183 hl (by decide) rfl (fun ls hl => ?_)
      refine lv_aload_n hx hb dL_law_1185 rfl (lv_at hl 4 rfl) ?_
      refine k_Ri (va_runV (As := []) (rest := []) ⟨hx, hb, hml, hown, hts⟩ (c_X10_thrown l G z ad M_246 (th := 1) (ln := n) (on := jn) (ao := ao) (vr := vr) (sn := sn) (tp := len) (pt := pt) (zs := zs) (bg := bg) (fa := fw) hm_250) (cwV 0 hts (gV (lwg_of t_997 rfl) (lwg_of t_998 rfl) (lwg_of t_999 rfl) (lwg_of t_13 rfl) (lwg_of t_1000 rfl)) rfl rfl rfl (by decide +kernel) ⟨Nat.le_of_ble_eq_true rfl, Nat.le_of_ble_eq_true rfl⟩) (hI.preV hm_250 rfl) rfl rfl hl.1 rfl (lv_room (Nat.le_of_ble_eq_true rfl)) dL_law_1186 ⟨(show _ ≤ (601024 : Nat) from by omega), (show _ ≤ (7293034 : Nat) from by omega)⟩) (fun _ h => h) (fun r_323 hp_324 => ?_)
      rw [hp_324]
      refine lv_iload hx hb dL_law_1189 (lv_at hl 1 rfl) ?_
      refine lv_icmp_eq (tgt := 1196) hx hb dL_law_1191 (by decide) (fun c_325 => ?_) (fun c_325 => ?_)
      · -- 1191: nI 1 eq
        refine lv_iload hx hb dL_law_1196 (lv_at hl 1 rfl) ?_
        refine lv_if_ne (tgt := 1213) hx hb dL_law_1198 (by decide) (fun c_326 => ?_) (fun c_326 => ?_)
        · -- 1198: nI 1 ne
          refine lv_goto (tgt := 1333) hx hb dL_law_1213 (by decide) ?_
          refine W.widen (k := cz + 10) (n := sy + 300) (by omega) (by omega) ?_
          exact kk ad M_246 H_247 locs_248 ls n kd fm to sz rl en qa qs fw len tb le mo al ho jn hg lst jd s0 r0 th ol e0 mm9 ff lq ra rb rt rv qm pz sx ft rx dm rc ao vr kn nq pn av ro te sq su kb nb pb ab rbb tbb 1 sn pt zs bg mk mf mu mz rr ee oa ob s74 ak nm ap pr pf tf fv tr gv fo re us nx of hL_321 w1 w2 w3 w4 w5 w6 w7 w8 w9 w10 w11 w12 w13 w14 w15 w16 w17 w18 w19 w20 w21 w22 w23 w24 w25 w26 w27 w28 w29 (fun h9 => by rw [hF_322 17 (by omega), hF_322 18 (by omega)]; exact w30 h9) (by rw [hF_322 29 (by omega)]; exact w31) (fun j9 h9 => by rw [hF_322 j9 (by omega)]; exact w32 j9 h9) hm_252 hm_253 hm_254 hm_255 hm_256 hm_257 hm_258 hm_259 hm_260 hm_261 hm_262 hm_263 hm_264 hm_265 hm_266 hm_267 hm_268 hm_269 hm_270 hm_271 hm_272 hm_273 hm_274 hm_275 hm_276 hm_277 hm_278 hm_279 hm_280 hm_281 hm_282 hm_283 hm_284 hm_285 hm_286 hm_287 hm_288 hm_289 hm_290 hm_291 hm_250 hm_292 hm_293 hm_294 hm_295 hm_296 hm_297 hm_298 hm_299 hm_300 hm_301 hm_302 hm_303 hm_304 hm_305 hm_306 hm_307 hm_308 hm_309 hm_310 hm_311 hm_312 hm_313 hm_314 hm_315 hm_316 hm_317 hm_318 hm_319 hI (lv_sub hl [2, 3, 4, 5, 6] rfl)
        · -- 1198: nI 1 eq
          exact absurd c_326 (by decide)
      · -- 1191: nI 1 ne
        exact absurd (by decide) c_325
    · skip
      refine lv_aload_n hx hb dL_law_1125 rfl (lv_at hl 0 rfl) ?_
      obtain ⟨t2, ht2, et2⟩ := hc_165
      refine lv_iload hx hb dL_law_1126 (lv_at hl 4 rfl) ?_
      refine lv_iconst (v := nI 1) hx hb dL_law_1128 (by decide) ?_
      refine lv_iadd hx hb dL_law_1129 ?_
      refine n_eq (nI_add i 1) ?_
      refine va_sld (A := fr z) hx hb hX hbl hbz hI.S (vp_in_nI (n := i + 1) (by omega) (by omega)) dL_law_1130 ?_
      rw [nI_clamp (by omega)]
      refine n_eq (show _ = nI t1 from et1) ?_
      refine lv_aload_n hx hb dL_law_1131 rfl (lv_at hl 0 rfl) ?_
      refine lv_iload hx hb dL_law_1132 (lv_at hl 4 rfl) ?_
      refine lv_iconst (v := nI 2) hx hb dL_law_1134 (by decide) ?_
      refine lv_iadd hx hb dL_law_1135 ?_
      refine n_eq (nI_add i 2) ?_
      refine va_sld (A := fr z) hx hb hX hbl hbz hI.S (vp_in_nI (n := i + 2) (by omega) (by omega)) dL_law_1136 ?_
      rw [nI_clamp (by omega)]
      refine n_eq (show _ = nI t2 from et2) ?_
      refine lv_aload_n hx hb dL_law_1137 rfl (lv_at hl 0 rfl) ?_
      refine lv_iload hx hb dL_law_1138 (lv_at hl 4 rfl) ?_
      refine lv_iconst (v := nI 3) hx hb dL_law_1140 (by decide) ?_
      refine lv_iadd hx hb dL_law_1141 ?_
      refine n_eq (nI_add i 3) ?_
      refine va_sld (A := fr z) hx hb hX hbl hbz hI.S (vp_in_nI (n := i + 3) (by omega) (by omega)) dL_law_1142 ?_
      rw [nI_clamp (by omega)]
      refine lv_aload_n hx hb dL_law_1143 rfl (lv_at hl 0 rfl) ?_
      refine lv_iload hx hb dL_law_1144 (lv_at hl 4 rfl) ?_
      refine lv_iconst (v := nI 4) hx hb dL_law_1146 (by decide) ?_
      refine lv_iadd hx hb dL_law_1147 ?_
      refine n_eq (nI_add i 4) ?_
      refine va_sld (A := fr z) hx hb hX hbl hbz hI.S (vp_in_nI (n := i + 4) (by omega) (by omega)) dL_law_1148 ?_
      rw [nI_clamp (by omega)]
      refine lv_aload_n hx hb dL_law_1149 rfl (lv_at hl 3 rfl) ?_
      refine k_Ni (vx_runSW (As := [.ref (ad 0), .int (nI t1), .int (nI t2), .int (xs (i + 3)), .int (xs (i + 4)), .ref (ad 99)]) (rest := []) ⟨hx, hb, hml, hown, hts⟩ (c_L_ways l hst G z ad M (n := n) (kd := kd) (fm := fm) (to := to) (sz := sz) (rl := rl) (en := en) (qa := qa) (qs := qs) (fw := fw) (jn := jn) (lst := lst) (a := t1) (b := t2) (ks := xs (i + 3)) (d := xs (i + 4)) (of := of) fL f_0 f_8 f_10 f_99 w1 hlst ht1 ht2) (vx_cwSW 6 hts (gSW (lwg_of t_967 rfl) (lwg_of t_968 rfl) (lwg_of t_0 rfl) (lwg_of t_969 rfl)) rfl rfl rfl (by decide +kernel) ⟨Nat.le_of_ble_eq_true rfl, Nat.le_of_ble_eq_true rfl⟩) hI.preS rfl rfl hl.1 rfl (lv_room (Nat.le_of_ble_eq_true rfl)) dL_law_1150 ⟨(show _ ≤ (601024 : Nat) from by omega), (show _ ≤ (7293034 : Nat) from by omega)⟩) hI (fun r_327 M_329 H_330 locs_331 hp_328 hI => ?_)
      obtain ⟨rv_336, hr_332, hm_333, hF_334, hP_335⟩ := hp_328
      have hm_337 : M_329 0 = some (cStore ad qa qs fw) := by rw [hF_334 0 (by omega)]; exact f_0
      have hm_338 : M_329 1 = some (cTape ad len) := by rw [hF_334 1 (by omega)]; exact f_1
      have hm_339 : M_329 2 = some (aI G 400 (nF tb)) := by rw [hF_334 2 (by omega)]; exact f_2
      have hm_340 : M_329 3 = some (cLaws ad ) := by rw [hF_334 3 (by omega)]; exact f_3
      have hm_341 : M_329 4 = some (aI G 36 (nF le)) := by rw [hF_334 4 (by omega)]; exact f_4
      have hm_342 : M_329 5 = some (aI G 36 (nF mo)) := by rw [hF_334 5 (by omega)]; exact f_5
      have hm_343 : M_329 6 = some (aI G 36 (nF al)) := by rw [hF_334 6 (by omega)]; exact f_6
      have hm_344 : M_329 7 = some (aZ G 6 (bF ho)) := by rw [hF_334 7 (by omega)]; exact f_7
      have hm_345 : M_329 8 = some (cOnes ad jn) := by rw [hF_334 8 (by omega)]; exact f_8
      have hm_346 : M_329 9 = some (aI G 40 (nF hg)) := by rw [hF_334 9 (by omega)]; exact f_9
      have hm_347 : M_329 10 = some (aI G 40 (nF lst)) := by rw [hF_334 10 (by omega)]; exact f_10
      have hm_348 : M_329 11 = some (aI G 40 (nF jd)) := by rw [hF_334 11 (by omega)]; exact f_11
      have hm_349 : M_329 12 = some (cEnds ad 12 s0) := by rw [hF_334 12 (by omega)]; exact f_12
      have hm_350 : M_329 13 = some (aI G 6 (nF r0)) := by rw [hF_334 13 (by omega)]; exact f_13
      have hm_351 : M_329 14 = some (aI G 6 (oF th)) := by rw [hF_334 14 (by omega)]; exact f_14
      have hm_352 : M_329 15 = some (aI G 6 (oF ol)) := by rw [hF_334 15 (by omega)]; exact f_15
      have hm_353 : M_329 19 = some (aZ G 120 (bF mm9)) := by rw [hF_334 19 (by omega)]; exact f_19
      have hm_354 : M_329 20 = some (aI G 120 ff) := by rw [hF_334 20 (by omega)]; exact f_20
      have hm_355 : M_329 21 = some (aI G 120 lq) := by rw [hF_334 21 (by omega)]; exact f_21
      have hm_356 : M_329 22 = some (cReader ad ra rb rt rv) := by rw [hF_334 22 (by omega)]; exact f_22
      have hm_357 : M_329 23 = some (cMatcher ad qm pz) := by rw [hF_334 23 (by omega)]; exact f_23
      have hm_358 : M_329 24 = some (aJ G 2160 sx) := by rw [hF_334 24 (by omega)]; exact f_24
      have hm_359 : M_329 25 = some (aI G 6 (nF ft)) := by rw [hF_334 25 (by omega)]; exact f_25
      have hm_360 : M_329 26 = some (aJ G 240 rx) := by rw [hF_334 26 (by omega)]; exact f_26
      have hm_361 : M_329 27 = some (aJ G 3 dm) := by rw [hF_334 27 (by omega)]; exact f_27
      have hm_362 : M_329 28 = some (aI G 3 rc) := by rw [hF_334 28 (by omega)]; exact f_28
      have hm_363 : M_329 qa = some (cQuestion ad qa ao vr) := by rw [hF_334 qa (by omega)]; exact f_qa
      have hm_364 : M_329 (qa + 1) = some (aI G 6 (nF kn)) := by rw [hF_334 (qa + 1) (by omega)]; exact f_qa_1
      have hm_365 : M_329 (qa + 2) = some (aZ G 6 (bF nq)) := by rw [hF_334 (qa + 2) (by omega)]; exact f_qa_2
      have hm_366 : M_329 (qa + 3) = some (aI G 6 (nF pn)) := by rw [hF_334 (qa + 3) (by omega)]; exact f_qa_3
      have hm_367 : M_329 (qa + 4) = some (aI G 6 (nF av)) := by rw [hF_334 (qa + 4) (by omega)]; exact f_qa_4
      have hm_368 : M_329 (qa + 5) = some (aI G 24 (nF ro)) := by rw [hF_334 (qa + 5) (by omega)]; exact f_qa_5
      have hm_369 : M_329 (qa + 6) = some (aI G 24 (nF te)) := by rw [hF_334 (qa + 6) (by omega)]; exact f_qa_6
      have hm_370 : M_329 qs = some (cQuestion ad qs sq su) := by rw [hF_334 qs (by omega)]; exact f_qs
      have hm_371 : M_329 (qs + 1) = some (aI G 6 (nF kb)) := by rw [hF_334 (qs + 1) (by omega)]; exact f_qs_1
      have hm_372 : M_329 (qs + 2) = some (aZ G 6 (bF nb)) := by rw [hF_334 (qs + 2) (by omega)]; exact f_qs_2
      have hm_373 : M_329 (qs + 3) = some (aI G 6 (nF pb)) := by rw [hF_334 (qs + 3) (by omega)]; exact f_qs_3
      have hm_374 : M_329 (qs + 4) = some (aI G 6 (nF ab)) := by rw [hF_334 (qs + 4) (by omega)]; exact f_qs_4
      have hm_375 : M_329 (qs + 5) = some (aI G 24 (nF rbb)) := by rw [hF_334 (qs + 5) (by omega)]; exact f_qs_5
      have hm_376 : M_329 (qs + 6) = some (aI G 24 (nF tbb)) := by rw [hF_334 (qs + 6) (by omega)]; exact f_qs_6
      have hm_377 : M_329 60 = some (cModel ad tw n jn ao vr sn len pt zs bg fw) := by rw [hF_334 60 (by omega)]; exact f_60
      have hm_378 : M_329 61 = some (aI G 36 (nF le)) := by rw [hF_334 61 (by omega)]; exact f_61
      have hm_379 : M_329 62 = some (aI G 36 (nF mo)) := by rw [hF_334 62 (by omega)]; exact f_62
      have hm_380 : M_329 63 = some (aI G 36 (nF al)) := by rw [hF_334 63 (by omega)]; exact f_63
      have hm_381 : M_329 64 = some (aZ G 6 (bF ho)) := by rw [hF_334 64 (by omega)]; exact f_64
      have hm_382 : M_329 65 = some (aI G 120 (nF mk)) := by rw [hF_334 65 (by omega)]; exact f_65
      have hm_383 : M_329 66 = some (aI G 120 mf) := by rw [hF_334 66 (by omega)]; exact f_66
      have hm_384 : M_329 67 = some (aI G 120 mu) := by rw [hF_334 67 (by omega)]; exact f_67
      have hm_385 : M_329 68 = some (aI G 121 (nF mz)) := by rw [hF_334 68 (by omega)]; exact f_68
      have hm_386 : M_329 69 = some (aI G 726 (nF rr)) := by rw [hF_334 69 (by omega)]; exact f_69
      have hm_387 : M_329 70 = some (aI G 726 (nF ee)) := by rw [hF_334 70 (by omega)]; exact f_70
      have hm_388 : M_329 71 = some (aI G 40 (nF lst)) := by rw [hF_334 71 (by omega)]; exact f_71
      have hm_389 : M_329 72 = some (aI G 40 (nF oa)) := by rw [hF_334 72 (by omega)]; exact f_72
      have hm_390 : M_329 73 = some (aI G 40 (nF ob)) := by rw [hF_334 73 (by omega)]; exact f_73
      have hm_391 : M_329 74 = some (aI G 120 s74) := by rw [hF_334 74 (by omega)]; exact f_74
      have hm_392 : M_329 75 = some (aI G 12 ak) := by rw [hF_334 75 (by omega)]; exact f_75
      have hm_393 : M_329 76 = some (aZ G 12 (bF nm)) := by rw [hF_334 76 (by omega)]; exact f_76
      have hm_394 : M_329 77 = some (aI G 12 (nF ap)) := by rw [hF_334 77 (by omega)]; exact f_77
      have hm_395 : M_329 78 = some (aI G 48 pr) := by rw [hF_334 78 (by omega)]; exact f_78
      have hm_396 : M_329 79 = some (aI G 48 pf) := by rw [hF_334 79 (by omega)]; exact f_79
      have hm_397 : M_329 80 = some (aB G 400 tf) := by rw [hF_334 80 (by omega)]; exact f_80
      have hm_398 : M_329 81 = some (aI G 5 fv) := by rw [hF_334 81 (by omega)]; exact f_81
      have hm_399 : M_329 82 = some (aZ G 384000 (bF tr)) := by rw [hF_334 82 (by omega)]; exact f_82
      have hm_400 : M_329 83 = some (aI G 3 (oF gv)) := by rw [hF_334 83 (by omega)]; exact f_83
      have hm_401 : M_329 84 = some (aI G 3 fo) := by rw [hF_334 84 (by omega)]; exact f_84
      have hm_402 : M_329 85 = some (aZ G 40 (bF re)) := by rw [hF_334 85 (by omega)]; exact f_85
      have hm_403 : M_329 86 = some (aZ G 120 (bF us)) := by rw [hF_334 86 (by omega)]; exact f_86
      have hm_404 : M_329 87 = some (aZ G 120 (bF nx)) := by rw [hF_334 87 (by omega)]; exact f_87
      have hm_405 : M_329 16 = some (cLines ad ) := by rw [hF_334 16 (by omega)]; exact h16
      have hL_406 : LSm G ad M_329 n kd fm to sz rl en := fL.keep (fun j hj => hF_334 j (by omega))
      have hF_407 : ∀ j : Nat, j ≠ 99 → M_329 j = M j := fun j q0 => (hF_334 j q0)
      rw [hr_332]
      refine lv_istore (lv' := [(5, .int (nI 0)), (0, .ref b), (1, .ref (ad 0)), (2, .ref (ad 60)), (3, .ref (ad 99)), (4, .int (nI i))]) hx hb dL_law_1153 hl (by decide) rfl (fun ls hl => ?_)
      refine lv_aload_n hx hb dL_law_1155 rfl (lv_at hl 3 rfl) ?_
      refine lv_aload_n hx hb dL_law_1156 rfl (lv_at hl 1 rfl) ?_
      refine lv_iload hx hb dL_law_1157 (lv_at hl 5 rfl) ?_
      refine lv_iconst (v := nI 1) hx hb dL_law_1159 (by decide) ?_
      refine lv_iadd hx hb dL_law_1160 ?_
      refine n_eq (nI_add i 1) ?_
      refine va_sld (A := fr z) hx hb hX hbl hbz hI.S (vp_in_nI (n := i + 1) (by omega) (by omega)) dL_law_1161 ?_
      rw [nI_clamp (by omega)]
      refine n_eq (show _ = nI t1 from et1) ?_
      refine lv_aload_n hx hb dL_law_1162 rfl (lv_at hl 1 rfl) ?_
      refine lv_iload hx hb dL_law_1163 (lv_at hl 5 rfl) ?_
      refine lv_iconst (v := nI 2) hx hb dL_law_1165 (by decide) ?_
      refine lv_iadd hx hb dL_law_1166 ?_
      refine n_eq (nI_add i 2) ?_
      refine va_sld (A := fr z) hx hb hX hbl hbz hI.S (vp_in_nI (n := i + 2) (by omega) (by omega)) dL_law_1167 ?_
      rw [nI_clamp (by omega)]
      refine n_eq (show _ = nI t2 from et2) ?_
      refine lv_aload_n hx hb dL_law_1168 rfl (lv_at hl 1 rfl) ?_
      refine lv_iload hx hb dL_law_1169 (lv_at hl 5 rfl) ?_
      refine lv_iconst (v := nI 3) hx hb dL_law_1171 (by decide) ?_
      refine lv_iadd hx hb dL_law_1172 ?_
      refine n_eq (nI_add i 3) ?_
      refine va_sld (A := fr z) hx hb hX hbl hbz hI.S (vp_in_nI (n := i + 3) (by omega) (by omega)) dL_law_1173 ?_
      rw [nI_clamp (by omega)]
      refine lv_aload_n hx hb dL_law_1174 rfl (lv_at hl 1 rfl) ?_
      refine lv_iload hx hb dL_law_1175 (lv_at hl 5 rfl) ?_
      refine lv_iconst (v := nI 4) hx hb dL_law_1177 (by decide) ?_
      refine lv_iadd hx hb dL_law_1178 ?_
      refine n_eq (nI_add i 4) ?_
      refine va_sld (A := fr z) hx hb hX hbl hbz hI.S (vp_in_nI (n := i + 4) (by omega) (by omega)) dL_law_1179 ?_
      rw [nI_clamp (by omega)]
      refine k_Ni (va_runV (As := [.int (nI t1), .int (nI t2), .int (xs (i + 3)), .int (xs (i + 4))]) (rest := []) ⟨hx, hb, hml, hown, hts⟩ (c_X10_ways l G z ad M_329 (th := tw) (on := jn) (ao := ao) (vr := vr) (sn := sn) (tp := len) (pt := pt) (zs := zs) (bg := bg) (fa := fw) (n := n) (kd := kd) (fm := fm) (to := to) (sz := sz) (rl := rl) (en := en) (mk := mk) (mf := mf) (mu := mu) (mz := mz) (rr := rr) (ee := ee) (lst := lst) (re := re) (us := us) (ne := nx) (a := t1) (b := t2) (ks := xs (i + 3)) (d := xs (i + 4)) hm_377 hm_382 hm_383 hm_384 hm_385 hm_386 hm_387 hm_388 hm_402 hm_403 hm_404 w1 w2 ht1 ht2 hlst) (cwV 4 hts (gV (lwg_of t_1354 rfl) (lwg_of t_1355 rfl) (lwg_of t_1356 rfl) (lwg_of t_13 rfl) (lwg_of t_1357 rfl)) rfl rfl rfl (by decide +kernel) ⟨Nat.le_of_ble_eq_true rfl, Nat.le_of_ble_eq_true rfl⟩) (hI.preV hm_377 rfl) rfl rfl hl.1 rfl (lv_room (Nat.le_of_ble_eq_true rfl)) dL_law_1180 ⟨(show _ ≤ (601024 : Nat) from by omega), (show _ ≤ (7293034 : Nat) from by omega)⟩) hI (fun r_408 M_410 H_411 locs_412 hp_409 hI => ?_)
      obtain ⟨re2_419, us2_420, ne2_421, hm_413, hm_414, hm_415, hm_416, hF_417, hP_418⟩ := hp_409
      have hm_422 : M_410 0 = some (cStore ad qa qs fw) := by rw [hF_417 0 (by omega) (by omega) (by omega) (by omega)]; exact hm_337
      have hm_423 : M_410 1 = some (cTape ad len) := by rw [hF_417 1 (by omega) (by omega) (by omega) (by omega)]; exact hm_338
      have hm_424 : M_410 2 = some (aI G 400 (nF tb)) := by rw [hF_417 2 (by omega) (by omega) (by omega) (by omega)]; exact hm_339
      have hm_425 : M_410 3 = some (cLaws ad ) := by rw [hF_417 3 (by omega) (by omega) (by omega) (by omega)]; exact hm_340
      have hm_426 : M_410 4 = some (aI G 36 (nF le)) := by rw [hF_417 4 (by omega) (by omega) (by omega) (by omega)]; exact hm_341
      have hm_427 : M_410 5 = some (aI G 36 (nF mo)) := by rw [hF_417 5 (by omega) (by omega) (by omega) (by omega)]; exact hm_342
      have hm_428 : M_410 6 = some (aI G 36 (nF al)) := by rw [hF_417 6 (by omega) (by omega) (by omega) (by omega)]; exact hm_343
      have hm_429 : M_410 7 = some (aZ G 6 (bF ho)) := by rw [hF_417 7 (by omega) (by omega) (by omega) (by omega)]; exact hm_344
      have hm_430 : M_410 8 = some (cOnes ad jn) := by rw [hF_417 8 (by omega) (by omega) (by omega) (by omega)]; exact hm_345
      have hm_431 : M_410 9 = some (aI G 40 (nF hg)) := by rw [hF_417 9 (by omega) (by omega) (by omega) (by omega)]; exact hm_346
      have hm_432 : M_410 10 = some (aI G 40 (nF lst)) := by rw [hF_417 10 (by omega) (by omega) (by omega) (by omega)]; exact hm_347
      have hm_433 : M_410 11 = some (aI G 40 (nF jd)) := by rw [hF_417 11 (by omega) (by omega) (by omega) (by omega)]; exact hm_348
      have hm_434 : M_410 12 = some (cEnds ad 12 s0) := by rw [hF_417 12 (by omega) (by omega) (by omega) (by omega)]; exact hm_349
      have hm_435 : M_410 13 = some (aI G 6 (nF r0)) := by rw [hF_417 13 (by omega) (by omega) (by omega) (by omega)]; exact hm_350
      have hm_436 : M_410 14 = some (aI G 6 (oF th)) := by rw [hF_417 14 (by omega) (by omega) (by omega) (by omega)]; exact hm_351
      have hm_437 : M_410 15 = some (aI G 6 (oF ol)) := by rw [hF_417 15 (by omega) (by omega) (by omega) (by omega)]; exact hm_352
      have hm_438 : M_410 19 = some (aZ G 120 (bF mm9)) := by rw [hF_417 19 (by omega) (by omega) (by omega) (by omega)]; exact hm_353
      have hm_439 : M_410 20 = some (aI G 120 ff) := by rw [hF_417 20 (by omega) (by omega) (by omega) (by omega)]; exact hm_354
      have hm_440 : M_410 21 = some (aI G 120 lq) := by rw [hF_417 21 (by omega) (by omega) (by omega) (by omega)]; exact hm_355
      have hm_441 : M_410 22 = some (cReader ad ra rb rt rv) := by rw [hF_417 22 (by omega) (by omega) (by omega) (by omega)]; exact hm_356
      have hm_442 : M_410 23 = some (cMatcher ad qm pz) := by rw [hF_417 23 (by omega) (by omega) (by omega) (by omega)]; exact hm_357
      have hm_443 : M_410 24 = some (aJ G 2160 sx) := by rw [hF_417 24 (by omega) (by omega) (by omega) (by omega)]; exact hm_358
      have hm_444 : M_410 25 = some (aI G 6 (nF ft)) := by rw [hF_417 25 (by omega) (by omega) (by omega) (by omega)]; exact hm_359
      have hm_445 : M_410 26 = some (aJ G 240 rx) := by rw [hF_417 26 (by omega) (by omega) (by omega) (by omega)]; exact hm_360
      have hm_446 : M_410 27 = some (aJ G 3 dm) := by rw [hF_417 27 (by omega) (by omega) (by omega) (by omega)]; exact hm_361
      have hm_447 : M_410 28 = some (aI G 3 rc) := by rw [hF_417 28 (by omega) (by omega) (by omega) (by omega)]; exact hm_362
      have hm_448 : M_410 qa = some (cQuestion ad qa ao vr) := by rw [hF_417 qa (by omega) (by omega) (by omega) (by omega)]; exact hm_363
      have hm_449 : M_410 (qa + 1) = some (aI G 6 (nF kn)) := by rw [hF_417 (qa + 1) (by omega) (by omega) (by omega) (by omega)]; exact hm_364
      have hm_450 : M_410 (qa + 2) = some (aZ G 6 (bF nq)) := by rw [hF_417 (qa + 2) (by omega) (by omega) (by omega) (by omega)]; exact hm_365
      have hm_451 : M_410 (qa + 3) = some (aI G 6 (nF pn)) := by rw [hF_417 (qa + 3) (by omega) (by omega) (by omega) (by omega)]; exact hm_366
      have hm_452 : M_410 (qa + 4) = some (aI G 6 (nF av)) := by rw [hF_417 (qa + 4) (by omega) (by omega) (by omega) (by omega)]; exact hm_367
      have hm_453 : M_410 (qa + 5) = some (aI G 24 (nF ro)) := by rw [hF_417 (qa + 5) (by omega) (by omega) (by omega) (by omega)]; exact hm_368
      have hm_454 : M_410 (qa + 6) = some (aI G 24 (nF te)) := by rw [hF_417 (qa + 6) (by omega) (by omega) (by omega) (by omega)]; exact hm_369
      have hm_455 : M_410 qs = some (cQuestion ad qs sq su) := by rw [hF_417 qs (by omega) (by omega) (by omega) (by omega)]; exact hm_370
      have hm_456 : M_410 (qs + 1) = some (aI G 6 (nF kb)) := by rw [hF_417 (qs + 1) (by omega) (by omega) (by omega) (by omega)]; exact hm_371
      have hm_457 : M_410 (qs + 2) = some (aZ G 6 (bF nb)) := by rw [hF_417 (qs + 2) (by omega) (by omega) (by omega) (by omega)]; exact hm_372
      have hm_458 : M_410 (qs + 3) = some (aI G 6 (nF pb)) := by rw [hF_417 (qs + 3) (by omega) (by omega) (by omega) (by omega)]; exact hm_373
      have hm_459 : M_410 (qs + 4) = some (aI G 6 (nF ab)) := by rw [hF_417 (qs + 4) (by omega) (by omega) (by omega) (by omega)]; exact hm_374
      have hm_460 : M_410 (qs + 5) = some (aI G 24 (nF rbb)) := by rw [hF_417 (qs + 5) (by omega) (by omega) (by omega) (by omega)]; exact hm_375
      have hm_461 : M_410 (qs + 6) = some (aI G 24 (nF tbb)) := by rw [hF_417 (qs + 6) (by omega) (by omega) (by omega) (by omega)]; exact hm_376
      have hm_462 : M_410 61 = some (aI G 36 (nF le)) := by rw [hF_417 61 (by omega) (by omega) (by omega) (by omega)]; exact hm_378
      have hm_463 : M_410 62 = some (aI G 36 (nF mo)) := by rw [hF_417 62 (by omega) (by omega) (by omega) (by omega)]; exact hm_379
      have hm_464 : M_410 63 = some (aI G 36 (nF al)) := by rw [hF_417 63 (by omega) (by omega) (by omega) (by omega)]; exact hm_380
      have hm_465 : M_410 64 = some (aZ G 6 (bF ho)) := by rw [hF_417 64 (by omega) (by omega) (by omega) (by omega)]; exact hm_381
      have hm_466 : M_410 65 = some (aI G 120 (nF mk)) := by rw [hF_417 65 (by omega) (by omega) (by omega) (by omega)]; exact hm_382
      have hm_467 : M_410 66 = some (aI G 120 mf) := by rw [hF_417 66 (by omega) (by omega) (by omega) (by omega)]; exact hm_383
      have hm_468 : M_410 67 = some (aI G 120 mu) := by rw [hF_417 67 (by omega) (by omega) (by omega) (by omega)]; exact hm_384
      have hm_469 : M_410 68 = some (aI G 121 (nF mz)) := by rw [hF_417 68 (by omega) (by omega) (by omega) (by omega)]; exact hm_385
      have hm_470 : M_410 69 = some (aI G 726 (nF rr)) := by rw [hF_417 69 (by omega) (by omega) (by omega) (by omega)]; exact hm_386
      have hm_471 : M_410 70 = some (aI G 726 (nF ee)) := by rw [hF_417 70 (by omega) (by omega) (by omega) (by omega)]; exact hm_387
      have hm_472 : M_410 71 = some (aI G 40 (nF lst)) := by rw [hF_417 71 (by omega) (by omega) (by omega) (by omega)]; exact hm_388
      have hm_473 : M_410 72 = some (aI G 40 (nF oa)) := by rw [hF_417 72 (by omega) (by omega) (by omega) (by omega)]; exact hm_389
      have hm_474 : M_410 73 = some (aI G 40 (nF ob)) := by rw [hF_417 73 (by omega) (by omega) (by omega) (by omega)]; exact hm_390
      have hm_475 : M_410 74 = some (aI G 120 s74) := by rw [hF_417 74 (by omega) (by omega) (by omega) (by omega)]; exact hm_391
      have hm_476 : M_410 75 = some (aI G 12 ak) := by rw [hF_417 75 (by omega) (by omega) (by omega) (by omega)]; exact hm_392
      have hm_477 : M_410 76 = some (aZ G 12 (bF nm)) := by rw [hF_417 76 (by omega) (by omega) (by omega) (by omega)]; exact hm_393
      have hm_478 : M_410 77 = some (aI G 12 (nF ap)) := by rw [hF_417 77 (by omega) (by omega) (by omega) (by omega)]; exact hm_394
      have hm_479 : M_410 78 = some (aI G 48 pr) := by rw [hF_417 78 (by omega) (by omega) (by omega) (by omega)]; exact hm_395
      have hm_480 : M_410 79 = some (aI G 48 pf) := by rw [hF_417 79 (by omega) (by omega) (by omega) (by omega)]; exact hm_396
      have hm_481 : M_410 80 = some (aB G 400 tf) := by rw [hF_417 80 (by omega) (by omega) (by omega) (by omega)]; exact hm_397
      have hm_482 : M_410 81 = some (aI G 5 fv) := by rw [hF_417 81 (by omega) (by omega) (by omega) (by omega)]; exact hm_398
      have hm_483 : M_410 82 = some (aZ G 384000 (bF tr)) := by rw [hF_417 82 (by omega) (by omega) (by omega) (by omega)]; exact hm_399
      have hm_484 : M_410 83 = some (aI G 3 (oF gv)) := by rw [hF_417 83 (by omega) (by omega) (by omega) (by omega)]; exact hm_400
      have hm_485 : M_410 84 = some (aI G 3 fo) := by rw [hF_417 84 (by omega) (by omega) (by omega) (by omega)]; exact hm_401
      have hm_486 : M_410 99 = some (aJ G 1 (vp_updL of 0 (rv_336.toInt64))) := by rw [hF_417 99 (by omega) (by omega) (by omega) (by omega)]; exact hm_333
      have hm_487 : M_410 16 = some (cLines ad ) := by rw [hF_417 16 (by omega) (by omega) (by omega) (by omega)]; exact hm_405
      have hL_488 : LSm G ad M_410 n kd fm to sz rl en := hL_406.keep (fun j hj => hF_417 j (by omega) (by omega) (by omega) (by omega))
      have hF_489 : ∀ j : Nat, j ≠ 99 → j ≠ 60 → j ≠ 85 → j ≠ 86 → j ≠ 87 → M_410 j = M j := fun j q0 q1 q2 q3 q4 => (hF_417 j q1 q2 q3 q4).trans (hF_407 j q0)
      refine lv_istore (lv' := [(6, .int r_408), (5, .int (nI 0)), (0, .ref b), (1, .ref (ad 0)), (2, .ref (ad 60)), (3, .ref (ad 99)), (4, .int (nI i))]) hx hb dL_law_1183 hl (by decide) rfl (fun ls hl => ?_)
      refine lv_aload_n hx hb dL_law_1185 rfl (lv_at hl 4 rfl) ?_
      refine k_Ri (va_runV (As := []) (rest := []) ⟨hx, hb, hml, hown, hts⟩ (c_X10_thrown l G z ad M_410 (th := 0) (ln := n) (on := jn) (ao := ao) (vr := vr) (sn := sn) (tp := len) (pt := pt) (zs := zs) (bg := bg) (fa := fw) hm_413) (cwV 0 hts (gV (lwg_of t_997 rfl) (lwg_of t_998 rfl) (lwg_of t_999 rfl) (lwg_of t_13 rfl) (lwg_of t_1000 rfl)) rfl rfl rfl (by decide +kernel) ⟨Nat.le_of_ble_eq_true rfl, Nat.le_of_ble_eq_true rfl⟩) (hI.preV hm_413 rfl) rfl rfl hl.1 rfl (lv_room (Nat.le_of_ble_eq_true rfl)) dL_law_1186 ⟨(show _ ≤ (601024 : Nat) from by omega), (show _ ≤ (7293034 : Nat) from by omega)⟩) (fun _ h => h) (fun r_490 hp_491 => ?_)
      rw [hp_491]
      refine lv_iload hx hb dL_law_1189 (lv_at hl 1 rfl) ?_
      refine lv_icmp_eq (tgt := 1196) hx hb dL_law_1191 (by decide) (fun c_492 => ?_) (fun c_492 => ?_)
      · -- 1191: nI 0 eq
        refine lv_iload hx hb dL_law_1196 (lv_at hl 1 rfl) ?_
        refine lv_if_ne (tgt := 1213) hx hb dL_law_1198 (by decide) (fun c_493 => ?_) (fun c_493 => ?_)
        · -- 1198: nI 0 ne
          exact absurd (by decide) c_493
        · -- 1198: nI 0 eq
          have hrw := way_eq hP_335 hP_418
          refine lv_aload_n hx hb dL_law_1201 rfl (lv_at hl 5 rfl) ?_
          refine lv_iconst (v := nI 0) hx hb dL_law_1202 (by decide) ?_
          refine h_lald (i := 0) hx hb hI hm_486 (by omega) (by decide) dL_law_1203 ?_
          refine n_eql (show _ = r_408.toInt64 from updL_0.trans (congrArg Int32.toInt64 hrw)) ?_
          refine lv_iload hx hb dL_law_1204 (lv_at hl 0 rfl) ?_
          refine lv_i2l (v := r_408.toInt64) hx hb dL_law_1206 rfl ?_
          refine W.lcmp hx hb dL_law_1207 ?_
          refine lv_if_eq (tgt := 1213) hx hb dL_law_1208 (by decide) (fun c_494 => ?_) (fun c_494 => ?_)
          · -- 1208: lg_cmp r_408.toInt64 r_408.toInt64 eq
            have c_494 : r_408.toInt64 = r_408.toInt64 := (lg_cmp_eq _ _).mp c_494
            refine lv_goto (tgt := 1333) hx hb dL_law_1213 (by decide) ?_
            refine W.widen (k := cz + 10) (n := sy + 300) (by omega) (by omega) ?_
            exact kk ad M_410 H_411 locs_412 ls n kd fm to sz rl en qa qs fw len tb le mo al ho jn hg lst jd s0 r0 th ol e0 mm9 ff lq ra rb rt rv qm pz sx ft rx dm rc ao vr kn nq pn av ro te sq su kb nb pb ab rbb tbb 0 sn pt zs bg mk mf mu mz rr ee oa ob s74 ak nm ap pr pf tf fv tr gv fo re2_419 us2_420 ne2_421 (vp_updL of 0 (rv_336.toInt64)) hL_488 w1 w2 w3 w4 w5 w6 w7 w8 w9 w10 w11 w12 w13 w14 w15 w16 w17 w18 w19 w20 w21 w22 w23 w24 w25 w26 w27 w28 w29 (fun h9 => by rw [hF_489 17 (by omega) (by omega) (by omega) (by omega) (by omega), hF_489 18 (by omega) (by omega) (by omega) (by omega) (by omega)]; exact w30 h9) (by rw [hF_489 29 (by omega) (by omega) (by omega) (by omega) (by omega)]; exact w31) (fun j9 h9 => by rw [hF_489 j9 (by omega) (by omega) (by omega) (by omega) (by omega)]; exact w32 j9 h9) hm_422 hm_423 hm_424 hm_425 hm_426 hm_427 hm_428 hm_429 hm_430 hm_431 hm_432 hm_433 hm_434 hm_435 hm_436 hm_437 hm_438 hm_439 hm_440 hm_441 hm_442 hm_443 hm_444 hm_445 hm_446 hm_447 hm_448 hm_449 hm_450 hm_451 hm_452 hm_453 hm_454 hm_455 hm_456 hm_457 hm_458 hm_459 hm_460 hm_461 hm_413 hm_462 hm_463 hm_464 hm_465 hm_466 hm_467 hm_468 hm_469 hm_470 hm_471 hm_472 hm_473 hm_474 hm_475 hm_476 hm_477 hm_478 hm_479 hm_480 hm_481 hm_482 hm_483 hm_484 hm_485 hm_414 hm_415 hm_416 hm_486 hI (lv_sub hl [2, 3, 4, 5, 6] rfl)
          · -- 1208: lg_cmp r_408.toInt64 r_408.toInt64 ne
            have c_494 : r_408.toInt64 ≠ r_408.toInt64 := (fun h => c_494 ((lg_cmp_eq _ _).mpr h))
            exact absurd rfl c_494
      · -- 1191: nI 0 ne
        exact absurd (by decide) c_492
