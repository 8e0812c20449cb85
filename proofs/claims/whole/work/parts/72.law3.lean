set_option maxHeartbeats 8000000 in
set_option maxRecDepth 100000 in
theorem law_10 {p : Program} {l : Launch} {e : Env} {s : State} {m : MethodId} {below : List Frame} {meth : Method} {c : Code} {b L : Nat} {xs : Nat → Int32} {Q : State → Prop} {G : GG} {z : Nat} {ad : Nat → Nat} {M : Mem} {H : Heap} {locs : List Loc} {ls : Array Slot} {i cz sy : Nat} (hst : l.stackTraces = false) (hx : p.tables.exec = Jvm.exec) (hb : c.code = code) (hml : c.maxLocals = 7) (hown : s.vm.findClass RL = some m.cls) {cx : Cond} (hts : ∀ w ∈ cx :: lwg, w.before #[Value.ref b] s = true) (hX : va_X b L xs s s.heap) (hbl : b < s.heap.size) (hbz : ¬ z ≤ b) (hI : Iv G z ad M s H locs) (hl : lv_has ls 7 [(0, .ref b), (1, .ref (ad 0)), (2, .ref (ad 60)), (3, .ref (ad 99)), (4, .int (nI i))]) (hiL : i + 6 ≤ L) (hL : L ≤ 3072) (hcz : cz + 10 ≤ 601024) (hsy : sy + 300 ≤ 7293034) {n : Nat} {kd : Nat → Nat} {fm : Nat → Int32} {to : Nat → Int32} {sz : Nat → Nat} {rl : Nat → Nat → Nat} {en : Nat → Nat → Nat} {qa : Nat} {qs : Nat} {fw : Int32} {len : Nat} {tb : Nat → Nat} {le : Nat → Nat} {mo : Nat → Nat} {al : Nat → Nat} {ho : Nat → Bool} {jn : Nat} {hg : Nat → Nat} {lst : Nat → Nat} {jd : Nat → Nat} {s0 : Nat} {r0 : Nat → Nat} {th : Nat → Option Nat} {ol : Nat → Option Nat} {e0 : Nat → Nat} {mm9 : Nat → Bool} {ff : Nat → Int32} {lq : Nat → Int32} {ra : Nat} {rb : Nat} {rt : Int32} {rv : Int32} {qm : Nat} {pz : Nat} {sx : Nat → Int64} {ft : Nat → Nat} {rx : Nat → Int64} {dm : Nat → Int64} {rc : Nat → Int32} {ao : Nat} {vr : Nat} {kn : Nat → Nat} {nq : Nat → Bool} {pn : Nat → Nat} {av : Nat → Nat} {ro : Nat → Nat} {te : Nat → Nat} {sq : Nat} {su : Nat} {kb : Nat → Nat} {nb : Nat → Bool} {pb : Nat → Nat} {ab : Nat → Nat} {rbb : Nat → Nat} {tbb : Nat → Nat} {tw : Nat} {sn : Nat} {pt : Nat} {zs : Nat} {bg : Nat} {mk : Nat → Nat} {mf : Nat → Int32} {mu : Nat → Int32} {mz : Nat → Nat} {rr : Nat → Nat} {ee : Nat → Nat} {oa : Nat → Nat} {ob : Nat → Nat} {s74 : Nat → Int32} {ak : Nat → Int32} {nm : Nat → Bool} {ap : Nat → Nat} {pr : Nat → Int32} {pf : Nat → Int32} {tf : Nat → Int32} {fv : Nat → Int32} {tr : Nat → Bool} {gv : Nat → Option Nat} {fo : Nat → Int32} {re : Nat → Bool} {us : Nat → Bool} {nx : Nat → Bool} {of : Nat → Int64} (fL : LSm G ad M n kd fm to sz rl en) (w1 : LSw n kd sz rl en) (w2 : MRel n kd fm to sz rl en mk mf mu mz rr ee) (w3 : JI jn hg lst jd oa ob) (w4 : len ≤ 400) (w5 : ∀ j, j < len → tb j < 256) (w6 : ∀ j, j < len → tf j = sB (tb j)) (w7 : s0 ≤ 6) (w8 : mz 120 = s0) (w9 : ∀ j, j < s0 → rr (720 + j) = r0 j ∧ ee (720 + j) = e0 j) (w10 : ∀ j, j < s0 → r0 j < 6) (w11 : ∀ j, j < s0 → e0 j < 40 + n) (w12 : ∀ j, j < s0 → th j = thE e0 j) (w13 : ∀ j, j < s0 → ol j = olE e0 j) (w14 : ∀ j, j < 36 → le j < 100) (w15 : ∀ j, j < 36 → mo j < 100) (w16 : ∀ j, j < 36 → al j ≤ 100) (w17 : ∀ i, i < n → (0 : Int32) ≤ fm i) (w18 : ∀ i, i < n → ∀ k, hgs sz en i k = true → fm k ≤ fm i) (w19 : ao ≤ 6) (w20 : vr < 8) (w21 : ∀ i, i < ao → ap i ≤ 4 ∧ (ak i = nI (kn i) ∧ kn i < 6) ∧ ∀ p8, p8 < ap i → (pr (4 * i + p8) = nI (ro (i * 4 + p8)) ∧ ro (i * 4 + p8) < 6) ∧ te (i * 4 + p8) < 43 ∧ pf (4 * i + p8) = tmI (te (i * 4 + p8))) (w22 : ∀ i, i < ao → nm i = nq i ∧ ap i = pn i) (w23 : ∀ i, i < ao → av i < 8) (w24 : ∀ i, i < ao → (av i).testBit 0 = false → ∀ p9, p9 < pn i → te (i * 4 + p9) ≠ 40) (w25 : ∀ v, v < 3 → vr.testBit v = true → ∃ i, i < ao ∧ nq i = false ∧ ∃ k, k < pn i ∧ te (i * 4 + k) = 40 + v) (w26 : 29 < qa ∧ qa < 38) (w27 : 29 < qs ∧ qs < 38) (w28 : qa + 7 ≤ qs ∨ qs + 7 ≤ qa) (w29 : 29 < qm ∧ qm < 51) (w30 : n = 0 → (∃ mcn : Int32, M 17 = some (cList ad mcn G.2.2.2.2 0)) ∧ M 18 = none) (w31 : M 29 = none) (w32 : ∀ j, 100 + 5 * n ≤ j → M j = none) (f_0 : M 0 = some (cStore ad qa qs fw)) (f_1 : M 1 = some (cTape ad len)) (f_2 : M 2 = some (aI G 400 (nF tb))) (f_3 : M 3 = some (cLaws ad )) (f_4 : M 4 = some (aI G 36 (nF le))) (f_5 : M 5 = some (aI G 36 (nF mo))) (f_6 : M 6 = some (aI G 36 (nF al))) (f_7 : M 7 = some (aZ G 6 (bF ho))) (f_8 : M 8 = some (cOnes ad jn)) (f_9 : M 9 = some (aI G 40 (nF hg))) (f_10 : M 10 = some (aI G 40 (nF lst))) (f_11 : M 11 = some (aI G 40 (nF jd))) (f_12 : M 12 = some (cEnds ad 12 s0)) (f_13 : M 13 = some (aI G 6 (nF r0))) (f_14 : M 14 = some (aI G 6 (oF th))) (f_15 : M 15 = some (aI G 6 (oF ol))) (f_19 : M 19 = some (aZ G 120 (bF mm9))) (f_20 : M 20 = some (aI G 120 ff)) (f_21 : M 21 = some (aI G 120 lq)) (f_22 : M 22 = some (cReader ad ra rb rt rv)) (f_23 : M 23 = some (cMatcher ad qm pz)) (f_24 : M 24 = some (aJ G 2160 sx)) (f_25 : M 25 = some (aI G 6 (nF ft))) (f_26 : M 26 = some (aJ G 240 rx)) (f_27 : M 27 = some (aJ G 3 dm)) (f_28 : M 28 = some (aI G 3 rc)) (f_qa : M qa = some (cQuestion ad qa ao vr)) (f_qa_1 : M (qa + 1) = some (aI G 6 (nF kn))) (f_qa_2 : M (qa + 2) = some (aZ G 6 (bF nq))) (f_qa_3 : M (qa + 3) = some (aI G 6 (nF pn))) (f_qa_4 : M (qa + 4) = some (aI G 6 (nF av))) (f_qa_5 : M (qa + 5) = some (aI G 24 (nF ro))) (f_qa_6 : M (qa + 6) = some (aI G 24 (nF te))) (f_qs : M qs = some (cQuestion ad qs sq su)) (f_qs_1 : M (qs + 1) = some (aI G 6 (nF kb))) (f_qs_2 : M (qs + 2) = some (aZ G 6 (bF nb))) (f_qs_3 : M (qs + 3) = some (aI G 6 (nF pb))) (f_qs_4 : M (qs + 4) = some (aI G 6 (nF ab))) (f_qs_5 : M (qs + 5) = some (aI G 24 (nF rbb))) (f_qs_6 : M (qs + 6) = some (aI G 24 (nF tbb))) (f_60 : M 60 = some (cModel ad tw n jn ao vr sn len pt zs bg fw)) (f_61 : M 61 = some (aI G 36 (nF le))) (f_62 : M 62 = some (aI G 36 (nF mo))) (f_63 : M 63 = some (aI G 36 (nF al))) (f_64 : M 64 = some (aZ G 6 (bF ho))) (f_65 : M 65 = some (aI G 120 (nF mk))) (f_66 : M 66 = some (aI G 120 mf)) (f_67 : M 67 = some (aI G 120 mu)) (f_68 : M 68 = some (aI G 121 (nF mz))) (f_69 : M 69 = some (aI G 726 (nF rr))) (f_70 : M 70 = some (aI G 726 (nF ee))) (f_71 : M 71 = some (aI G 40 (nF lst))) (f_72 : M 72 = some (aI G 40 (nF oa))) (f_73 : M 73 = some (aI G 40 (nF ob))) (f_74 : M 74 = some (aI G 120 s74)) (f_75 : M 75 = some (aI G 12 ak)) (f_76 : M 76 = some (aZ G 12 (bF nm))) (f_77 : M 77 = some (aI G 12 (nF ap))) (f_78 : M 78 = some (aI G 48 pr)) (f_79 : M 79 = some (aI G 48 pf)) (f_80 : M 80 = some (aB G 400 tf)) (f_81 : M 81 = some (aI G 5 fv)) (f_82 : M 82 = some (aZ G 384000 (bF tr))) (f_83 : M 83 = some (aI G 3 (oF gv))) (f_84 : M 84 = some (aI G 3 fo)) (f_85 : M 85 = some (aZ G 40 (bF re))) (f_86 : M 86 = some (aZ G 120 (bF us))) (f_87 : M 87 = some (aZ G 120 (bF nx))) (f_99 : M 99 = some (aJ G 1 of)) (kk : ∀ (ad1 : Nat → Nat) (M1 : Mem) (H1 : Heap) (locs1 : List Loc) (ls1 : Array Slot) (n : Nat) (kd : Nat → Nat) (fm : Nat → Int32) (to : Nat → Int32) (sz : Nat → Nat) (rl : Nat → Nat → Nat) (en : Nat → Nat → Nat) (qa : Nat) (qs : Nat) (fw : Int32) (len : Nat) (tb : Nat → Nat) (le : Nat → Nat) (mo : Nat → Nat) (al : Nat → Nat) (ho : Nat → Bool) (jn : Nat) (hg : Nat → Nat) (lst : Nat → Nat) (jd : Nat → Nat) (s0 : Nat) (r0 : Nat → Nat) (th : Nat → Option Nat) (ol : Nat → Option Nat) (e0 : Nat → Nat) (mm9 : Nat → Bool) (ff : Nat → Int32) (lq : Nat → Int32) (ra : Nat) (rb : Nat) (rt : Int32) (rv : Int32) (qm : Nat) (pz : Nat) (sx : Nat → Int64) (ft : Nat → Nat) (rx : Nat → Int64) (dm : Nat → Int64) (rc : Nat → Int32) (ao : Nat) (vr : Nat) (kn : Nat → Nat) (nq : Nat → Bool) (pn : Nat → Nat) (av : Nat → Nat) (ro : Nat → Nat) (te : Nat → Nat) (sq : Nat) (su : Nat) (kb : Nat → Nat) (nb : Nat → Bool) (pb : Nat → Nat) (ab : Nat → Nat) (rbb : Nat → Nat) (tbb : Nat → Nat) (tw : Nat) (sn : Nat) (pt : Nat) (zs : Nat) (bg : Nat) (mk : Nat → Nat) (mf : Nat → Int32) (mu : Nat → Int32) (mz : Nat → Nat) (rr : Nat → Nat) (ee : Nat → Nat) (oa : Nat → Nat) (ob : Nat → Nat) (s74 : Nat → Int32) (ak : Nat → Int32) (nm : Nat → Bool) (ap : Nat → Nat) (pr : Nat → Int32) (pf : Nat → Int32) (tf : Nat → Int32) (fv : Nat → Int32) (tr : Nat → Bool) (gv : Nat → Option Nat) (fo : Nat → Int32) (re : Nat → Bool) (us : Nat → Bool) (nx : Nat → Bool) (of : Nat → Int64), (LSm G ad1 M1 n kd fm to sz rl en) → (LSw n kd sz rl en) → (MRel n kd fm to sz rl en mk mf mu mz rr ee) → (JI jn hg lst jd oa ob) → (len ≤ 400) → (∀ j, j < len → tb j < 256) → (∀ j, j < len → tf j = sB (tb j)) → (s0 ≤ 6) → (mz 120 = s0) → (∀ j, j < s0 → rr (720 + j) = r0 j ∧ ee (720 + j) = e0 j) → (∀ j, j < s0 → r0 j < 6) → (∀ j, j < s0 → e0 j < 40 + n) → (∀ j, j < s0 → th j = thE e0 j) → (∀ j, j < s0 → ol j = olE e0 j) → (∀ j, j < 36 → le j < 100) → (∀ j, j < 36 → mo j < 100) → (∀ j, j < 36 → al j ≤ 100) → (∀ i, i < n → (0 : Int32) ≤ fm i) → (∀ i, i < n → ∀ k, hgs sz en i k = true → fm k ≤ fm i) → (ao ≤ 6) → (vr < 8) → (∀ i, i < ao → ap i ≤ 4 ∧ (ak i = nI (kn i) ∧ kn i < 6) ∧ ∀ p8, p8 < ap i → (pr (4 * i + p8) = nI (ro (i * 4 + p8)) ∧ ro (i * 4 + p8) < 6) ∧ te (i * 4 + p8) < 43 ∧ pf (4 * i + p8) = tmI (te (i * 4 + p8))) → (∀ i, i < ao → nm i = nq i ∧ ap i = pn i) → (∀ i, i < ao → av i < 8) → (∀ i, i < ao → (av i).testBit 0 = false → ∀ p9, p9 < pn i → te (i * 4 + p9) ≠ 40) → (∀ v, v < 3 → vr.testBit v = true → ∃ i, i < ao ∧ nq i = false ∧ ∃ k, k < pn i ∧ te (i * 4 + k) = 40 + v) → (29 < qa ∧ qa < 38) → (29 < qs ∧ qs < 38) → (qa + 7 ≤ qs ∨ qs + 7 ≤ qa) → (29 < qm ∧ qm < 51) → (n = 0 → (∃ mcn : Int32, M1 17 = some (cList ad1 mcn G.2.2.2.2 0)) ∧ M1 18 = none) → (M1 29 = none) → (∀ j, 100 + 5 * n ≤ j → M1 j = none) → (M1 0 = some (cStore ad1 qa qs fw)) → (M1 1 = some (cTape ad1 len)) → (M1 2 = some (aI G 400 (nF tb))) → (M1 3 = some (cLaws ad1 )) → (M1 4 = some (aI G 36 (nF le))) → (M1 5 = some (aI G 36 (nF mo))) → (M1 6 = some (aI G 36 (nF al))) → (M1 7 = some (aZ G 6 (bF ho))) → (M1 8 = some (cOnes ad1 jn)) → (M1 9 = some (aI G 40 (nF hg))) → (M1 10 = some (aI G 40 (nF lst))) → (M1 11 = some (aI G 40 (nF jd))) → (M1 12 = some (cEnds ad1 12 s0)) → (M1 13 = some (aI G 6 (nF r0))) → (M1 14 = some (aI G 6 (oF th))) → (M1 15 = some (aI G 6 (oF ol))) → (M1 19 = some (aZ G 120 (bF mm9))) → (M1 20 = some (aI G 120 ff)) → (M1 21 = some (aI G 120 lq)) → (M1 22 = some (cReader ad1 ra rb rt rv)) → (M1 23 = some (cMatcher ad1 qm pz)) → (M1 24 = some (aJ G 2160 sx)) → (M1 25 = some (aI G 6 (nF ft))) → (M1 26 = some (aJ G 240 rx)) → (M1 27 = some (aJ G 3 dm)) → (M1 28 = some (aI G 3 rc)) → (M1 qa = some (cQuestion ad1 qa ao vr)) → (M1 (qa + 1) = some (aI G 6 (nF kn))) → (M1 (qa + 2) = some (aZ G 6 (bF nq))) → (M1 (qa + 3) = some (aI G 6 (nF pn))) → (M1 (qa + 4) = some (aI G 6 (nF av))) → (M1 (qa + 5) = some (aI G 24 (nF ro))) → (M1 (qa + 6) = some (aI G 24 (nF te))) → (M1 qs = some (cQuestion ad1 qs sq su)) → (M1 (qs + 1) = some (aI G 6 (nF kb))) → (M1 (qs + 2) = some (aZ G 6 (bF nb))) → (M1 (qs + 3) = some (aI G 6 (nF pb))) → (M1 (qs + 4) = some (aI G 6 (nF ab))) → (M1 (qs + 5) = some (aI G 24 (nF rbb))) → (M1 (qs + 6) = some (aI G 24 (nF tbb))) → (M1 60 = some (cModel ad1 tw n jn ao vr sn len pt zs bg fw)) → (M1 61 = some (aI G 36 (nF le))) → (M1 62 = some (aI G 36 (nF mo))) → (M1 63 = some (aI G 36 (nF al))) → (M1 64 = some (aZ G 6 (bF ho))) → (M1 65 = some (aI G 120 (nF mk))) → (M1 66 = some (aI G 120 mf)) → (M1 67 = some (aI G 120 mu)) → (M1 68 = some (aI G 121 (nF mz))) → (M1 69 = some (aI G 726 (nF rr))) → (M1 70 = some (aI G 726 (nF ee))) → (M1 71 = some (aI G 40 (nF lst))) → (M1 72 = some (aI G 40 (nF oa))) → (M1 73 = some (aI G 40 (nF ob))) → (M1 74 = some (aI G 120 s74)) → (M1 75 = some (aI G 12 ak)) → (M1 76 = some (aZ G 12 (bF nm))) → (M1 77 = some (aI G 12 (nF ap))) → (M1 78 = some (aI G 48 pr)) → (M1 79 = some (aI G 48 pf)) → (M1 80 = some (aB G 400 tf)) → (M1 81 = some (aI G 5 fv)) → (M1 82 = some (aZ G 384000 (bF tr))) → (M1 83 = some (aI G 3 (oF gv))) → (M1 84 = some (aI G 3 fo)) → (M1 85 = some (aZ G 40 (bF re))) → (M1 86 = some (aZ G 120 (bF us))) → (M1 87 = some (aZ G 120 (bF nx))) → (M1 99 = some (aJ G 1 of)) → Iv G z ad1 M1 s H1 locs1 → lv_has ls1 7 [(0, .ref b), (1, .ref (ad1 0)), (2, .ref (ad1 60)), (3, .ref (ad1 99)), (4, .int (nI i))] → W p l e room_1 s m #[Value.ref b] below meth c H1 locs1 (cz + 10) (sy + 300) Q (F0 m 1333 ls1 [])) : W p l e room_1 s m #[Value.ref b] below meth c H locs cz sy Q (F0 m 789 ls []) := by
  have h16 := fL.1
  have hw1 := w1.1
  have hlst := ji_lst w3
  rcases (in_or 40 (xs (i + 1)) (by omega) : (xs (i + 1) < 0 ∨ ¬ xs (i + 1) < nI 40) ∨ (∃ t : Nat, t < 40 ∧ xs (i + 1) = nI t)) with hc_1 | hc_2
  · skip
    refine lv_aload_n hx hb dL_law_789 rfl (lv_at hl 1 rfl) ?_
    refine lv_aload_n hx hb dL_law_790 rfl (lv_at hl 0 rfl) ?_
    refine lv_iload hx hb dL_law_791 (lv_at hl 4 rfl) ?_
    refine lv_iconst (v := nI 1) hx hb dL_law_793 (by decide) ?_
    refine lv_iadd hx hb dL_law_794 ?_
    refine n_eq (nI_add i 1) ?_
    refine va_sld (A := fr z) hx hb hX hbl hbz hI.S (vp_in_nI (n := i + 1) (by omega) (by omega)) dL_law_795 ?_
    rw [nI_clamp (by omega)]
    refine lv_aload_n hx hb dL_law_796 rfl (lv_at hl 3 rfl) ?_
    refine k_Ni (vx_runSW (As := [.ref (ad 0), .int (xs (i + 1)), .ref (ad 99)]) (rest := []) ⟨hx, hb, hml, hown, hts⟩ (c_L_as_a l hst G z ad M (qa := qa) (qs := qs) (fw := fw) (x0 := xs (i + 1)) f_0 hc_1) (vx_cwSW 3 hts (gSW (lwg_of t_847 rfl) (lwg_of t_848 rfl) (lwg_of t_0 rfl) (lwg_of t_849 rfl)) rfl rfl rfl (by decide +kernel) ⟨Nat.le_of_ble_eq_true rfl, Nat.le_of_ble_eq_true rfl⟩) hI.preS rfl rfl hl.1 rfl (lv_room (Nat.le_of_ble_eq_true rfl)) dL_law_797 ⟨(show _ ≤ (601024 : Nat) from by omega), (show _ ≤ (7293034 : Nat) from by omega)⟩) hI (fun r_3 M_5 H_6 locs_7 hp_4 hI => ?_)
    obtain ⟨hr_8, hF_9⟩ := hp_4
    have hm_10 : M_5 0 = some (cStore ad qa qs fw) := by rw [hF_9 0 ]; exact f_0
    have hm_11 : M_5 1 = some (cTape ad len) := by rw [hF_9 1 ]; exact f_1
    have hm_12 : M_5 2 = some (aI G 400 (nF tb)) := by rw [hF_9 2 ]; exact f_2
    have hm_13 : M_5 3 = some (cLaws ad ) := by rw [hF_9 3 ]; exact f_3
    have hm_14 : M_5 4 = some (aI G 36 (nF le)) := by rw [hF_9 4 ]; exact f_4
    have hm_15 : M_5 5 = some (aI G 36 (nF mo)) := by rw [hF_9 5 ]; exact f_5
    have hm_16 : M_5 6 = some (aI G 36 (nF al)) := by rw [hF_9 6 ]; exact f_6
    have hm_17 : M_5 7 = some (aZ G 6 (bF ho)) := by rw [hF_9 7 ]; exact f_7
    have hm_18 : M_5 8 = some (cOnes ad jn) := by rw [hF_9 8 ]; exact f_8
    have hm_19 : M_5 9 = some (aI G 40 (nF hg)) := by rw [hF_9 9 ]; exact f_9
    have hm_20 : M_5 10 = some (aI G 40 (nF lst)) := by rw [hF_9 10 ]; exact f_10
    have hm_21 : M_5 11 = some (aI G 40 (nF jd)) := by rw [hF_9 11 ]; exact f_11
    have hm_22 : M_5 12 = some (cEnds ad 12 s0) := by rw [hF_9 12 ]; exact f_12
    have hm_23 : M_5 13 = some (aI G 6 (nF r0)) := by rw [hF_9 13 ]; exact f_13
    have hm_24 : M_5 14 = some (aI G 6 (oF th)) := by rw [hF_9 14 ]; exact f_14
    have hm_25 : M_5 15 = some (aI G 6 (oF ol)) := by rw [hF_9 15 ]; exact f_15
    have hm_26 : M_5 19 = some (aZ G 120 (bF mm9)) := by rw [hF_9 19 ]; exact f_19
    have hm_27 : M_5 20 = some (aI G 120 ff) := by rw [hF_9 20 ]; exact f_20
    have hm_28 : M_5 21 = some (aI G 120 lq) := by rw [hF_9 21 ]; exact f_21
    have hm_29 : M_5 22 = some (cReader ad ra rb rt rv) := by rw [hF_9 22 ]; exact f_22
    have hm_30 : M_5 23 = some (cMatcher ad qm pz) := by rw [hF_9 23 ]; exact f_23
    have hm_31 : M_5 24 = some (aJ G 2160 sx) := by rw [hF_9 24 ]; exact f_24
    have hm_32 : M_5 25 = some (aI G 6 (nF ft)) := by rw [hF_9 25 ]; exact f_25
    have hm_33 : M_5 26 = some (aJ G 240 rx) := by rw [hF_9 26 ]; exact f_26
    have hm_34 : M_5 27 = some (aJ G 3 dm) := by rw [hF_9 27 ]; exact f_27
    have hm_35 : M_5 28 = some (aI G 3 rc) := by rw [hF_9 28 ]; exact f_28
    have hm_36 : M_5 qa = some (cQuestion ad qa ao vr) := by rw [hF_9 qa ]; exact f_qa
    have hm_37 : M_5 (qa + 1) = some (aI G 6 (nF kn)) := by rw [hF_9 (qa + 1) ]; exact f_qa_1
    have hm_38 : M_5 (qa + 2) = some (aZ G 6 (bF nq)) := by rw [hF_9 (qa + 2) ]; exact f_qa_2
    have hm_39 : M_5 (qa + 3) = some (aI G 6 (nF pn)) := by rw [hF_9 (qa + 3) ]; exact f_qa_3
    have hm_40 : M_5 (qa + 4) = some (aI G 6 (nF av)) := by rw [hF_9 (qa + 4) ]; exact f_qa_4
    have hm_41 : M_5 (qa + 5) = some (aI G 24 (nF ro)) := by rw [hF_9 (qa + 5) ]; exact f_qa_5
    have hm_42 : M_5 (qa + 6) = some (aI G 24 (nF te)) := by rw [hF_9 (qa + 6) ]; exact f_qa_6
    have hm_43 : M_5 qs = some (cQuestion ad qs sq su) := by rw [hF_9 qs ]; exact f_qs
    have hm_44 : M_5 (qs + 1) = some (aI G 6 (nF kb)) := by rw [hF_9 (qs + 1) ]; exact f_qs_1
    have hm_45 : M_5 (qs + 2) = some (aZ G 6 (bF nb)) := by rw [hF_9 (qs + 2) ]; exact f_qs_2
    have hm_46 : M_5 (qs + 3) = some (aI G 6 (nF pb)) := by rw [hF_9 (qs + 3) ]; exact f_qs_3
    have hm_47 : M_5 (qs + 4) = some (aI G 6 (nF ab)) := by rw [hF_9 (qs + 4) ]; exact f_qs_4
    have hm_48 : M_5 (qs + 5) = some (aI G 24 (nF rbb)) := by rw [hF_9 (qs + 5) ]; exact f_qs_5
    have hm_49 : M_5 (qs + 6) = some (aI G 24 (nF tbb)) := by rw [hF_9 (qs + 6) ]; exact f_qs_6
    have hm_50 : M_5 60 = some (cModel ad tw n jn ao vr sn len pt zs bg fw) := by rw [hF_9 60 ]; exact f_60
    have hm_51 : M_5 61 = some (aI G 36 (nF le)) := by rw [hF_9 61 ]; exact f_61
    have hm_52 : M_5 62 = some (aI G 36 (nF mo)) := by rw [hF_9 62 ]; exact f_62
    have hm_53 : M_5 63 = some (aI G 36 (nF al)) := by rw [hF_9 63 ]; exact f_63
    have hm_54 : M_5 64 = some (aZ G 6 (bF ho)) := by rw [hF_9 64 ]; exact f_64
    have hm_55 : M_5 65 = some (aI G 120 (nF mk)) := by rw [hF_9 65 ]; exact f_65
    have hm_56 : M_5 66 = some (aI G 120 mf) := by rw [hF_9 66 ]; exact f_66
    have hm_57 : M_5 67 = some (aI G 120 mu) := by rw [hF_9 67 ]; exact f_67
    have hm_58 : M_5 68 = some (aI G 121 (nF mz)) := by rw [hF_9 68 ]; exact f_68
    have hm_59 : M_5 69 = some (aI G 726 (nF rr)) := by rw [hF_9 69 ]; exact f_69
    have hm_60 : M_5 70 = some (aI G 726 (nF ee)) := by rw [hF_9 70 ]; exact f_70
    have hm_61 : M_5 71 = some (aI G 40 (nF lst)) := by rw [hF_9 71 ]; exact f_71
    have hm_62 : M_5 72 = some (aI G 40 (nF oa)) := by rw [hF_9 72 ]; exact f_72
    have hm_63 : M_5 73 = some (aI G 40 (nF ob)) := by rw [hF_9 73 ]; exact f_73
    have hm_64 : M_5 74 = some (aI G 120 s74) := by rw [hF_9 74 ]; exact f_74
    have hm_65 : M_5 75 = some (aI G 12 ak) := by rw [hF_9 75 ]; exact f_75
    have hm_66 : M_5 76 = some (aZ G 12 (bF nm)) := by rw [hF_9 76 ]; exact f_76
    have hm_67 : M_5 77 = some (aI G 12 (nF ap)) := by rw [hF_9 77 ]; exact f_77
    have hm_68 : M_5 78 = some (aI G 48 pr) := by rw [hF_9 78 ]; exact f_78
    have hm_69 : M_5 79 = some (aI G 48 pf) := by rw [hF_9 79 ]; exact f_79
    have hm_70 : M_5 80 = some (aB G 400 tf) := by rw [hF_9 80 ]; exact f_80
    have hm_71 : M_5 81 = some (aI G 5 fv) := by rw [hF_9 81 ]; exact f_81
    have hm_72 : M_5 82 = some (aZ G 384000 (bF tr)) := by rw [hF_9 82 ]; exact f_82
    have hm_73 : M_5 83 = some (aI G 3 (oF gv)) := by rw [hF_9 83 ]; exact f_83
    have hm_74 : M_5 84 = some (aI G 3 fo) := by rw [hF_9 84 ]; exact f_84
    have hm_75 : M_5 85 = some (aZ G 40 (bF re)) := by rw [hF_9 85 ]; exact f_85
    have hm_76 : M_5 86 = some (aZ G 120 (bF us)) := by rw [hF_9 86 ]; exact f_86
    have hm_77 : M_5 87 = some (aZ G 120 (bF nx)) := by rw [hF_9 87 ]; exact f_87
    have hm_78 : M_5 99 = some (aJ G 1 of) := by rw [hF_9 99 ]; exact f_99
    have hm_79 : M_5 16 = some (cLines ad ) := by rw [hF_9 16 ]; exact h16
    have hL_80 : LSm G ad M_5 n kd fm to sz rl en := fL.keep (fun j hj => hF_9 j )
    rw [hr_8]
    refine lv_istore (lv' := [(5, .int (nI 1)), (0, .ref b), (1, .ref (ad 0)), (2, .ref (ad 60)), (3, .ref (ad 99)), (4, .int (nI i))]) hx hb dL_law_800 hl (by decide) rfl (fun ls hl => ?_)
    refine lv_aload_n hx hb dL_law_802 rfl (lv_at hl 3 rfl) ?_
    refine lv_aload_n hx hb dL_law_803 rfl (lv_at hl 1 rfl) ?_
    refine lv_iload hx hb dL_law_804 (lv_at hl 5 rfl) ?_
    refine lv_iconst (v := nI 1) hx hb dL_law_806 (by decide) ?_
    refine lv_iadd hx hb dL_law_807 ?_
    refine n_eq (nI_add i 1) ?_
    refine va_sld (A := fr z) hx hb hX hbl hbz hI.S (vp_in_nI (n := i + 1) (by omega) (by omega)) dL_law_808 ?_
    rw [nI_clamp (by omega)]
    refine k_Ni (va_runV (As := [.int (xs (i + 1))]) (rest := []) ⟨hx, hb, hml, hown, hts⟩ (c_X10_as_a l G z ad M_5 (th := tw) (ln := n) (on := jn) (ao := ao) (vr := vr) (sn := sn) (tp := len) (pt := pt) (zs := zs) (bg := bg) (fa := fw) (x0 := xs (i + 1)) hm_50 hc_1) (cwV 1 hts (gV (lwg_of t_1209 rfl) (lwg_of t_1210 rfl) (lwg_of t_1211 rfl) (lwg_of t_13 rfl) (lwg_of t_1212 rfl)) rfl rfl rfl (by decide +kernel) ⟨Nat.le_of_ble_eq_true rfl, Nat.le_of_ble_eq_true rfl⟩) (hI.preV hm_50 rfl) rfl rfl hl.1 rfl (lv_room (Nat.le_of_ble_eq_true rfl)) dL_law_809 ⟨(show _ ≤ (601024 : Nat) from by omega), (show _ ≤ (7293034 : Nat) from by omega)⟩) hI (fun r_81 M_83 H_84 locs_85 hp_82 hI => ?_)
    obtain ⟨hr_86, hm_87, hF_88⟩ := hp_82
    have hm_89 : M_83 0 = some (cStore ad qa qs fw) := by rw [hF_88 0 (by omega)]; exact hm_10
    have hm_90 : M_83 1 = some (cTape ad len) := by rw [hF_88 1 (by omega)]; exact hm_11
    have hm_91 : M_83 2 = some (aI G 400 (nF tb)) := by rw [hF_88 2 (by omega)]; exact hm_12
    have hm_92 : M_83 3 = some (cLaws ad ) := by rw [hF_88 3 (by omega)]; exact hm_13
    have hm_93 : M_83 4 = some (aI G 36 (nF le)) := by rw [hF_88 4 (by omega)]; exact hm_14
    have hm_94 : M_83 5 = some (aI G 36 (nF mo)) := by rw [hF_88 5 (by omega)]; exact hm_15
    have hm_95 : M_83 6 = some (aI G 36 (nF al)) := by rw [hF_88 6 (by omega)]; exact hm_16
    have hm_96 : M_83 7 = some (aZ G 6 (bF ho)) := by rw [hF_88 7 (by omega)]; exact hm_17
    have hm_97 : M_83 8 = some (cOnes ad jn) := by rw [hF_88 8 (by omega)]; exact hm_18
    have hm_98 : M_83 9 = some (aI G 40 (nF hg)) := by rw [hF_88 9 (by omega)]; exact hm_19
    have hm_99 : M_83 10 = some (aI G 40 (nF lst)) := by rw [hF_88 10 (by omega)]; exact hm_20
    have hm_100 : M_83 11 = some (aI G 40 (nF jd)) := by rw [hF_88 11 (by omega)]; exact hm_21
    have hm_101 : M_83 12 = some (cEnds ad 12 s0) := by rw [hF_88 12 (by omega)]; exact hm_22
    have hm_102 : M_83 13 = some (aI G 6 (nF r0)) := by rw [hF_88 13 (by omega)]; exact hm_23
    have hm_103 : M_83 14 = some (aI G 6 (oF th)) := by rw [hF_88 14 (by omega)]; exact hm_24
    have hm_104 : M_83 15 = some (aI G 6 (oF ol)) := by rw [hF_88 15 (by omega)]; exact hm_25
    have hm_105 : M_83 19 = some (aZ G 120 (bF mm9)) := by rw [hF_88 19 (by omega)]; exact hm_26
    have hm_106 : M_83 20 = some (aI G 120 ff) := by rw [hF_88 20 (by omega)]; exact hm_27
    have hm_107 : M_83 21 = some (aI G 120 lq) := by rw [hF_88 21 (by omega)]; exact hm_28
    have hm_108 : M_83 22 = some (cReader ad ra rb rt rv) := by rw [hF_88 22 (by omega)]; exact hm_29
    have hm_109 : M_83 23 = some (cMatcher ad qm pz) := by rw [hF_88 23 (by omega)]; exact hm_30
    have hm_110 : M_83 24 = some (aJ G 2160 sx) := by rw [hF_88 24 (by omega)]; exact hm_31
    have hm_111 : M_83 25 = some (aI G 6 (nF ft)) := by rw [hF_88 25 (by omega)]; exact hm_32
    have hm_112 : M_83 26 = some (aJ G 240 rx) := by rw [hF_88 26 (by omega)]; exact hm_33
    have hm_113 : M_83 27 = some (aJ G 3 dm) := by rw [hF_88 27 (by omega)]; exact hm_34
    have hm_114 : M_83 28 = some (aI G 3 rc) := by rw [hF_88 28 (by omega)]; exact hm_35
    have hm_115 : M_83 qa = some (cQuestion ad qa ao vr) := by rw [hF_88 qa (by omega)]; exact hm_36
    have hm_116 : M_83 (qa + 1) = some (aI G 6 (nF kn)) := by rw [hF_88 (qa + 1) (by omega)]; exact hm_37
    have hm_117 : M_83 (qa + 2) = some (aZ G 6 (bF nq)) := by rw [hF_88 (qa + 2) (by omega)]; exact hm_38
    have hm_118 : M_83 (qa + 3) = some (aI G 6 (nF pn)) := by rw [hF_88 (qa + 3) (by omega)]; exact hm_39
    have hm_119 : M_83 (qa + 4) = some (aI G 6 (nF av)) := by rw [hF_88 (qa + 4) (by omega)]; exact hm_40
    have hm_120 : M_83 (qa + 5) = some (aI G 24 (nF ro)) := by rw [hF_88 (qa + 5) (by omega)]; exact hm_41
    have hm_121 : M_83 (qa + 6) = some (aI G 24 (nF te)) := by rw [hF_88 (qa + 6) (by omega)]; exact hm_42
    have hm_122 : M_83 qs = some (cQuestion ad qs sq su) := by rw [hF_88 qs (by omega)]; exact hm_43
    have hm_123 : M_83 (qs + 1) = some (aI G 6 (nF kb)) := by rw [hF_88 (qs + 1) (by omega)]; exact hm_44
    have hm_124 : M_83 (qs + 2) = some (aZ G 6 (bF nb)) := by rw [hF_88 (qs + 2) (by omega)]; exact hm_45
    have hm_125 : M_83 (qs + 3) = some (aI G 6 (nF pb)) := by rw [hF_88 (qs + 3) (by omega)]; exact hm_46
    have hm_126 : M_83 (qs + 4) = some (aI G 6 (nF ab)) := by rw [hF_88 (qs + 4) (by omega)]; exact hm_47
    have hm_127 : M_83 (qs + 5) = some (aI G 24 (nF rbb)) := by rw [hF_88 (qs + 5) (by omega)]; exact hm_48
    have hm_128 : M_83 (qs + 6) = some (aI G 24 (nF tbb)) := by rw [hF_88 (qs + 6) (by omega)]; exact hm_49
    have hm_129 : M_83 61 = some (aI G 36 (nF le)) := by rw [hF_88 61 (by omega)]; exact hm_51
    have hm_130 : M_83 62 = some (aI G 36 (nF mo)) := by rw [hF_88 62 (by omega)]; exact hm_52
    have hm_131 : M_83 63 = some (aI G 36 (nF al)) := by rw [hF_88 63 (by omega)]; exact hm_53
    have hm_132 : M_83 64 = some (aZ G 6 (bF ho)) := by rw [hF_88 64 (by omega)]; exact hm_54
    have hm_133 : M_83 65 = some (aI G 120 (nF mk)) := by rw [hF_88 65 (by omega)]; exact hm_55
    have hm_134 : M_83 66 = some (aI G 120 mf) := by rw [hF_88 66 (by omega)]; exact hm_56
    have hm_135 : M_83 67 = some (aI G 120 mu) := by rw [hF_88 67 (by omega)]; exact hm_57
    have hm_136 : M_83 68 = some (aI G 121 (nF mz)) := by rw [hF_88 68 (by omega)]; exact hm_58
    have hm_137 : M_83 69 = some (aI G 726 (nF rr)) := by rw [hF_88 69 (by omega)]; exact hm_59
    have hm_138 : M_83 70 = some (aI G 726 (nF ee)) := by rw [hF_88 70 (by omega)]; exact hm_60
    have hm_139 : M_83 71 = some (aI G 40 (nF lst)) := by rw [hF_88 71 (by omega)]; exact hm_61
    have hm_140 : M_83 72 = some (aI G 40 (nF oa)) := by rw [hF_88 72 (by omega)]; exact hm_62
    have hm_141 : M_83 73 = some (aI G 40 (nF ob)) := by rw [hF_88 73 (by omega)]; exact hm_63
    have hm_142 : M_83 74 = some (aI G 120 s74) := by rw [hF_88 74 (by omega)]; exact hm_64
    have hm_143 : M_83 75 = some (aI G 12 ak) := by rw [hF_88 75 (by omega)]; exact hm_65
    have hm_144 : M_83 76 = some (aZ G 12 (bF nm)) := by rw [hF_88 76 (by omega)]; exact hm_66
    have hm_145 : M_83 77 = some (aI G 12 (nF ap)) := by rw [hF_88 77 (by omega)]; exact hm_67
    have hm_146 : M_83 78 = some (aI G 48 pr) := by rw [hF_88 78 (by omega)]; exact hm_68
    have hm_147 : M_83 79 = some (aI G 48 pf) := by rw [hF_88 79 (by omega)]; exact hm_69
    have hm_148 : M_83 80 = some (aB G 400 tf) := by rw [hF_88 80 (by omega)]; exact hm_70
    have hm_149 : M_83 81 = some (aI G 5 fv) := by rw [hF_88 81 (by omega)]; exact hm_71
    have hm_150 : M_83 82 = some (aZ G 384000 (bF tr)) := by rw [hF_88 82 (by omega)]; exact hm_72
    have hm_151 : M_83 83 = some (aI G 3 (oF gv)) := by rw [hF_88 83 (by omega)]; exact hm_73
    have hm_152 : M_83 84 = some (aI G 3 fo) := by rw [hF_88 84 (by omega)]; exact hm_74
    have hm_153 : M_83 85 = some (aZ G 40 (bF re)) := by rw [hF_88 85 (by omega)]; exact hm_75
    have hm_154 : M_83 86 = some (aZ G 120 (bF us)) := by rw [hF_88 86 (by omega)]; exact hm_76
    have hm_155 : M_83 87 = some (aZ G 120 (bF nx)) := by rw [hF_88 87 (by omega)]; exact hm_77
    have hm_156 : M_83 99 = some (aJ G 1 of) := by rw [hF_88 99 (by omega)]; exact hm_78
    have hm_157 : M_83 16 = some (cLines ad ) := by rw [hF_88 16 (by omega)]; exact hm_79
    have hL_158 : LSm G ad M_83 n kd fm to sz rl en := hL_80.keep (fun j hj => hF_88 j (by omega))
    have hF_159 : ∀ j : Nat, j ≠ 60 → M_83 j = M j := fun j q0 => (hF_88 j q0).trans (hF_9 j )
    rw [hr_86]
    refine lv_istore (lv' := [(6, .int (nI 0)), (5, .int (nI 1)), (0, .ref b), (1, .ref (ad 0)), (2, .ref (ad 60)), (3, .ref (ad 99)), (4, .int (nI i))]) hx hb dL_law_812 hl (by decide) rfl (fun ls hl => ?_)
    refine lv_aload_n hx hb dL_law_814 rfl (lv_at hl 4 rfl) ?_
    refine k_Ri (va_runV (As := []) (rest := []) ⟨hx, hb, hml, hown, hts⟩ (c_X10_thrown l G z ad M_83 (th := 1) (ln := n) (on := jn) (ao := ao) (vr := vr) (sn := sn) (tp := len) (pt := pt) (zs := zs) (bg := bg) (fa := fw) hm_87) (cwV 0 hts (gV (lwg_of t_997 rfl) (lwg_of t_998 rfl) (lwg_of t_999 rfl) (lwg_of t_13 rfl) (lwg_of t_1000 rfl)) rfl rfl rfl (by decide +kernel) ⟨Nat.le_of_ble_eq_true rfl, Nat.le_of_ble_eq_true rfl⟩) (hI.preV hm_87 rfl) rfl rfl hl.1 rfl (lv_room (Nat.le_of_ble_eq_true rfl)) dL_law_815 ⟨(show _ ≤ (601024 : Nat) from by omega), (show _ ≤ (7293034 : Nat) from by omega)⟩) (fun _ h => h) (fun r_160 hp_161 => ?_)
    rw [hp_161]
    refine lv_iload hx hb dL_law_818 (lv_at hl 1 rfl) ?_
    refine lv_icmp_eq (tgt := 825) hx hb dL_law_820 (by decide) (fun c_162 => ?_) (fun c_162 => ?_)
    · -- 820: nI 1 eq
      refine lv_iload hx hb dL_law_825 (lv_at hl 1 rfl) ?_
      refine lv_if_ne (tgt := 842) hx hb dL_law_827 (by decide) (fun c_163 => ?_) (fun c_163 => ?_)
      · -- 827: nI 1 ne
        refine lv_goto (tgt := 1333) hx hb dL_law_842 (by decide) ?_
        refine W.widen (k := cz + 10) (n := sy + 300) (by omega) (by omega) ?_
        exact kk ad M_83 H_84 locs_85 ls n kd fm to sz rl en qa qs fw len tb le mo al ho jn hg lst jd s0 r0 th ol e0 mm9 ff lq ra rb rt rv qm pz sx ft rx dm rc ao vr kn nq pn av ro te sq su kb nb pb ab rbb tbb 1 sn pt zs bg mk mf mu mz rr ee oa ob s74 ak nm ap pr pf tf fv tr gv fo re us nx of hL_158 w1 w2 w3 w4 w5 w6 w7 w8 w9 w10 w11 w12 w13 w14 w15 w16 w17 w18 w19 w20 w21 w22 w23 w24 w25 w26 w27 w28 w29 (fun h9 => by rw [hF_159 17 (by omega), hF_159 18 (by omega)]; exact w30 h9) (by rw [hF_159 29 (by omega)]; exact w31) (fun j9 h9 => by rw [hF_159 j9 (by omega)]; exact w32 j9 h9) hm_89 hm_90 hm_91 hm_92 hm_93 hm_94 hm_95 hm_96 hm_97 hm_98 hm_99 hm_100 hm_101 hm_102 hm_103 hm_104 hm_105 hm_106 hm_107 hm_108 hm_109 hm_110 hm_111 hm_112 hm_113 hm_114 hm_115 hm_116 hm_117 hm_118 hm_119 hm_120 hm_121 hm_122 hm_123 hm_124 hm_125 hm_126 hm_127 hm_128 hm_87 hm_129 hm_130 hm_131 hm_132 hm_133 hm_134 hm_135 hm_136 hm_137 hm_138 hm_139 hm_140 hm_141 hm_142 hm_143 hm_144 hm_145 hm_146 hm_147 hm_148 hm_149 hm_150 hm_151 hm_152 hm_153 hm_154 hm_155 hm_156 hI (lv_sub hl [2, 3, 4, 5, 6] rfl)
      · -- 827: nI 1 eq
        exact absurd c_163 (by decide)
    · -- 820: nI 1 ne
      exact absurd (by decide) c_162
  · skip
    refine lv_aload_n hx hb dL_law_789 rfl (lv_at hl 1 rfl) ?_
    obtain ⟨t1, ht1, et1⟩ := hc_2
    refine lv_aload_n hx hb dL_law_790 rfl (lv_at hl 0 rfl) ?_
    refine lv_iload hx hb dL_law_791 (lv_at hl 4 rfl) ?_
    refine lv_iconst (v := nI 1) hx hb dL_law_793 (by decide) ?_
    refine lv_iadd hx hb dL_law_794 ?_
    refine n_eq (nI_add i 1) ?_
    refine va_sld (A := fr z) hx hb hX hbl hbz hI.S (vp_in_nI (n := i + 1) (by omega) (by omega)) dL_law_795 ?_
    rw [nI_clamp (by omega)]
    refine n_eq (show _ = nI t1 from et1) ?_
    refine lv_aload_n hx hb dL_law_796 rfl (lv_at hl 3 rfl) ?_
    refine k_Ni (vx_runSW (As := [.ref (ad 0), .int (nI t1), .ref (ad 99)]) (rest := []) ⟨hx, hb, hml, hown, hts⟩ (c_L_as l hst G z ad M (qa := qa) (qs := qs) (fw := fw) (jn := jn) (lst := lst) (t := t1) (of := of) f_0 f_8 f_10 f_99 ht1) (vx_cwSW 3 hts (gSW (lwg_of t_847 rfl) (lwg_of t_848 rfl) (lwg_of t_0 rfl) (lwg_of t_849 rfl)) rfl rfl rfl (by decide +kernel) ⟨Nat.le_of_ble_eq_true rfl, Nat.le_of_ble_eq_true rfl⟩) hI.preS rfl rfl hl.1 rfl (lv_room (Nat.le_of_ble_eq_true rfl)) dL_law_797 ⟨(show _ ≤ (601024 : Nat) from by omega), (show _ ≤ (7293034 : Nat) from by omega)⟩) hI (fun r_164 M_166 H_167 locs_168 hp_165 hI => ?_)
    obtain ⟨hr_169, hm_170, hF_171⟩ := hp_165
    have hm_172 : M_166 0 = some (cStore ad qa qs fw) := by rw [hF_171 0 (by omega)]; exact f_0
    have hm_173 : M_166 1 = some (cTape ad len) := by rw [hF_171 1 (by omega)]; exact f_1
    have hm_174 : M_166 2 = some (aI G 400 (nF tb)) := by rw [hF_171 2 (by omega)]; exact f_2
    have hm_175 : M_166 3 = some (cLaws ad ) := by rw [hF_171 3 (by omega)]; exact f_3
    have hm_176 : M_166 4 = some (aI G 36 (nF le)) := by rw [hF_171 4 (by omega)]; exact f_4
    have hm_177 : M_166 5 = some (aI G 36 (nF mo)) := by rw [hF_171 5 (by omega)]; exact f_5
    have hm_178 : M_166 6 = some (aI G 36 (nF al)) := by rw [hF_171 6 (by omega)]; exact f_6
    have hm_179 : M_166 7 = some (aZ G 6 (bF ho)) := by rw [hF_171 7 (by omega)]; exact f_7
    have hm_180 : M_166 8 = some (cOnes ad jn) := by rw [hF_171 8 (by omega)]; exact f_8
    have hm_181 : M_166 9 = some (aI G 40 (nF hg)) := by rw [hF_171 9 (by omega)]; exact f_9
    have hm_182 : M_166 10 = some (aI G 40 (nF lst)) := by rw [hF_171 10 (by omega)]; exact f_10
    have hm_183 : M_166 11 = some (aI G 40 (nF jd)) := by rw [hF_171 11 (by omega)]; exact f_11
    have hm_184 : M_166 12 = some (cEnds ad 12 s0) := by rw [hF_171 12 (by omega)]; exact f_12
    have hm_185 : M_166 13 = some (aI G 6 (nF r0)) := by rw [hF_171 13 (by omega)]; exact f_13
    have hm_186 : M_166 14 = some (aI G 6 (oF th)) := by rw [hF_171 14 (by omega)]; exact f_14
    have hm_187 : M_166 15 = some (aI G 6 (oF ol)) := by rw [hF_171 15 (by omega)]; exact f_15
    have hm_188 : M_166 19 = some (aZ G 120 (bF mm9)) := by rw [hF_171 19 (by omega)]; exact f_19
    have hm_189 : M_166 20 = some (aI G 120 ff) := by rw [hF_171 20 (by omega)]; exact f_20
    have hm_190 : M_166 21 = some (aI G 120 lq) := by rw [hF_171 21 (by omega)]; exact f_21
    have hm_191 : M_166 22 = some (cReader ad ra rb rt rv) := by rw [hF_171 22 (by omega)]; exact f_22
    have hm_192 : M_166 23 = some (cMatcher ad qm pz) := by rw [hF_171 23 (by omega)]; exact f_23
    have hm_193 : M_166 24 = some (aJ G 2160 sx) := by rw [hF_171 24 (by omega)]; exact f_24
    have hm_194 : M_166 25 = some (aI G 6 (nF ft)) := by rw [hF_171 25 (by omega)]; exact f_25
    have hm_195 : M_166 26 = some (aJ G 240 rx) := by rw [hF_171 26 (by omega)]; exact f_26
    have hm_196 : M_166 27 = some (aJ G 3 dm) := by rw [hF_171 27 (by omega)]; exact f_27
    have hm_197 : M_166 28 = some (aI G 3 rc) := by rw [hF_171 28 (by omega)]; exact f_28
    have hm_198 : M_166 qa = some (cQuestion ad qa ao vr) := by rw [hF_171 qa (by omega)]; exact f_qa
    have hm_199 : M_166 (qa + 1) = some (aI G 6 (nF kn)) := by rw [hF_171 (qa + 1) (by omega)]; exact f_qa_1
    have hm_200 : M_166 (qa + 2) = some (aZ G 6 (bF nq)) := by rw [hF_171 (qa + 2) (by omega)]; exact f_qa_2
    have hm_201 : M_166 (qa + 3) = some (aI G 6 (nF pn)) := by rw [hF_171 (qa + 3) (by omega)]; exact f_qa_3
    have hm_202 : M_166 (qa + 4) = some (aI G 6 (nF av)) := by rw [hF_171 (qa + 4) (by omega)]; exact f_qa_4
    have hm_203 : M_166 (qa + 5) = some (aI G 24 (nF ro)) := by rw [hF_171 (qa + 5) (by omega)]; exact f_qa_5
    have hm_204 : M_166 (qa + 6) = some (aI G 24 (nF te)) := by rw [hF_171 (qa + 6) (by omega)]; exact f_qa_6
    have hm_205 : M_166 qs = some (cQuestion ad qs sq su) := by rw [hF_171 qs (by omega)]; exact f_qs
    have hm_206 : M_166 (qs + 1) = some (aI G 6 (nF kb)) := by rw [hF_171 (qs + 1) (by omega)]; exact f_qs_1
    have hm_207 : M_166 (qs + 2) = some (aZ G 6 (bF nb)) := by rw [hF_171 (qs + 2) (by omega)]; exact f_qs_2
    have hm_208 : M_166 (qs + 3) = some (aI G 6 (nF pb)) := by rw [hF_171 (qs + 3) (by omega)]; exact f_qs_3
    have hm_209 : M_166 (qs + 4) = some (aI G 6 (nF ab)) := by rw [hF_171 (qs + 4) (by omega)]; exact f_qs_4
    have hm_210 : M_166 (qs + 5) = some (aI G 24 (nF rbb)) := by rw [hF_171 (qs + 5) (by omega)]; exact f_qs_5
    have hm_211 : M_166 (qs + 6) = some (aI G 24 (nF tbb)) := by rw [hF_171 (qs + 6) (by omega)]; exact f_qs_6
    have hm_212 : M_166 60 = some (cModel ad tw n jn ao vr sn len pt zs bg fw) := by rw [hF_171 60 (by omega)]; exact f_60
    have hm_213 : M_166 61 = some (aI G 36 (nF le)) := by rw [hF_171 61 (by omega)]; exact f_61
    have hm_214 : M_166 62 = some (aI G 36 (nF mo)) := by rw [hF_171 62 (by omega)]; exact f_62
    have hm_215 : M_166 63 = some (aI G 36 (nF al)) := by rw [hF_171 63 (by omega)]; exact f_63
    have hm_216 : M_166 64 = some (aZ G 6 (bF ho)) := by rw [hF_171 64 (by omega)]; exact f_64
    have hm_217 : M_166 65 = some (aI G 120 (nF mk)) := by rw [hF_171 65 (by omega)]; exact f_65
    have hm_218 : M_166 66 = some (aI G 120 mf) := by rw [hF_171 66 (by omega)]; exact f_66
    have hm_219 : M_166 67 = some (aI G 120 mu) := by rw [hF_171 67 (by omega)]; exact f_67
    have hm_220 : M_166 68 = some (aI G 121 (nF mz)) := by rw [hF_171 68 (by omega)]; exact f_68
    have hm_221 : M_166 69 = some (aI G 726 (nF rr)) := by rw [hF_171 69 (by omega)]; exact f_69
    have hm_222 : M_166 70 = some (aI G 726 (nF ee)) := by rw [hF_171 70 (by omega)]; exact f_70
    have hm_223 : M_166 71 = some (aI G 40 (nF lst)) := by rw [hF_171 71 (by omega)]; exact f_71
    have hm_224 : M_166 72 = some (aI G 40 (nF oa)) := by rw [hF_171 72 (by omega)]; exact f_72
    have hm_225 : M_166 73 = some (aI G 40 (nF ob)) := by rw [hF_171 73 (by omega)]; exact f_73
    have hm_226 : M_166 74 = some (aI G 120 s74) := by rw [hF_171 74 (by omega)]; exact f_74
    have hm_227 : M_166 75 = some (aI G 12 ak) := by rw [hF_171 75 (by omega)]; exact f_75
    have hm_228 : M_166 76 = some (aZ G 12 (bF nm)) := by rw [hF_171 76 (by omega)]; exact f_76
    have hm_229 : M_166 77 = some (aI G 12 (nF ap)) := by rw [hF_171 77 (by omega)]; exact f_77
    have hm_230 : M_166 78 = some (aI G 48 pr) := by rw [hF_171 78 (by omega)]; exact f_78
    have hm_231 : M_166 79 = some (aI G 48 pf) := by rw [hF_171 79 (by omega)]; exact f_79
    have hm_232 : M_166 80 = some (aB G 400 tf) := by rw [hF_171 80 (by omega)]; exact f_80
    have hm_233 : M_166 81 = some (aI G 5 fv) := by rw [hF_171 81 (by omega)]; exact f_81
    have hm_234 : M_166 82 = some (aZ G 384000 (bF tr)) := by rw [hF_171 82 (by omega)]; exact f_82
    have hm_235 : M_166 83 = some (aI G 3 (oF gv)) := by rw [hF_171 83 (by omega)]; exact f_83
    have hm_236 : M_166 84 = some (aI G 3 fo) := by rw [hF_171 84 (by omega)]; exact f_84
    have hm_237 : M_166 85 = some (aZ G 40 (bF re)) := by rw [hF_171 85 (by omega)]; exact f_85
    have hm_238 : M_166 86 = some (aZ G 120 (bF us)) := by rw [hF_171 86 (by omega)]; exact f_86
    have hm_239 : M_166 87 = some (aZ G 120 (bF nx)) := by rw [hF_171 87 (by omega)]; exact f_87
    have hm_240 : M_166 16 = some (cLines ad ) := by rw [hF_171 16 (by omega)]; exact h16
    have hL_241 : LSm G ad M_166 n kd fm to sz rl en := fL.keep (fun j hj => hF_171 j (by omega))
    have hF_242 : ∀ j : Nat, j ≠ 99 → M_166 j = M j := fun j q0 => (hF_171 j q0)
    rw [hr_169]
    refine lv_istore (lv' := [(5, .int (nI 0)), (0, .ref b), (1, .ref (ad 0)), (2, .ref (ad 60)), (3, .ref (ad 99)), (4, .int (nI i))]) hx hb dL_law_800 hl (by decide) rfl (fun ls hl => ?_)
    refine lv_aload_n hx hb dL_law_802 rfl (lv_at hl 3 rfl) ?_
    refine lv_aload_n hx hb dL_law_803 rfl (lv_at hl 1 rfl) ?_
    refine lv_iload hx hb dL_law_804 (lv_at hl 5 rfl) ?_
    refine lv_iconst (v := nI 1) hx hb dL_law_806 (by decide) ?_
    refine lv_iadd hx hb dL_law_807 ?_
    refine n_eq (nI_add i 1) ?_
    refine va_sld (A := fr z) hx hb hX hbl hbz hI.S (vp_in_nI (n := i + 1) (by omega) (by omega)) dL_law_808 ?_
    rw [nI_clamp (by omega)]
    refine n_eq (show _ = nI t1 from et1) ?_
    refine k_Ni (va_runV (As := [.int (nI t1)]) (rest := []) ⟨hx, hb, hml, hown, hts⟩ (c_X10_as l G z ad M_166 (th := tw) (ln := n) (on := jn) (ao := ao) (vr := vr) (sn := sn) (tp := len) (pt := pt) (zs := zs) (bg := bg) (fa := fw) (lst := lst) (t := t1) hm_212 hm_223 ht1) (cwV 1 hts (gV (lwg_of t_1209 rfl) (lwg_of t_1210 rfl) (lwg_of t_1211 rfl) (lwg_of t_13 rfl) (lwg_of t_1212 rfl)) rfl rfl rfl (by decide +kernel) ⟨Nat.le_of_ble_eq_true rfl, Nat.le_of_ble_eq_true rfl⟩) (hI.preV hm_212 rfl) rfl rfl hl.1 rfl (lv_room (Nat.le_of_ble_eq_true rfl)) dL_law_809 ⟨(show _ ≤ (601024 : Nat) from by omega), (show _ ≤ (7293034 : Nat) from by omega)⟩) hI (fun r_243 M_245 H_246 locs_247 hp_244 hI => ?_)
    obtain ⟨hr_248, hm_249, hF_250⟩ := hp_244
    have hm_251 : M_245 0 = some (cStore ad qa qs fw) := by rw [hF_250 0 (by omega)]; exact hm_172
    have hm_252 : M_245 1 = some (cTape ad len) := by rw [hF_250 1 (by omega)]; exact hm_173
    have hm_253 : M_245 2 = some (aI G 400 (nF tb)) := by rw [hF_250 2 (by omega)]; exact hm_174
    have hm_254 : M_245 3 = some (cLaws ad ) := by rw [hF_250 3 (by omega)]; exact hm_175
    have hm_255 : M_245 4 = some (aI G 36 (nF le)) := by rw [hF_250 4 (by omega)]; exact hm_176
    have hm_256 : M_245 5 = some (aI G 36 (nF mo)) := by rw [hF_250 5 (by omega)]; exact hm_177
    have hm_257 : M_245 6 = some (aI G 36 (nF al)) := by rw [hF_250 6 (by omega)]; exact hm_178
    have hm_258 : M_245 7 = some (aZ G 6 (bF ho)) := by rw [hF_250 7 (by omega)]; exact hm_179
    have hm_259 : M_245 8 = some (cOnes ad jn) := by rw [hF_250 8 (by omega)]; exact hm_180
    have hm_260 : M_245 9 = some (aI G 40 (nF hg)) := by rw [hF_250 9 (by omega)]; exact hm_181
    have hm_261 : M_245 10 = some (aI G 40 (nF lst)) := by rw [hF_250 10 (by omega)]; exact hm_182
    have hm_262 : M_245 11 = some (aI G 40 (nF jd)) := by rw [hF_250 11 (by omega)]; exact hm_183
    have hm_263 : M_245 12 = some (cEnds ad 12 s0) := by rw [hF_250 12 (by omega)]; exact hm_184
    have hm_264 : M_245 13 = some (aI G 6 (nF r0)) := by rw [hF_250 13 (by omega)]; exact hm_185
    have hm_265 : M_245 14 = some (aI G 6 (oF th)) := by rw [hF_250 14 (by omega)]; exact hm_186
    have hm_266 : M_245 15 = some (aI G 6 (oF ol)) := by rw [hF_250 15 (by omega)]; exact hm_187
    have hm_267 : M_245 19 = some (aZ G 120 (bF mm9)) := by rw [hF_250 19 (by omega)]; exact hm_188
    have hm_268 : M_245 20 = some (aI G 120 ff) := by rw [hF_250 20 (by omega)]; exact hm_189
    have hm_269 : M_245 21 = some (aI G 120 lq) := by rw [hF_250 21 (by omega)]; exact hm_190
    have hm_270 : M_245 22 = some (cReader ad ra rb rt rv) := by rw [hF_250 22 (by omega)]; exact hm_191
    have hm_271 : M_245 23 = some (cMatcher ad qm pz) := by rw [hF_250 23 (by omega)]; exact hm_192
    have hm_272 : M_245 24 = some (aJ G 2160 sx) := by rw [hF_250 24 (by omega)]; exact hm_193
    have hm_273 : M_245 25 = some (aI G 6 (nF ft)) := by rw [hF_250 25 (by omega)]; exact hm_194
    have hm_274 : M_245 26 = some (aJ G 240 rx) := by rw [hF_250 26 (by omega)]; exact hm_195
    have hm_275 : M_245 27 = some (aJ G 3 dm) := by rw [hF_250 27 (by omega)]; exact hm_196
    have hm_276 : M_245 28 = some (aI G 3 rc) := by rw [hF_250 28 (by omega)]; exact hm_197
    have hm_277 : M_245 qa = some (cQuestion ad qa ao vr) := by rw [hF_250 qa (by omega)]; exact hm_198
    have hm_278 : M_245 (qa + 1) = some (aI G 6 (nF kn)) := by rw [hF_250 (qa + 1) (by omega)]; exact hm_199
    have hm_279 : M_245 (qa + 2) = some (aZ G 6 (bF nq)) := by rw [hF_250 (qa + 2) (by omega)]; exact hm_200
    have hm_280 : M_245 (qa + 3) = some (aI G 6 (nF pn)) := by rw [hF_250 (qa + 3) (by omega)]; exact hm_201
    have hm_281 : M_245 (qa + 4) = some (aI G 6 (nF av)) := by rw [hF_250 (qa + 4) (by omega)]; exact hm_202
    have hm_282 : M_245 (qa + 5) = some (aI G 24 (nF ro)) := by rw [hF_250 (qa + 5) (by omega)]; exact hm_203
    have hm_283 : M_245 (qa + 6) = some (aI G 24 (nF te)) := by rw [hF_250 (qa + 6) (by omega)]; exact hm_204
    have hm_284 : M_245 qs = some (cQuestion ad qs sq su) := by rw [hF_250 qs (by omega)]; exact hm_205
    have hm_285 : M_245 (qs + 1) = some (aI G 6 (nF kb)) := by rw [hF_250 (qs + 1) (by omega)]; exact hm_206
    have hm_286 : M_245 (qs + 2) = some (aZ G 6 (bF nb)) := by rw [hF_250 (qs + 2) (by omega)]; exact hm_207
    have hm_287 : M_245 (qs + 3) = some (aI G 6 (nF pb)) := by rw [hF_250 (qs + 3) (by omega)]; exact hm_208
    have hm_288 : M_245 (qs + 4) = some (aI G 6 (nF ab)) := by rw [hF_250 (qs + 4) (by omega)]; exact hm_209
    have hm_289 : M_245 (qs + 5) = some (aI G 24 (nF rbb)) := by rw [hF_250 (qs + 5) (by omega)]; exact hm_210
    have hm_290 : M_245 (qs + 6) = some (aI G 24 (nF tbb)) := by rw [hF_250 (qs + 6) (by omega)]; exact hm_211
    have hm_291 : M_245 61 = some (aI G 36 (nF le)) := by rw [hF_250 61 (by omega)]; exact hm_213
    have hm_292 : M_245 62 = some (aI G 36 (nF mo)) := by rw [hF_250 62 (by omega)]; exact hm_214
    have hm_293 : M_245 63 = some (aI G 36 (nF al)) := by rw [hF_250 63 (by omega)]; exact hm_215
    have hm_294 : M_245 64 = some (aZ G 6 (bF ho)) := by rw [hF_250 64 (by omega)]; exact hm_216
    have hm_295 : M_245 65 = some (aI G 120 (nF mk)) := by rw [hF_250 65 (by omega)]; exact hm_217
    have hm_296 : M_245 66 = some (aI G 120 mf) := by rw [hF_250 66 (by omega)]; exact hm_218
    have hm_297 : M_245 67 = some (aI G 120 mu) := by rw [hF_250 67 (by omega)]; exact hm_219
    have hm_298 : M_245 68 = some (aI G 121 (nF mz)) := by rw [hF_250 68 (by omega)]; exact hm_220
    have hm_299 : M_245 69 = some (aI G 726 (nF rr)) := by rw [hF_250 69 (by omega)]; exact hm_221
    have hm_300 : M_245 70 = some (aI G 726 (nF ee)) := by rw [hF_250 70 (by omega)]; exact hm_222
    have hm_301 : M_245 71 = some (aI G 40 (nF lst)) := by rw [hF_250 71 (by omega)]; exact hm_223
    have hm_302 : M_245 72 = some (aI G 40 (nF oa)) := by rw [hF_250 72 (by omega)]; exact hm_224
    have hm_303 : M_245 73 = some (aI G 40 (nF ob)) := by rw [hF_250 73 (by omega)]; exact hm_225
    have hm_304 : M_245 74 = some (aI G 120 s74) := by rw [hF_250 74 (by omega)]; exact hm_226
    have hm_305 : M_245 75 = some (aI G 12 ak) := by rw [hF_250 75 (by omega)]; exact hm_227
    have hm_306 : M_245 76 = some (aZ G 12 (bF nm)) := by rw [hF_250 76 (by omega)]; exact hm_228
    have hm_307 : M_245 77 = some (aI G 12 (nF ap)) := by rw [hF_250 77 (by omega)]; exact hm_229
    have hm_308 : M_245 78 = some (aI G 48 pr) := by rw [hF_250 78 (by omega)]; exact hm_230
    have hm_309 : M_245 79 = some (aI G 48 pf) := by rw [hF_250 79 (by omega)]; exact hm_231
    have hm_310 : M_245 80 = some (aB G 400 tf) := by rw [hF_250 80 (by omega)]; exact hm_232
    have hm_311 : M_245 81 = some (aI G 5 fv) := by rw [hF_250 81 (by omega)]; exact hm_233
    have hm_312 : M_245 82 = some (aZ G 384000 (bF tr)) := by rw [hF_250 82 (by omega)]; exact hm_234
    have hm_313 : M_245 83 = some (aI G 3 (oF gv)) := by rw [hF_250 83 (by omega)]; exact hm_235
    have hm_314 : M_245 84 = some (aI G 3 fo) := by rw [hF_250 84 (by omega)]; exact hm_236
    have hm_315 : M_245 85 = some (aZ G 40 (bF re)) := by rw [hF_250 85 (by omega)]; exact hm_237
    have hm_316 : M_245 86 = some (aZ G 120 (bF us)) := by rw [hF_250 86 (by omega)]; exact hm_238
    have hm_317 : M_245 87 = some (aZ G 120 (bF nx)) := by rw [hF_250 87 (by omega)]; exact hm_239
    have hm_318 : M_245 99 = some (aJ G 1 (vp_updL of 0 ((nI (lst t1)).toInt64))) := by rw [hF_250 99 (by omega)]; exact hm_170
    have hm_319 : M_245 16 = some (cLines ad ) := by rw [hF_250 16 (by omega)]; exact hm_240
    have hL_320 : LSm G ad M_245 n kd fm to sz rl en := hL_241.keep (fun j hj => hF_250 j (by omega))
    have hF_321 : ∀ j : Nat, j ≠ 99 → j ≠ 60 → M_245 j = M j := fun j q0 q1 => (hF_250 j q1).trans (hF_242 j q0)
    rw [hr_248]
    refine lv_istore (lv' := [(6, .int (nI (lst t1))), (5, .int (nI 0)), (0, .ref b), (1, .ref (ad 0)), (2, .ref (ad 60)), (3, .ref (ad 99)), (4, .int (nI i))]) hx hb dL_law_812 hl (by decide) rfl (fun ls hl => ?_)
    refine lv_aload_n hx hb dL_law_814 rfl (lv_at hl 4 rfl) ?_
    refine k_Ri (va_runV (As := []) (rest := []) ⟨hx, hb, hml, hown, hts⟩ (c_X10_thrown l G z ad M_245 (th := 0) (ln := n) (on := jn) (ao := ao) (vr := vr) (sn := sn) (tp := len) (pt := pt) (zs := zs) (bg := bg) (fa := fw) hm_249) (cwV 0 hts (gV (lwg_of t_997 rfl) (lwg_of t_998 rfl) (lwg_of t_999 rfl) (lwg_of t_13 rfl) (lwg_of t_1000 rfl)) rfl rfl rfl (by decide +kernel) ⟨Nat.le_of_ble_eq_true rfl, Nat.le_of_ble_eq_true rfl⟩) (hI.preV hm_249 rfl) rfl rfl hl.1 rfl (lv_room (Nat.le_of_ble_eq_true rfl)) dL_law_815 ⟨(show _ ≤ (601024 : Nat) from by omega), (show _ ≤ (7293034 : Nat) from by omega)⟩) (fun _ h => h) (fun r_322 hp_323 => ?_)
    rw [hp_323]
    refine lv_iload hx hb dL_law_818 (lv_at hl 1 rfl) ?_
    refine lv_icmp_eq (tgt := 825) hx hb dL_law_820 (by decide) (fun c_324 => ?_) (fun c_324 => ?_)
    · -- 820: nI 0 eq
      refine lv_iload hx hb dL_law_825 (lv_at hl 1 rfl) ?_
      refine lv_if_ne (tgt := 842) hx hb dL_law_827 (by decide) (fun c_325 => ?_) (fun c_325 => ?_)
      · -- 827: nI 0 ne
        exact absurd (by decide) c_325
      · -- 827: nI 0 eq
        refine lv_aload_n hx hb dL_law_830 rfl (lv_at hl 5 rfl) ?_
        refine lv_iconst (v := nI 0) hx hb dL_law_831 (by decide) ?_
        refine h_lald (i := 0) hx hb hI hm_318 (by omega) (by decide) dL_law_832 ?_
        refine n_eql (show _ = (nI (lst t1)).toInt64 from updL_0) ?_
        refine lv_iload hx hb dL_law_833 (lv_at hl 0 rfl) ?_
        refine lv_i2l (v := (nI (lst t1)).toInt64) hx hb dL_law_835 rfl ?_
        refine W.lcmp hx hb dL_law_836 ?_
        refine lv_if_eq (tgt := 842) hx hb dL_law_837 (by decide) (fun c_326 => ?_) (fun c_326 => ?_)
        · -- 837: lg_cmp ((nI (lst t1)).toInt64) ((nI (lst t1)).toInt64) eq
          have c_326 : (nI (lst t1)).toInt64 = (nI (lst t1)).toInt64 := (lg_cmp_eq _ _).mp c_326
          refine lv_goto (tgt := 1333) hx hb dL_law_842 (by decide) ?_
          refine W.widen (k := cz + 10) (n := sy + 300) (by omega) (by omega) ?_
          exact kk ad M_245 H_246 locs_247 ls n kd fm to sz rl en qa qs fw len tb le mo al ho jn hg lst jd s0 r0 th ol e0 mm9 ff lq ra rb rt rv qm pz sx ft rx dm rc ao vr kn nq pn av ro te sq su kb nb pb ab rbb tbb 0 sn pt zs bg mk mf mu mz rr ee oa ob s74 ak nm ap pr pf tf fv tr gv fo re us nx (vp_updL of 0 ((nI (lst t1)).toInt64)) hL_320 w1 w2 w3 w4 w5 w6 w7 w8 w9 w10 w11 w12 w13 w14 w15 w16 w17 w18 w19 w20 w21 w22 w23 w24 w25 w26 w27 w28 w29 (fun h9 => by rw [hF_321 17 (by omega) (by omega), hF_321 18 (by omega) (by omega)]; exact w30 h9) (by rw [hF_321 29 (by omega) (by omega)]; exact w31) (fun j9 h9 => by rw [hF_321 j9 (by omega) (by omega)]; exact w32 j9 h9) hm_251 hm_252 hm_253 hm_254 hm_255 hm_256 hm_257 hm_258 hm_259 hm_260 hm_261 hm_262 hm_263 hm_264 hm_265 hm_266 hm_267 hm_268 hm_269 hm_270 hm_271 hm_272 hm_273 hm_274 hm_275 hm_276 hm_277 hm_278 hm_279 hm_280 hm_281 hm_282 hm_283 hm_284 hm_285 hm_286 hm_287 hm_288 hm_289 hm_290 hm_249 hm_291 hm_292 hm_293 hm_294 hm_295 hm_296 hm_297 hm_298 hm_299 hm_300 hm_301 hm_302 hm_303 hm_304 hm_305 hm_306 hm_307 hm_308 hm_309 hm_310 hm_311 hm_312 hm_313 hm_314 hm_315 hm_316 hm_317 hm_318 hI (lv_sub hl [2, 3, 4, 5, 6] rfl)
        · -- 837: lg_cmp ((nI (lst t1)).toInt64) ((nI (lst t1)).toInt64) ne
          have c_326 : (nI (lst t1)).toInt64 ≠ (nI (lst t1)).toInt64 := (fun h => c_326 ((lg_cmp_eq _ _).mpr h))
          exact absurd rfl c_326
    · -- 820: nI 0 ne
      exact absurd (by decide) c_324

set_option maxHeartbeats 8000000 in
set_option maxRecDepth 100000 in
theorem law_18 {p : Program} {l : Launch} {e : Env} {s : State} {m : MethodId} {below : List Frame} {meth : Method} {c : Code} {b L : Nat} {xs : Nat → Int32} {Q : State → Prop} {G : GG} {z : Nat} {ad : Nat → Nat} {M : Mem} {H : Heap} {locs : List Loc} {ls : Array Slot} {i cz sy : Nat} (hst : l.stackTraces = false) (hx : p.tables.exec = Jvm.exec) (hb : c.code = code) (hml : c.maxLocals = 7) (hown : s.vm.findClass RL = some m.cls) {cx : Cond} (hts : ∀ w ∈ cx :: lwg, w.before #[Value.ref b] s = true) (hX : va_X b L xs s s.heap) (hbl : b < s.heap.size) (hbz : ¬ z ≤ b) (hI : Iv G z ad M s H locs) (hl : lv_has ls 7 [(0, .ref b), (1, .ref (ad 0)), (2, .ref (ad 60)), (3, .ref (ad 99)), (4, .int (nI i))]) (hiL : i + 6 ≤ L) (hL : L ≤ 3072) (hcz : cz + 10 ≤ 601024) (hsy : sy + 300 ≤ 7293034) {n : Nat} {kd : Nat → Nat} {fm : Nat → Int32} {to : Nat → Int32} {sz : Nat → Nat} {rl : Nat → Nat → Nat} {en : Nat → Nat → Nat} {qa : Nat} {qs : Nat} {fw : Int32} {len : Nat} {tb : Nat → Nat} {le : Nat → Nat} {mo : Nat → Nat} {al : Nat → Nat} {ho : Nat → Bool} {jn : Nat} {hg : Nat → Nat} {lst : Nat → Nat} {jd : Nat → Nat} {s0 : Nat} {r0 : Nat → Nat} {th : Nat → Option Nat} {ol : Nat → Option Nat} {e0 : Nat → Nat} {mm9 : Nat → Bool} {ff : Nat → Int32} {lq : Nat → Int32} {ra : Nat} {rb : Nat} {rt : Int32} {rv : Int32} {qm : Nat} {pz : Nat} {sx : Nat → Int64} {ft : Nat → Nat} {rx : Nat → Int64} {dm : Nat → Int64} {rc : Nat → Int32} {ao : Nat} {vr : Nat} {kn : Nat → Nat} {nq : Nat → Bool} {pn : Nat → Nat} {av : Nat → Nat} {ro : Nat → Nat} {te : Nat → Nat} {sq : Nat} {su : Nat} {kb : Nat → Nat} {nb : Nat → Bool} {pb : Nat → Nat} {ab : Nat → Nat} {rbb : Nat → Nat} {tbb : Nat → Nat} {tw : Nat} {sn : Nat} {pt : Nat} {zs : Nat} {bg : Nat} {mk : Nat → Nat} {mf : Nat → Int32} {mu : Nat → Int32} {mz : Nat → Nat} {rr : Nat → Nat} {ee : Nat → Nat} {oa : Nat → Nat} {ob : Nat → Nat} {s74 : Nat → Int32} {ak : Nat → Int32} {nm : Nat → Bool} {ap : Nat → Nat} {pr : Nat → Int32} {pf : Nat → Int32} {tf : Nat → Int32} {fv : Nat → Int32} {tr : Nat → Bool} {gv : Nat → Option Nat} {fo : Nat → Int32} {re : Nat → Bool} {us : Nat → Bool} {nx : Nat → Bool} {of : Nat → Int64} (fL : LSm G ad M n kd fm to sz rl en) (w1 : LSw n kd sz rl en) (w2 : MRel n kd fm to sz rl en mk mf mu mz rr ee) (w3 : JI jn hg lst jd oa ob) (w4 : len ≤ 400) (w5 : ∀ j, j < len → tb j < 256) (w6 : ∀ j, j < len → tf j = sB (tb j)) (w7 : s0 ≤ 6) (w8 : mz 120 = s0) (w9 : ∀ j, j < s0 → rr (720 + j) = r0 j ∧ ee (720 + j) = e0 j) (w10 : ∀ j, j < s0 → r0 j < 6) (w11 : ∀ j, j < s0 → e0 j < 40 + n) (w12 : ∀ j, j < s0 → th j = thE e0 j) (w13 : ∀ j, j < s0 → ol j = olE e0 j) (w14 : ∀ j, j < 36 → le j < 100) (w15 : ∀ j, j < 36 → mo j < 100) (w16 : ∀ j, j < 36 → al j ≤ 100) (w17 : ∀ i, i < n → (0 : Int32) ≤ fm i) (w18 : ∀ i, i < n → ∀ k, hgs sz en i k = true → fm k ≤ fm i) (w19 : ao ≤ 6) (w20 : vr < 8) (w21 : ∀ i, i < ao → ap i ≤ 4 ∧ (ak i = nI (kn i) ∧ kn i < 6) ∧ ∀ p8, p8 < ap i → (pr (4 * i + p8) = nI (ro (i * 4 + p8)) ∧ ro (i * 4 + p8) < 6) ∧ te (i * 4 + p8) < 43 ∧ pf (4 * i + p8) = tmI (te (i * 4 + p8))) (w22 : ∀ i, i < ao → nm i = nq i ∧ ap i = pn i) (w23 : ∀ i, i < ao → av i < 8) (w24 : ∀ i, i < ao → (av i).testBit 0 = false → ∀ p9, p9 < pn i → te (i * 4 + p9) ≠ 40) (w25 : ∀ v, v < 3 → vr.testBit v = true → ∃ i, i < ao ∧ nq i = false ∧ ∃ k, k < pn i ∧ te (i * 4 + k) = 40 + v) (w26 : 29 < qa ∧ qa < 38) (w27 : 29 < qs ∧ qs < 38) (w28 : qa + 7 ≤ qs ∨ qs + 7 ≤ qa) (w29 : 29 < qm ∧ qm < 51) (w30 : n = 0 → (∃ mcn : Int32, M 17 = some (cList ad mcn G.2.2.2.2 0)) ∧ M 18 = none) (w31 : M 29 = none) (w32 : ∀ j, 100 + 5 * n ≤ j → M j = none) (f_0 : M 0 = some (cStore ad qa qs fw)) (f_1 : M 1 = some (cTape ad len)) (f_2 : M 2 = some (aI G 400 (nF tb))) (f_3 : M 3 = some (cLaws ad )) (f_4 : M 4 = some (aI G 36 (nF le))) (f_5 : M 5 = some (aI G 36 (nF mo))) (f_6 : M 6 = some (aI G 36 (nF al))) (f_7 : M 7 = some (aZ G 6 (bF ho))) (f_8 : M 8 = some (cOnes ad jn)) (f_9 : M 9 = some (aI G 40 (nF hg))) (f_10 : M 10 = some (aI G 40 (nF lst))) (f_11 : M 11 = some (aI G 40 (nF jd))) (f_12 : M 12 = some (cEnds ad 12 s0)) (f_13 : M 13 = some (aI G 6 (nF r0))) (f_14 : M 14 = some (aI G 6 (oF th))) (f_15 : M 15 = some (aI G 6 (oF ol))) (f_19 : M 19 = some (aZ G 120 (bF mm9))) (f_20 : M 20 = some (aI G 120 ff)) (f_21 : M 21 = some (aI G 120 lq)) (f_22 : M 22 = some (cReader ad ra rb rt rv)) (f_23 : M 23 = some (cMatcher ad qm pz)) (f_24 : M 24 = some (aJ G 2160 sx)) (f_25 : M 25 = some (aI G 6 (nF ft))) (f_26 : M 26 = some (aJ G 240 rx)) (f_27 : M 27 = some (aJ G 3 dm)) (f_28 : M 28 = some (aI G 3 rc)) (f_qa : M qa = some (cQuestion ad qa ao vr)) (f_qa_1 : M (qa + 1) = some (aI G 6 (nF kn))) (f_qa_2 : M (qa + 2) = some (aZ G 6 (bF nq))) (f_qa_3 : M (qa + 3) = some (aI G 6 (nF pn))) (f_qa_4 : M (qa + 4) = some (aI G 6 (nF av))) (f_qa_5 : M (qa + 5) = some (aI G 24 (nF ro))) (f_qa_6 : M (qa + 6) = some (aI G 24 (nF te))) (f_qs : M qs = some (cQuestion ad qs sq su)) (f_qs_1 : M (qs + 1) = some (aI G 6 (nF kb))) (f_qs_2 : M (qs + 2) = some (aZ G 6 (bF nb))) (f_qs_3 : M (qs + 3) = some (aI G 6 (nF pb))) (f_qs_4 : M (qs + 4) = some (aI G 6 (nF ab))) (f_qs_5 : M (qs + 5) = some (aI G 24 (nF rbb))) (f_qs_6 : M (qs + 6) = some (aI G 24 (nF tbb))) (f_60 : M 60 = some (cModel ad tw n jn ao vr sn len pt zs bg fw)) (f_61 : M 61 = some (aI G 36 (nF le))) (f_62 : M 62 = some (aI G 36 (nF mo))) (f_63 : M 63 = some (aI G 36 (nF al))) (f_64 : M 64 = some (aZ G 6 (bF ho))) (f_65 : M 65 = some (aI G 120 (nF mk))) (f_66 : M 66 = some (aI G 120 mf)) (f_67 : M 67 = some (aI G 120 mu)) (f_68 : M 68 = some (aI G 121 (nF mz))) (f_69 : M 69 = some (aI G 726 (nF rr))) (f_70 : M 70 = some (aI G 726 (nF ee))) (f_71 : M 71 = some (aI G 40 (nF lst))) (f_72 : M 72 = some (aI G 40 (nF oa))) (f_73 : M 73 = some (aI G 40 (nF ob))) (f_74 : M 74 = some (aI G 120 s74)) (f_75 : M 75 = some (aI G 12 ak)) (f_76 : M 76 = some (aZ G 12 (bF nm))) (f_77 : M 77 = some (aI G 12 (nF ap))) (f_78 : M 78 = some (aI G 48 pr)) (f_79 : M 79 = some (aI G 48 pf)) (f_80 : M 80 = some (aB G 400 tf)) (f_81 : M 81 = some (aI G 5 fv)) (f_82 : M 82 = some (aZ G 384000 (bF tr))) (f_83 : M 83 = some (aI G 3 (oF gv))) (f_84 : M 84 = some (aI G 3 fo)) (f_85 : M 85 = some (aZ G 40 (bF re))) (f_86 : M 86 = some (aZ G 120 (bF us))) (f_87 : M 87 = some (aZ G 120 (bF nx))) (f_99 : M 99 = some (aJ G 1 of)) (kk : ∀ (ad1 : Nat → Nat) (M1 : Mem) (H1 : Heap) (locs1 : List Loc) (ls1 : Array Slot) (n : Nat) (kd : Nat → Nat) (fm : Nat → Int32) (to : Nat → Int32) (sz : Nat → Nat) (rl : Nat → Nat → Nat) (en : Nat → Nat → Nat) (qa : Nat) (qs : Nat) (fw : Int32) (len : Nat) (tb : Nat → Nat) (le : Nat → Nat) (mo : Nat → Nat) (al : Nat → Nat) (ho : Nat → Bool) (jn : Nat) (hg : Nat → Nat) (lst : Nat → Nat) (jd : Nat → Nat) (s0 : Nat) (r0 : Nat → Nat) (th : Nat → Option Nat) (ol : Nat → Option Nat) (e0 : Nat → Nat) (mm9 : Nat → Bool) (ff : Nat → Int32) (lq : Nat → Int32) (ra : Nat) (rb : Nat) (rt : Int32) (rv : Int32) (qm : Nat) (pz : Nat) (sx : Nat → Int64) (ft : Nat → Nat) (rx : Nat → Int64) (dm : Nat → Int64) (rc : Nat → Int32) (ao : Nat) (vr : Nat) (kn : Nat → Nat) (nq : Nat → Bool) (pn : Nat → Nat) (av : Nat → Nat) (ro : Nat → Nat) (te : Nat → Nat) (sq : Nat) (su : Nat) (kb : Nat → Nat) (nb : Nat → Bool) (pb : Nat → Nat) (ab : Nat → Nat) (rbb : Nat → Nat) (tbb : Nat → Nat) (tw : Nat) (sn : Nat) (pt : Nat) (zs : Nat) (bg : Nat) (mk : Nat → Nat) (mf : Nat → Int32) (mu : Nat → Int32) (mz : Nat → Nat) (rr : Nat → Nat) (ee : Nat → Nat) (oa : Nat → Nat) (ob : Nat → Nat) (s74 : Nat → Int32) (ak : Nat → Int32) (nm : Nat → Bool) (ap : Nat → Nat) (pr : Nat → Int32) (pf : Nat → Int32) (tf : Nat → Int32) (fv : Nat → Int32) (tr : Nat → Bool) (gv : Nat → Option Nat) (fo : Nat → Int32) (re : Nat → Bool) (us : Nat → Bool) (nx : Nat → Bool) (of : Nat → Int64), (LSm G ad1 M1 n kd fm to sz rl en) → (LSw n kd sz rl en) → (MRel n kd fm to sz rl en mk mf mu mz rr ee) → (JI jn hg lst jd oa ob) → (len ≤ 400) → (∀ j, j < len → tb j < 256) → (∀ j, j < len → tf j = sB (tb j)) → (s0 ≤ 6) → (mz 120 = s0) → (∀ j, j < s0 → rr (720 + j) = r0 j ∧ ee (720 + j) = e0 j) → (∀ j, j < s0 → r0 j < 6) → (∀ j, j < s0 → e0 j < 40 + n) → (∀ j, j < s0 → th j = thE e0 j) → (∀ j, j < s0 → ol j = olE e0 j) → (∀ j, j < 36 → le j < 100) → (∀ j, j < 36 → mo j < 100) → (∀ j, j < 36 → al j ≤ 100) → (∀ i, i < n → (0 : Int32) ≤ fm i) → (∀ i, i < n → ∀ k, hgs sz en i k = true → fm k ≤ fm i) → (ao ≤ 6) → (vr < 8) → (∀ i, i < ao → ap i ≤ 4 ∧ (ak i = nI (kn i) ∧ kn i < 6) ∧ ∀ p8, p8 < ap i → (pr (4 * i + p8) = nI (ro (i * 4 + p8)) ∧ ro (i * 4 + p8) < 6) ∧ te (i * 4 + p8) < 43 ∧ pf (4 * i + p8) = tmI (te (i * 4 + p8))) → (∀ i, i < ao → nm i = nq i ∧ ap i = pn i) → (∀ i, i < ao → av i < 8) → (∀ i, i < ao → (av i).testBit 0 = false → ∀ p9, p9 < pn i → te (i * 4 + p9) ≠ 40) → (∀ v, v < 3 → vr.testBit v = true → ∃ i, i < ao ∧ nq i = false ∧ ∃ k, k < pn i ∧ te (i * 4 + k) = 40 + v) → (29 < qa ∧ qa < 38) → (29 < qs ∧ qs < 38) → (qa + 7 ≤ qs ∨ qs + 7 ≤ qa) → (29 < qm ∧ qm < 51) → (n = 0 → (∃ mcn : Int32, M1 17 = some (cList ad1 mcn G.2.2.2.2 0)) ∧ M1 18 = none) → (M1 29 = none) → (∀ j, 100 + 5 * n ≤ j → M1 j = none) → (M1 0 = some (cStore ad1 qa qs fw)) → (M1 1 = some (cTape ad1 len)) → (M1 2 = some (aI G 400 (nF tb))) → (M1 3 = some (cLaws ad1 )) → (M1 4 = some (aI G 36 (nF le))) → (M1 5 = some (aI G 36 (nF mo))) → (M1 6 = some (aI G 36 (nF al))) → (M1 7 = some (aZ G 6 (bF ho))) → (M1 8 = some (cOnes ad1 jn)) → (M1 9 = some (aI G 40 (nF hg))) → (M1 10 = some (aI G 40 (nF lst))) → (M1 11 = some (aI G 40 (nF jd))) → (M1 12 = some (cEnds ad1 12 s0)) → (M1 13 = some (aI G 6 (nF r0))) → (M1 14 = some (aI G 6 (oF th))) → (M1 15 = some (aI G 6 (oF ol))) → (M1 19 = some (aZ G 120 (bF mm9))) → (M1 20 = some (aI G 120 ff)) → (M1 21 = some (aI G 120 lq)) → (M1 22 = some (cReader ad1 ra rb rt rv)) → (M1 23 = some (cMatcher ad1 qm pz)) → (M1 24 = some (aJ G 2160 sx)) → (M1 25 = some (aI G 6 (nF ft))) → (M1 26 = some (aJ G 240 rx)) → (M1 27 = some (aJ G 3 dm)) → (M1 28 = some (aI G 3 rc)) → (M1 qa = some (cQuestion ad1 qa ao vr)) → (M1 (qa + 1) = some (aI G 6 (nF kn))) → (M1 (qa + 2) = some (aZ G 6 (bF nq))) → (M1 (qa + 3) = some (aI G 6 (nF pn))) → (M1 (qa + 4) = some (aI G 6 (nF av))) → (M1 (qa + 5) = some (aI G 24 (nF ro))) → (M1 (qa + 6) = some (aI G 24 (nF te))) → (M1 qs = some (cQuestion ad1 qs sq su)) → (M1 (qs + 1) = some (aI G 6 (nF kb))) → (M1 (qs + 2) = some (aZ G 6 (bF nb))) → (M1 (qs + 3) = some (aI G 6 (nF pb))) → (M1 (qs + 4) = some (aI G 6 (nF ab))) → (M1 (qs + 5) = some (aI G 24 (nF rbb))) → (M1 (qs + 6) = some (aI G 24 (nF tbb))) → (M1 60 = some (cModel ad1 tw n jn ao vr sn len pt zs bg fw)) → (M1 61 = some (aI G 36 (nF le))) → (M1 62 = some (aI G 36 (nF mo))) → (M1 63 = some (aI G 36 (nF al))) → (M1 64 = some (aZ G 6 (bF ho))) → (M1 65 = some (aI G 120 (nF mk))) → (M1 66 = some (aI G 120 mf)) → (M1 67 = some (aI G 120 mu)) → (M1 68 = some (aI G 121 (nF mz))) → (M1 69 = some (aI G 726 (nF rr))) → (M1 70 = some (aI G 726 (nF ee))) → (M1 71 = some (aI G 40 (nF lst))) → (M1 72 = some (aI G 40 (nF oa))) → (M1 73 = some (aI G 40 (nF ob))) → (M1 74 = some (aI G 120 s74)) → (M1 75 = some (aI G 12 ak)) → (M1 76 = some (aZ G 12 (bF nm))) → (M1 77 = some (aI G 12 (nF ap))) → (M1 78 = some (aI G 48 pr)) → (M1 79 = some (aI G 48 pf)) → (M1 80 = some (aB G 400 tf)) → (M1 81 = some (aI G 5 fv)) → (M1 82 = some (aZ G 384000 (bF tr))) → (M1 83 = some (aI G 3 (oF gv))) → (M1 84 = some (aI G 3 fo)) → (M1 85 = some (aZ G 40 (bF re))) → (M1 86 = some (aZ G 120 (bF us))) → (M1 87 = some (aZ G 120 (bF nx))) → (M1 99 = some (aJ G 1 of)) → Iv G z ad1 M1 s H1 locs1 → lv_has ls1 7 [(0, .ref b), (1, .ref (ad1 0)), (2, .ref (ad1 60)), (3, .ref (ad1 99)), (4, .int (nI i))] → W p l e room_1 s m #[Value.ref b] below meth c H1 locs1 (cz + 10) (sy + 300) Q (F0 m 1333 ls1 [])) : W p l e room_1 s m #[Value.ref b] below meth c H locs cz sy Q (F0 m 1216 ls []) := by
  have h16 := fL.1
  have hw1 := w1.1
  have hlst := ji_lst w3
  rcases (in_or 40 (xs (i + 1)) (by omega) : (xs (i + 1) < 0 ∨ ¬ xs (i + 1) < nI 40) ∨ (∃ t : Nat, t < 40 ∧ xs (i + 1) = nI t)) with hc_1 | hc_2
  · skip
    refine lv_aload_n hx hb dL_law_1216 rfl (lv_at hl 1 rfl) ?_
    refine lv_aload_n hx hb dL_law_1217 rfl (lv_at hl 0 rfl) ?_
    refine lv_iload hx hb dL_law_1218 (lv_at hl 4 rfl) ?_
    refine lv_iconst (v := nI 1) hx hb dL_law_1220 (by decide) ?_
    refine lv_iadd hx hb dL_law_1221 ?_
    refine n_eq (nI_add i 1) ?_
    refine va_sld (A := fr z) hx hb hX hbl hbz hI.S (vp_in_nI (n := i + 1) (by omega) (by omega)) dL_law_1222 ?_
    rw [nI_clamp (by omega)]
    refine lv_aload_n hx hb dL_law_1223 rfl (lv_at hl 0 rfl) ?_
    refine lv_iload hx hb dL_law_1224 (lv_at hl 4 rfl) ?_
    refine lv_iconst (v := nI 2) hx hb dL_law_1226 (by decide) ?_
    refine lv_iadd hx hb dL_law_1227 ?_
    refine n_eq (nI_add i 2) ?_
    refine va_sld (A := fr z) hx hb hX hbl hbz hI.S (vp_in_nI (n := i + 2) (by omega) (by omega)) dL_law_1228 ?_
    rw [nI_clamp (by omega)]
    refine lv_aload_n hx hb dL_law_1229 rfl (lv_at hl 0 rfl) ?_
    refine lv_iload hx hb dL_law_1230 (lv_at hl 4 rfl) ?_
    refine lv_iconst (v := nI 3) hx hb dL_law_1232 (by decide) ?_
    refine lv_iadd hx hb dL_law_1233 ?_
    refine n_eq (nI_add i 3) ?_
    refine va_sld (A := fr z) hx hb hX hbl hbz hI.S (vp_in_nI (n := i + 3) (by omega) (by omega)) dL_law_1234 ?_
    rw [nI_clamp (by omega)]
    refine lv_aload_n hx hb dL_law_1235 rfl (lv_at hl 0 rfl) ?_
    refine lv_iload hx hb dL_law_1236 (lv_at hl 4 rfl) ?_
    refine lv_iconst (v := nI 4) hx hb dL_law_1238 (by decide) ?_
    refine lv_iadd hx hb dL_law_1239 ?_
    refine n_eq (nI_add i 4) ?_
    refine va_sld (A := fr z) hx hb hX hbl hbz hI.S (vp_in_nI (n := i + 4) (by omega) (by omega)) dL_law_1240 ?_
    rw [nI_clamp (by omega)]
    refine lv_aload_n hx hb dL_law_1241 rfl (lv_at hl 3 rfl) ?_
    refine k_Ni (vx_runSW (As := [.ref (ad 0), .int (xs (i + 1)), .int (xs (i + 2)), .int (xs (i + 3)), .int (xs (i + 4)), .ref (ad 99)]) (rest := []) ⟨hx, hb, hml, hown, hts⟩ (c_L_degree_a l hst G z ad M (qa := qa) (qs := qs) (fw := fw) (x0 := xs (i + 1)) (x1 := xs (i + 2)) (x2 := xs (i + 3)) (x3 := xs (i + 4)) f_0 hc_1) (vx_cwSW 6 hts (gSW (lwg_of t_986 rfl) (lwg_of t_987 rfl) (lwg_of t_0 rfl) (lwg_of t_988 rfl)) rfl rfl rfl (by decide +kernel) ⟨Nat.le_of_ble_eq_true rfl, Nat.le_of_ble_eq_true rfl⟩) hI.preS rfl rfl hl.1 rfl (lv_room (Nat.le_of_ble_eq_true rfl)) dL_law_1242 ⟨(show _ ≤ (601024 : Nat) from by omega), (show _ ≤ (7293034 : Nat) from by omega)⟩) hI (fun r_3 M_5 H_6 locs_7 hp_4 hI => ?_)
    obtain ⟨hr_8, hF_9⟩ := hp_4
    have hm_10 : M_5 0 = some (cStore ad qa qs fw) := by rw [hF_9 0 ]; exact f_0
    have hm_11 : M_5 1 = some (cTape ad len) := by rw [hF_9 1 ]; exact f_1
    have hm_12 : M_5 2 = some (aI G 400 (nF tb)) := by rw [hF_9 2 ]; exact f_2
    have hm_13 : M_5 3 = some (cLaws ad ) := by rw [hF_9 3 ]; exact f_3
    have hm_14 : M_5 4 = some (aI G 36 (nF le)) := by rw [hF_9 4 ]; exact f_4
    have hm_15 : M_5 5 = some (aI G 36 (nF mo)) := by rw [hF_9 5 ]; exact f_5
    have hm_16 : M_5 6 = some (aI G 36 (nF al)) := by rw [hF_9 6 ]; exact f_6
    have hm_17 : M_5 7 = some (aZ G 6 (bF ho)) := by rw [hF_9 7 ]; exact f_7
    have hm_18 : M_5 8 = some (cOnes ad jn) := by rw [hF_9 8 ]; exact f_8
    have hm_19 : M_5 9 = some (aI G 40 (nF hg)) := by rw [hF_9 9 ]; exact f_9
    have hm_20 : M_5 10 = some (aI G 40 (nF lst)) := by rw [hF_9 10 ]; exact f_10
    have hm_21 : M_5 11 = some (aI G 40 (nF jd)) := by rw [hF_9 11 ]; exact f_11
    have hm_22 : M_5 12 = some (cEnds ad 12 s0) := by rw [hF_9 12 ]; exact f_12
    have hm_23 : M_5 13 = some (aI G 6 (nF r0)) := by rw [hF_9 13 ]; exact f_13
    have hm_24 : M_5 14 = some (aI G 6 (oF th)) := by rw [hF_9 14 ]; exact f_14
    have hm_25 : M_5 15 = some (aI G 6 (oF ol)) := by rw [hF_9 15 ]; exact f_15
    have hm_26 : M_5 19 = some (aZ G 120 (bF mm9)) := by rw [hF_9 19 ]; exact f_19
    have hm_27 : M_5 20 = some (aI G 120 ff) := by rw [hF_9 20 ]; exact f_20
    have hm_28 : M_5 21 = some (aI G 120 lq) := by rw [hF_9 21 ]; exact f_21
    have hm_29 : M_5 22 = some (cReader ad ra rb rt rv) := by rw [hF_9 22 ]; exact f_22
    have hm_30 : M_5 23 = some (cMatcher ad qm pz) := by rw [hF_9 23 ]; exact f_23
    have hm_31 : M_5 24 = some (aJ G 2160 sx) := by rw [hF_9 24 ]; exact f_24
    have hm_32 : M_5 25 = some (aI G 6 (nF ft)) := by rw [hF_9 25 ]; exact f_25
    have hm_33 : M_5 26 = some (aJ G 240 rx) := by rw [hF_9 26 ]; exact f_26
    have hm_34 : M_5 27 = some (aJ G 3 dm) := by rw [hF_9 27 ]; exact f_27
    have hm_35 : M_5 28 = some (aI G 3 rc) := by rw [hF_9 28 ]; exact f_28
    have hm_36 : M_5 qa = some (cQuestion ad qa ao vr) := by rw [hF_9 qa ]; exact f_qa
    have hm_37 : M_5 (qa + 1) = some (aI G 6 (nF kn)) := by rw [hF_9 (qa + 1) ]; exact f_qa_1
    have hm_38 : M_5 (qa + 2) = some (aZ G 6 (bF nq)) := by rw [hF_9 (qa + 2) ]; exact f_qa_2
    have hm_39 : M_5 (qa + 3) = some (aI G 6 (nF pn)) := by rw [hF_9 (qa + 3) ]; exact f_qa_3
    have hm_40 : M_5 (qa + 4) = some (aI G 6 (nF av)) := by rw [hF_9 (qa + 4) ]; exact f_qa_4
    have hm_41 : M_5 (qa + 5) = some (aI G 24 (nF ro)) := by rw [hF_9 (qa + 5) ]; exact f_qa_5
    have hm_42 : M_5 (qa + 6) = some (aI G 24 (nF te)) := by rw [hF_9 (qa + 6) ]; exact f_qa_6
    have hm_43 : M_5 qs = some (cQuestion ad qs sq su) := by rw [hF_9 qs ]; exact f_qs
    have hm_44 : M_5 (qs + 1) = some (aI G 6 (nF kb)) := by rw [hF_9 (qs + 1) ]; exact f_qs_1
    have hm_45 : M_5 (qs + 2) = some (aZ G 6 (bF nb)) := by rw [hF_9 (qs + 2) ]; exact f_qs_2
    have hm_46 : M_5 (qs + 3) = some (aI G 6 (nF pb)) := by rw [hF_9 (qs + 3) ]; exact f_qs_3
    have hm_47 : M_5 (qs + 4) = some (aI G 6 (nF ab)) := by rw [hF_9 (qs + 4) ]; exact f_qs_4
    have hm_48 : M_5 (qs + 5) = some (aI G 24 (nF rbb)) := by rw [hF_9 (qs + 5) ]; exact f_qs_5
    have hm_49 : M_5 (qs + 6) = some (aI G 24 (nF tbb)) := by rw [hF_9 (qs + 6) ]; exact f_qs_6
    have hm_50 : M_5 60 = some (cModel ad tw n jn ao vr sn len pt zs bg fw) := by rw [hF_9 60 ]; exact f_60
    have hm_51 : M_5 61 = some (aI G 36 (nF le)) := by rw [hF_9 61 ]; exact f_61
    have hm_52 : M_5 62 = some (aI G 36 (nF mo)) := by rw [hF_9 62 ]; exact f_62
    have hm_53 : M_5 63 = some (aI G 36 (nF al)) := by rw [hF_9 63 ]; exact f_63
    have hm_54 : M_5 64 = some (aZ G 6 (bF ho)) := by rw [hF_9 64 ]; exact f_64
    have hm_55 : M_5 65 = some (aI G 120 (nF mk)) := by rw [hF_9 65 ]; exact f_65
    have hm_56 : M_5 66 = some (aI G 120 mf) := by rw [hF_9 66 ]; exact f_66
    have hm_57 : M_5 67 = some (aI G 120 mu) := by rw [hF_9 67 ]; exact f_67
    have hm_58 : M_5 68 = some (aI G 121 (nF mz)) := by rw [hF_9 68 ]; exact f_68
    have hm_59 : M_5 69 = some (aI G 726 (nF rr)) := by rw [hF_9 69 ]; exact f_69
    have hm_60 : M_5 70 = some (aI G 726 (nF ee)) := by rw [hF_9 70 ]; exact f_70
    have hm_61 : M_5 71 = some (aI G 40 (nF lst)) := by rw [hF_9 71 ]; exact f_71
    have hm_62 : M_5 72 = some (aI G 40 (nF oa)) := by rw [hF_9 72 ]; exact f_72
    have hm_63 : M_5 73 = some (aI G 40 (nF ob)) := by rw [hF_9 73 ]; exact f_73
    have hm_64 : M_5 74 = some (aI G 120 s74) := by rw [hF_9 74 ]; exact f_74
    have hm_65 : M_5 75 = some (aI G 12 ak) := by rw [hF_9 75 ]; exact f_75
    have hm_66 : M_5 76 = some (aZ G 12 (bF nm)) := by rw [hF_9 76 ]; exact f_76
    have hm_67 : M_5 77 = some (aI G 12 (nF ap)) := by rw [hF_9 77 ]; exact f_77
    have hm_68 : M_5 78 = some (aI G 48 pr) := by rw [hF_9 78 ]; exact f_78
    have hm_69 : M_5 79 = some (aI G 48 pf) := by rw [hF_9 79 ]; exact f_79
    have hm_70 : M_5 80 = some (aB G 400 tf) := by rw [hF_9 80 ]; exact f_80
    have hm_71 : M_5 81 = some (aI G 5 fv) := by rw [hF_9 81 ]; exact f_81
    have hm_72 : M_5 82 = some (aZ G 384000 (bF tr)) := by rw [hF_9 82 ]; exact f_82
    have hm_73 : M_5 83 = some (aI G 3 (oF gv)) := by rw [hF_9 83 ]; exact f_83
    have hm_74 : M_5 84 = some (aI G 3 fo) := by rw [hF_9 84 ]; exact f_84
    have hm_75 : M_5 85 = some (aZ G 40 (bF re)) := by rw [hF_9 85 ]; exact f_85
    have hm_76 : M_5 86 = some (aZ G 120 (bF us)) := by rw [hF_9 86 ]; exact f_86
    have hm_77 : M_5 87 = some (aZ G 120 (bF nx)) := by rw [hF_9 87 ]; exact f_87
    have hm_78 : M_5 99 = some (aJ G 1 of) := by rw [hF_9 99 ]; exact f_99
    have hm_79 : M_5 16 = some (cLines ad ) := by rw [hF_9 16 ]; exact h16
    have hL_80 : LSm G ad M_5 n kd fm to sz rl en := fL.keep (fun j hj => hF_9 j )
    rw [hr_8]
    refine lv_istore (lv' := [(5, .int (nI 1)), (0, .ref b), (1, .ref (ad 0)), (2, .ref (ad 60)), (3, .ref (ad 99)), (4, .int (nI i))]) hx hb dL_law_1245 hl (by decide) rfl (fun ls hl => ?_)
    refine lv_aload_n hx hb dL_law_1247 rfl (lv_at hl 3 rfl) ?_
    refine lv_aload_n hx hb dL_law_1248 rfl (lv_at hl 1 rfl) ?_
    refine lv_iload hx hb dL_law_1249 (lv_at hl 5 rfl) ?_
    refine lv_iconst (v := nI 1) hx hb dL_law_1251 (by decide) ?_
    refine lv_iadd hx hb dL_law_1252 ?_
    refine n_eq (nI_add i 1) ?_
    refine va_sld (A := fr z) hx hb hX hbl hbz hI.S (vp_in_nI (n := i + 1) (by omega) (by omega)) dL_law_1253 ?_
    rw [nI_clamp (by omega)]
    refine lv_aload_n hx hb dL_law_1254 rfl (lv_at hl 1 rfl) ?_
    refine lv_iload hx hb dL_law_1255 (lv_at hl 5 rfl) ?_
    refine lv_iconst (v := nI 2) hx hb dL_law_1257 (by decide) ?_
    refine lv_iadd hx hb dL_law_1258 ?_
    refine n_eq (nI_add i 2) ?_
    refine va_sld (A := fr z) hx hb hX hbl hbz hI.S (vp_in_nI (n := i + 2) (by omega) (by omega)) dL_law_1259 ?_
    rw [nI_clamp (by omega)]
    refine lv_aload_n hx hb dL_law_1260 rfl (lv_at hl 1 rfl) ?_
    refine lv_iload hx hb dL_law_1261 (lv_at hl 5 rfl) ?_
    refine lv_iconst (v := nI 3) hx hb dL_law_1263 (by decide) ?_
    refine lv_iadd hx hb dL_law_1264 ?_
    refine n_eq (nI_add i 3) ?_
    refine va_sld (A := fr z) hx hb hX hbl hbz hI.S (vp_in_nI (n := i + 3) (by omega) (by omega)) dL_law_1265 ?_
    rw [nI_clamp (by omega)]
    refine lv_aload_n hx hb dL_law_1266 rfl (lv_at hl 1 rfl) ?_
    refine lv_iload hx hb dL_law_1267 (lv_at hl 5 rfl) ?_
    refine lv_iconst (v := nI 4) hx hb dL_law_1269 (by decide) ?_
    refine lv_iadd hx hb dL_law_1270 ?_
    refine n_eq (nI_add i 4) ?_
    refine va_sld (A := fr z) hx hb hX hbl hbz hI.S (vp_in_nI (n := i + 4) (by omega) (by omega)) dL_law_1271 ?_
    rw [nI_clamp (by omega)]
    refine k_Ni (va_runV (As := [.int (xs (i + 1)), .int (xs (i + 2)), .int (xs (i + 3)), .int (xs (i + 4))]) (rest := []) ⟨hx, hb, hml, hown, hts⟩ (c_X10_degree_a l G z ad M_5 (th := tw) (ln := n) (on := jn) (ao := ao) (vr := vr) (sn := sn) (tp := len) (pt := pt) (zs := zs) (bg := bg) (fa := fw) (x0 := xs (i + 1)) (x1 := xs (i + 2)) (x2 := xs (i + 3)) (x3 := xs (i + 4)) hm_50 hc_1) (cwV 4 hts (gV (lwg_of t_1362 rfl) (lwg_of t_1363 rfl) (lwg_of t_1364 rfl) (lwg_of t_13 rfl) (lwg_of t_1365 rfl)) rfl rfl rfl (by decide +kernel) ⟨Nat.le_of_ble_eq_true rfl, Nat.le_of_ble_eq_true rfl⟩) (hI.preV hm_50 rfl) rfl rfl hl.1 rfl (lv_room (Nat.le_of_ble_eq_true rfl)) dL_law_1272 ⟨(show _ ≤ (601024 : Nat) from by omega), (show _ ≤ (7293034 : Nat) from by omega)⟩) hI (fun r_81 M_83 H_84 locs_85 hp_82 hI => ?_)
    obtain ⟨hr_86, hm_87, hF_88⟩ := hp_82
    have hm_89 : M_83 0 = some (cStore ad qa qs fw) := by rw [hF_88 0 (by omega)]; exact hm_10
    have hm_90 : M_83 1 = some (cTape ad len) := by rw [hF_88 1 (by omega)]; exact hm_11
    have hm_91 : M_83 2 = some (aI G 400 (nF tb)) := by rw [hF_88 2 (by omega)]; exact hm_12
    have hm_92 : M_83 3 = some (cLaws ad ) := by rw [hF_88 3 (by omega)]; exact hm_13
    have hm_93 : M_83 4 = some (aI G 36 (nF le)) := by rw [hF_88 4 (by omega)]; exact hm_14
    have hm_94 : M_83 5 = some (aI G 36 (nF mo)) := by rw [hF_88 5 (by omega)]; exact hm_15
    have hm_95 : M_83 6 = some (aI G 36 (nF al)) := by rw [hF_88 6 (by omega)]; exact hm_16
    have hm_96 : M_83 7 = some (aZ G 6 (bF ho)) := by rw [hF_88 7 (by omega)]; exact hm_17
    have hm_97 : M_83 8 = some (cOnes ad jn) := by rw [hF_88 8 (by omega)]; exact hm_18
    have hm_98 : M_83 9 = some (aI G 40 (nF hg)) := by rw [hF_88 9 (by omega)]; exact hm_19
    have hm_99 : M_83 10 = some (aI G 40 (nF lst)) := by rw [hF_88 10 (by omega)]; exact hm_20
    have hm_100 : M_83 11 = some (aI G 40 (nF jd)) := by rw [hF_88 11 (by omega)]; exact hm_21
    have hm_101 : M_83 12 = some (cEnds ad 12 s0) := by rw [hF_88 12 (by omega)]; exact hm_22
    have hm_102 : M_83 13 = some (aI G 6 (nF r0)) := by rw [hF_88 13 (by omega)]; exact hm_23
    have hm_103 : M_83 14 = some (aI G 6 (oF th)) := by rw [hF_88 14 (by omega)]; exact hm_24
    have hm_104 : M_83 15 = some (aI G 6 (oF ol)) := by rw [hF_88 15 (by omega)]; exact hm_25
    have hm_105 : M_83 19 = some (aZ G 120 (bF mm9)) := by rw [hF_88 19 (by omega)]; exact hm_26
    have hm_106 : M_83 20 = some (aI G 120 ff) := by rw [hF_88 20 (by omega)]; exact hm_27
    have hm_107 : M_83 21 = some (aI G 120 lq) := by rw [hF_88 21 (by omega)]; exact hm_28
    have hm_108 : M_83 22 = some (cReader ad ra rb rt rv) := by rw [hF_88 22 (by omega)]; exact hm_29
    have hm_109 : M_83 23 = some (cMatcher ad qm pz) := by rw [hF_88 23 (by omega)]; exact hm_30
    have hm_110 : M_83 24 = some (aJ G 2160 sx) := by rw [hF_88 24 (by omega)]; exact hm_31
    have hm_111 : M_83 25 = some (aI G 6 (nF ft)) := by rw [hF_88 25 (by omega)]; exact hm_32
    have hm_112 : M_83 26 = some (aJ G 240 rx) := by rw [hF_88 26 (by omega)]; exact hm_33
    have hm_113 : M_83 27 = some (aJ G 3 dm) := by rw [hF_88 27 (by omega)]; exact hm_34
    have hm_114 : M_83 28 = some (aI G 3 rc) := by rw [hF_88 28 (by omega)]; exact hm_35
    have hm_115 : M_83 qa = some (cQuestion ad qa ao vr) := by rw [hF_88 qa (by omega)]; exact hm_36
    have hm_116 : M_83 (qa + 1) = some (aI G 6 (nF kn)) := by rw [hF_88 (qa + 1) (by omega)]; exact hm_37
    have hm_117 : M_83 (qa + 2) = some (aZ G 6 (bF nq)) := by rw [hF_88 (qa + 2) (by omega)]; exact hm_38
    have hm_118 : M_83 (qa + 3) = some (aI G 6 (nF pn)) := by rw [hF_88 (qa + 3) (by omega)]; exact hm_39
    have hm_119 : M_83 (qa + 4) = some (aI G 6 (nF av)) := by rw [hF_88 (qa + 4) (by omega)]; exact hm_40
    have hm_120 : M_83 (qa + 5) = some (aI G 24 (nF ro)) := by rw [hF_88 (qa + 5) (by omega)]; exact hm_41
    have hm_121 : M_83 (qa + 6) = some (aI G 24 (nF te)) := by rw [hF_88 (qa + 6) (by omega)]; exact hm_42
    have hm_122 : M_83 qs = some (cQuestion ad qs sq su) := by rw [hF_88 qs (by omega)]; exact hm_43
    have hm_123 : M_83 (qs + 1) = some (aI G 6 (nF kb)) := by rw [hF_88 (qs + 1) (by omega)]; exact hm_44
    have hm_124 : M_83 (qs + 2) = some (aZ G 6 (bF nb)) := by rw [hF_88 (qs + 2) (by omega)]; exact hm_45
    have hm_125 : M_83 (qs + 3) = some (aI G 6 (nF pb)) := by rw [hF_88 (qs + 3) (by omega)]; exact hm_46
    have hm_126 : M_83 (qs + 4) = some (aI G 6 (nF ab)) := by rw [hF_88 (qs + 4) (by omega)]; exact hm_47
    have hm_127 : M_83 (qs + 5) = some (aI G 24 (nF rbb)) := by rw [hF_88 (qs + 5) (by omega)]; exact hm_48
    have hm_128 : M_83 (qs + 6) = some (aI G 24 (nF tbb)) := by rw [hF_88 (qs + 6) (by omega)]; exact hm_49
    have hm_129 : M_83 61 = some (aI G 36 (nF le)) := by rw [hF_88 61 (by omega)]; exact hm_51
    have hm_130 : M_83 62 = some (aI G 36 (nF mo)) := by rw [hF_88 62 (by omega)]; exact hm_52
    have hm_131 : M_83 63 = some (aI G 36 (nF al)) := by rw [hF_88 63 (by omega)]; exact hm_53
    have hm_132 : M_83 64 = some (aZ G 6 (bF ho)) := by rw [hF_88 64 (by omega)]; exact hm_54
    have hm_133 : M_83 65 = some (aI G 120 (nF mk)) := by rw [hF_88 65 (by omega)]; exact hm_55
    have hm_134 : M_83 66 = some (aI G 120 mf) := by rw [hF_88 66 (by omega)]; exact hm_56
    have hm_135 : M_83 67 = some (aI G 120 mu) := by rw [hF_88 67 (by omega)]; exact hm_57
    have hm_136 : M_83 68 = some (aI G 121 (nF mz)) := by rw [hF_88 68 (by omega)]; exact hm_58
    have hm_137 : M_83 69 = some (aI G 726 (nF rr)) := by rw [hF_88 69 (by omega)]; exact hm_59
    have hm_138 : M_83 70 = some (aI G 726 (nF ee)) := by rw [hF_88 70 (by omega)]; exact hm_60
    have hm_139 : M_83 71 = some (aI G 40 (nF lst)) := by rw [hF_88 71 (by omega)]; exact hm_61
    have hm_140 : M_83 72 = some (aI G 40 (nF oa)) := by rw [hF_88 72 (by omega)]; exact hm_62
    have hm_141 : M_83 73 = some (aI G 40 (nF ob)) := by rw [hF_88 73 (by omega)]; exact hm_63
    have hm_142 : M_83 74 = some (aI G 120 s74) := by rw [hF_88 74 (by omega)]; exact hm_64
    have hm_143 : M_83 75 = some (aI G 12 ak) := by rw [hF_88 75 (by omega)]; exact hm_65
    have hm_144 : M_83 76 = some (aZ G 12 (bF nm)) := by rw [hF_88 76 (by omega)]; exact hm_66
    have hm_145 : M_83 77 = some (aI G 12 (nF ap)) := by rw [hF_88 77 (by omega)]; exact hm_67
    have hm_146 : M_83 78 = some (aI G 48 pr) := by rw [hF_88 78 (by omega)]; exact hm_68
    have hm_147 : M_83 79 = some (aI G 48 pf) := by rw [hF_88 79 (by omega)]; exact hm_69
    have hm_148 : M_83 80 = some (aB G 400 tf) := by rw [hF_88 80 (by omega)]; exact hm_70
    have hm_149 : M_83 81 = some (aI G 5 fv) := by rw [hF_88 81 (by omega)]; exact hm_71
    have hm_150 : M_83 82 = some (aZ G 384000 (bF tr)) := by rw [hF_88 82 (by omega)]; exact hm_72
    have hm_151 : M_83 83 = some (aI G 3 (oF gv)) := by rw [hF_88 83 (by omega)]; exact hm_73
    have hm_152 : M_83 84 = some (aI G 3 fo) := by rw [hF_88 84 (by omega)]; exact hm_74
    have hm_153 : M_83 85 = some (aZ G 40 (bF re)) := by rw [hF_88 85 (by omega)]; exact hm_75
    have hm_154 : M_83 86 = some (aZ G 120 (bF us)) := by rw [hF_88 86 (by omega)]; exact hm_76
    have hm_155 : M_83 87 = some (aZ G 120 (bF nx)) := by rw [hF_88 87 (by omega)]; exact hm_77
    have hm_156 : M_83 99 = some (aJ G 1 of) := by rw [hF_88 99 (by omega)]; exact hm_78
    have hm_157 : M_83 16 = some (cLines ad ) := by rw [hF_88 16 (by omega)]; exact hm_79
    have hL_158 : LSm G ad M_83 n kd fm to sz rl en := hL_80.keep (fun j hj => hF_88 j (by omega))
    have hF_159 : ∀ j : Nat, j ≠ 60 → M_83 j = M j := fun j q0 => (hF_88 j q0).trans (hF_9 j )
    rw [hr_86]
    refine lv_istore (lv' := [(6, .int (nI 0)), (5, .int (nI 1)), (0, .ref b), (1, .ref (ad 0)), (2, .ref (ad 60)), (3, .ref (ad 99)), (4, .int (nI i))]) hx hb dL_law_1275 hl (by decide) rfl (fun ls hl => ?_)
    refine lv_aload_n hx hb dL_law_1277 rfl (lv_at hl 4 rfl) ?_
    refine k_Ri (va_runV (As := []) (rest := []) ⟨hx, hb, hml, hown, hts⟩ (c_X10_thrown l G z ad M_83 (th := 1) (ln := n) (on := jn) (ao := ao) (vr := vr) (sn := sn) (tp := len) (pt := pt) (zs := zs) (bg := bg) (fa := fw) hm_87) (cwV 0 hts (gV (lwg_of t_997 rfl) (lwg_of t_998 rfl) (lwg_of t_999 rfl) (lwg_of t_13 rfl) (lwg_of t_1000 rfl)) rfl rfl rfl (by decide +kernel) ⟨Nat.le_of_ble_eq_true rfl, Nat.le_of_ble_eq_true rfl⟩) (hI.preV hm_87 rfl) rfl rfl hl.1 rfl (lv_room (Nat.le_of_ble_eq_true rfl)) dL_law_1278 ⟨(show _ ≤ (601024 : Nat) from by omega), (show _ ≤ (7293034 : Nat) from by omega)⟩) (fun _ h => h) (fun r_160 hp_161 => ?_)
    rw [hp_161]
    refine lv_iload hx hb dL_law_1281 (lv_at hl 1 rfl) ?_
    refine lv_icmp_eq (tgt := 1288) hx hb dL_law_1283 (by decide) (fun c_162 => ?_) (fun c_162 => ?_)
    · -- 1283: nI 1 eq
      refine lv_iload hx hb dL_law_1288 (lv_at hl 1 rfl) ?_
      refine lv_if_ne (tgt := 1305) hx hb dL_law_1290 (by decide) (fun c_163 => ?_) (fun c_163 => ?_)
      · -- 1290: nI 1 ne
        refine lv_goto (tgt := 1333) hx hb dL_law_1305 (by decide) ?_
        refine W.widen (k := cz + 10) (n := sy + 300) (by omega) (by omega) ?_
        exact kk ad M_83 H_84 locs_85 ls n kd fm to sz rl en qa qs fw len tb le mo al ho jn hg lst jd s0 r0 th ol e0 mm9 ff lq ra rb rt rv qm pz sx ft rx dm rc ao vr kn nq pn av ro te sq su kb nb pb ab rbb tbb 1 sn pt zs bg mk mf mu mz rr ee oa ob s74 ak nm ap pr pf tf fv tr gv fo re us nx of hL_158 w1 w2 w3 w4 w5 w6 w7 w8 w9 w10 w11 w12 w13 w14 w15 w16 w17 w18 w19 w20 w21 w22 w23 w24 w25 w26 w27 w28 w29 (fun h9 => by rw [hF_159 17 (by omega), hF_159 18 (by omega)]; exact w30 h9) (by rw [hF_159 29 (by omega)]; exact w31) (fun j9 h9 => by rw [hF_159 j9 (by omega)]; exact w32 j9 h9) hm_89 hm_90 hm_91 hm_92 hm_93 hm_94 hm_95 hm_96 hm_97 hm_98 hm_99 hm_100 hm_101 hm_102 hm_103 hm_104 hm_105 hm_106 hm_107 hm_108 hm_109 hm_110 hm_111 hm_112 hm_113 hm_114 hm_115 hm_116 hm_117 hm_118 hm_119 hm_120 hm_121 hm_122 hm_123 hm_124 hm_125 hm_126 hm_127 hm_128 hm_87 hm_129 hm_130 hm_131 hm_132 hm_133 hm_134 hm_135 hm_136 hm_137 hm_138 hm_139 hm_140 hm_141 hm_142 hm_143 hm_144 hm_145 hm_146 hm_147 hm_148 hm_149 hm_150 hm_151 hm_152 hm_153 hm_154 hm_155 hm_156 hI (lv_sub hl [2, 3, 4, 5, 6] rfl)
      · -- 1290: nI 1 eq
        exact absurd c_163 (by decide)
    · -- 1283: nI 1 ne
      exact absurd (by decide) c_162
  · skip
    refine lv_aload_n hx hb dL_law_1216 rfl (lv_at hl 1 rfl) ?_
    obtain ⟨t1, ht1, et1⟩ := hc_2
    rcases (in_or 6 (xs (i + 2)) (by omega) : (xs (i + 2) < 0 ∨ ¬ xs (i + 2) < nI 6) ∨ (∃ t : Nat, t < 6 ∧ xs (i + 2) = nI t)) with hc_164 | hc_165
    · skip
      refine lv_aload_n hx hb dL_law_1217 rfl (lv_at hl 0 rfl) ?_
      refine lv_iload hx hb dL_law_1218 (lv_at hl 4 rfl) ?_
      refine lv_iconst (v := nI 1) hx hb dL_law_1220 (by decide) ?_
      refine lv_iadd hx hb dL_law_1221 ?_
      refine n_eq (nI_add i 1) ?_
      refine va_sld (A := fr z) hx hb hX hbl hbz hI.S (vp_in_nI (n := i + 1) (by omega) (by omega)) dL_law_1222 ?_
      rw [nI_clamp (by omega)]
      refine n_eq (show _ = nI t1 from et1) ?_
      refine lv_aload_n hx hb dL_law_1223 rfl (lv_at hl 0 rfl) ?_
      refine lv_iload hx hb dL_law_1224 (lv_at hl 4 rfl) ?_
      refine lv_iconst (v := nI 2) hx hb dL_law_1226 (by decide) ?_
      refine lv_iadd hx hb dL_law_1227 ?_
      refine n_eq (nI_add i 2) ?_
      refine va_sld (A := fr z) hx hb hX hbl hbz hI.S (vp_in_nI (n := i + 2) (by omega) (by omega)) dL_law_1228 ?_
      rw [nI_clamp (by omega)]
      refine lv_aload_n hx hb dL_law_1229 rfl (lv_at hl 0 rfl) ?_
      refine lv_iload hx hb dL_law_1230 (lv_at hl 4 rfl) ?_
      refine lv_iconst (v := nI 3) hx hb dL_law_1232 (by decide) ?_
      refine lv_iadd hx hb dL_law_1233 ?_
      refine n_eq (nI_add i 3) ?_
      refine va_sld (A := fr z) hx hb hX hbl hbz hI.S (vp_in_nI (n := i + 3) (by omega) (by omega)) dL_law_1234 ?_
      rw [nI_clamp (by omega)]
      refine lv_aload_n hx hb dL_law_1235 rfl (lv_at hl 0 rfl) ?_
      refine lv_iload hx hb dL_law_1236 (lv_at hl 4 rfl) ?_
      refine lv_iconst (v := nI 4) hx hb dL_law_1238 (by decide) ?_
      refine lv_iadd hx hb dL_law_1239 ?_
      refine n_eq (nI_add i 4) ?_
      refine va_sld (A := fr z) hx hb hX hbl hbz hI.S (vp_in_nI (n := i + 4) (by omega) (by omega)) dL_law_1240 ?_
      rw [nI_clamp (by omega)]
      refine lv_aload_n hx hb dL_law_1241 rfl (lv_at hl 3 rfl) ?_
      refine k_Ni (vx_runSW (As := [.ref (ad 0), .int (nI t1), .int (xs (i + 2)), .int (xs (i + 3)), .int (xs (i + 4)), .ref (ad 99)]) (rest := []) ⟨hx, hb, hml, hown, hts⟩ (c_L_degree_b l hst G z ad M (qa := qa) (qs := qs) (fw := fw) (a := t1) (x1 := xs (i + 2)) (x2 := xs (i + 3)) (x3 := xs (i + 4)) f_0 ht1 hc_164) (vx_cwSW 6 hts (gSW (lwg_of t_986 rfl) (lwg_of t_987 rfl) (lwg_of t_0 rfl) (lwg_of t_988 rfl)) rfl rfl rfl (by decide +kernel) ⟨Nat.le_of_ble_eq_true rfl, Nat.le_of_ble_eq_true rfl⟩) hI.preS rfl rfl hl.1 rfl (lv_room (Nat.le_of_ble_eq_true rfl)) dL_law_1242 ⟨(show _ ≤ (601024 : Nat) from by omega), (show _ ≤ (7293034 : Nat) from by omega)⟩) hI (fun r_166 M_168 H_169 locs_170 hp_167 hI => ?_)
      obtain ⟨hr_171, hF_172⟩ := hp_167
      have hm_173 : M_168 0 = some (cStore ad qa qs fw) := by rw [hF_172 0 ]; exact f_0
      have hm_174 : M_168 1 = some (cTape ad len) := by rw [hF_172 1 ]; exact f_1
      have hm_175 : M_168 2 = some (aI G 400 (nF tb)) := by rw [hF_172 2 ]; exact f_2
      have hm_176 : M_168 3 = some (cLaws ad ) := by rw [hF_172 3 ]; exact f_3
      have hm_177 : M_168 4 = some (aI G 36 (nF le)) := by rw [hF_172 4 ]; exact f_4
      have hm_178 : M_168 5 = some (aI G 36 (nF mo)) := by rw [hF_172 5 ]; exact f_5
      have hm_179 : M_168 6 = some (aI G 36 (nF al)) := by rw [hF_172 6 ]; exact f_6
      have hm_180 : M_168 7 = some (aZ G 6 (bF ho)) := by rw [hF_172 7 ]; exact f_7
      have hm_181 : M_168 8 = some (cOnes ad jn) := by rw [hF_172 8 ]; exact f_8
      have hm_182 : M_168 9 = some (aI G 40 (nF hg)) := by rw [hF_172 9 ]; exact f_9
      have hm_183 : M_168 10 = some (aI G 40 (nF lst)) := by rw [hF_172 10 ]; exact f_10
      have hm_184 : M_168 11 = some (aI G 40 (nF jd)) := by rw [hF_172 11 ]; exact f_11
      have hm_185 : M_168 12 = some (cEnds ad 12 s0) := by rw [hF_172 12 ]; exact f_12
      have hm_186 : M_168 13 = some (aI G 6 (nF r0)) := by rw [hF_172 13 ]; exact f_13
      have hm_187 : M_168 14 = some (aI G 6 (oF th)) := by rw [hF_172 14 ]; exact f_14
      have hm_188 : M_168 15 = some (aI G 6 (oF ol)) := by rw [hF_172 15 ]; exact f_15
      have hm_189 : M_168 19 = some (aZ G 120 (bF mm9)) := by rw [hF_172 19 ]; exact f_19
      have hm_190 : M_168 20 = some (aI G 120 ff) := by rw [hF_172 20 ]; exact f_20
      have hm_191 : M_168 21 = some (aI G 120 lq) := by rw [hF_172 21 ]; exact f_21
      have hm_192 : M_168 22 = some (cReader ad ra rb rt rv) := by rw [hF_172 22 ]; exact f_22
      have hm_193 : M_168 23 = some (cMatcher ad qm pz) := by rw [hF_172 23 ]; exact f_23
      have hm_194 : M_168 24 = some (aJ G 2160 sx) := by rw [hF_172 24 ]; exact f_24
      have hm_195 : M_168 25 = some (aI G 6 (nF ft)) := by rw [hF_172 25 ]; exact f_25
      have hm_196 : M_168 26 = some (aJ G 240 rx) := by rw [hF_172 26 ]; exact f_26
      have hm_197 : M_168 27 = some (aJ G 3 dm) := by rw [hF_172 27 ]; exact f_27
      have hm_198 : M_168 28 = some (aI G 3 rc) := by rw [hF_172 28 ]; exact f_28
      have hm_199 : M_168 qa = some (cQuestion ad qa ao vr) := by rw [hF_172 qa ]; exact f_qa
      have hm_200 : M_168 (qa + 1) = some (aI G 6 (nF kn)) := by rw [hF_172 (qa + 1) ]; exact f_qa_1
      have hm_201 : M_168 (qa + 2) = some (aZ G 6 (bF nq)) := by rw [hF_172 (qa + 2) ]; exact f_qa_2
      have hm_202 : M_168 (qa + 3) = some (aI G 6 (nF pn)) := by rw [hF_172 (qa + 3) ]; exact f_qa_3
      have hm_203 : M_168 (qa + 4) = some (aI G 6 (nF av)) := by rw [hF_172 (qa + 4) ]; exact f_qa_4
      have hm_204 : M_168 (qa + 5) = some (aI G 24 (nF ro)) := by rw [hF_172 (qa + 5) ]; exact f_qa_5
      have hm_205 : M_168 (qa + 6) = some (aI G 24 (nF te)) := by rw [hF_172 (qa + 6) ]; exact f_qa_6
      have hm_206 : M_168 qs = some (cQuestion ad qs sq su) := by rw [hF_172 qs ]; exact f_qs
      have hm_207 : M_168 (qs + 1) = some (aI G 6 (nF kb)) := by rw [hF_172 (qs + 1) ]; exact f_qs_1
      have hm_208 : M_168 (qs + 2) = some (aZ G 6 (bF nb)) := by rw [hF_172 (qs + 2) ]; exact f_qs_2
      have hm_209 : M_168 (qs + 3) = some (aI G 6 (nF pb)) := by rw [hF_172 (qs + 3) ]; exact f_qs_3
      have hm_210 : M_168 (qs + 4) = some (aI G 6 (nF ab)) := by rw [hF_172 (qs + 4) ]; exact f_qs_4
      have hm_211 : M_168 (qs + 5) = some (aI G 24 (nF rbb)) := by rw [hF_172 (qs + 5) ]; exact f_qs_5
      have hm_212 : M_168 (qs + 6) = some (aI G 24 (nF tbb)) := by rw [hF_172 (qs + 6) ]; exact f_qs_6
      have hm_213 : M_168 60 = some (cModel ad tw n jn ao vr sn len pt zs bg fw) := by rw [hF_172 60 ]; exact f_60
      have hm_214 : M_168 61 = some (aI G 36 (nF le)) := by rw [hF_172 61 ]; exact f_61
      have hm_215 : M_168 62 = some (aI G 36 (nF mo)) := by rw [hF_172 62 ]; exact f_62
      have hm_216 : M_168 63 = some (aI G 36 (nF al)) := by rw [hF_172 63 ]; exact f_63
      have hm_217 : M_168 64 = some (aZ G 6 (bF ho)) := by rw [hF_172 64 ]; exact f_64
      have hm_218 : M_168 65 = some (aI G 120 (nF mk)) := by rw [hF_172 65 ]; exact f_65
      have hm_219 : M_168 66 = some (aI G 120 mf) := by rw [hF_172 66 ]; exact f_66
      have hm_220 : M_168 67 = some (aI G 120 mu) := by rw [hF_172 67 ]; exact f_67
      have hm_221 : M_168 68 = some (aI G 121 (nF mz)) := by rw [hF_172 68 ]; exact f_68
      have hm_222 : M_168 69 = some (aI G 726 (nF rr)) := by rw [hF_172 69 ]; exact f_69
      have hm_223 : M_168 70 = some (aI G 726 (nF ee)) := by rw [hF_172 70 ]; exact f_70
      have hm_224 : M_168 71 = some (aI G 40 (nF lst)) := by rw [hF_172 71 ]; exact f_71
      have hm_225 : M_168 72 = some (aI G 40 (nF oa)) := by rw [hF_172 72 ]; exact f_72
      have hm_226 : M_168 73 = some (aI G 40 (nF ob)) := by rw [hF_172 73 ]; exact f_73
      have hm_227 : M_168 74 = some (aI G 120 s74) := by rw [hF_172 74 ]; exact f_74
      have hm_228 : M_168 75 = some (aI G 12 ak) := by rw [hF_172 75 ]; exact f_75
      have hm_229 : M_168 76 = some (aZ G 12 (bF nm)) := by rw [hF_172 76 ]; exact f_76
      have hm_230 : M_168 77 = some (aI G 12 (nF ap)) := by rw [hF_172 77 ]; exact f_77
      have hm_231 : M_168 78 = some (aI G 48 pr) := by rw [hF_172 78 ]; exact f_78
      have hm_232 : M_168 79 = some (aI G 48 pf) := by rw [hF_172 79 ]; exact f_79
      have hm_233 : M_168 80 = some (aB G 400 tf) := by rw [hF_172 80 ]; exact f_80
      have hm_234 : M_168 81 = some (aI G 5 fv) := by rw [hF_172 81 ]; exact f_81
      have hm_235 : M_168 82 = some (aZ G 384000 (bF tr)) := by rw [hF_172 82 ]; exact f_82
      have hm_236 : M_168 83 = some (aI G 3 (oF gv)) := by rw [hF_172 83 ]; exact f_83
      have hm_237 : M_168 84 = some (aI G 3 fo) := by rw [hF_172 84 ]; exact f_84
      have hm_238 : M_168 85 = some (aZ G 40 (bF re)) := by rw [hF_172 85 ]; exact f_85
      have hm_239 : M_168 86 = some (aZ G 120 (bF us)) := by rw [hF_172 86 ]; exact f_86
      have hm_240 : M_168 87 = some (aZ G 120 (bF nx)) := by rw [hF_172 87 ]; exact f_87
      have hm_241 : M_168 99 = some (aJ G 1 of) := by rw [hF_172 99 ]; exact f_99
      have hm_242 : M_168 16 = some (cLines ad ) := by rw [hF_172 16 ]; exact h16
      have hL_243 : LSm G ad M_168 n kd fm to sz rl en := fL.keep (fun j hj => hF_172 j )
      rw [hr_171]
      refine lv_istore (lv' := [(5, .int (nI 1)), (0, .ref b), (1, .ref (ad 0)), (2, .ref (ad 60)), (3, .ref (ad 99)), (4, .int (nI i))]) hx hb dL_law_1245 hl (by decide) rfl (fun ls hl => ?_)
      refine lv_aload_n hx hb dL_law_1247 rfl (lv_at hl 3 rfl) ?_
      refine lv_aload_n hx hb dL_law_1248 rfl (lv_at hl 1 rfl) ?_
      refine lv_iload hx hb dL_law_1249 (lv_at hl 5 rfl) ?_
      refine lv_iconst (v := nI 1) hx hb dL_law_1251 (by decide) ?_
      refine lv_iadd hx hb dL_law_1252 ?_
      refine n_eq (nI_add i 1) ?_
      refine va_sld (A := fr z) hx hb hX hbl hbz hI.S (vp_in_nI (n := i + 1) (by omega) (by omega)) dL_law_1253 ?_
      rw [nI_clamp (by omega)]
      refine n_eq (show _ = nI t1 from et1) ?_
      refine lv_aload_n hx hb dL_law_1254 rfl (lv_at hl 1 rfl) ?_
      refine lv_iload hx hb dL_law_1255 (lv_at hl 5 rfl) ?_
      refine lv_iconst (v := nI 2) hx hb dL_law_1257 (by decide) ?_
      refine lv_iadd hx hb dL_law_1258 ?_
      refine n_eq (nI_add i 2) ?_
      refine va_sld (A := fr z) hx hb hX hbl hbz hI.S (vp_in_nI (n := i + 2) (by omega) (by omega)) dL_law_1259 ?_
      rw [nI_clamp (by omega)]
      refine lv_aload_n hx hb dL_law_1260 rfl (lv_at hl 1 rfl) ?_
      refine lv_iload hx hb dL_law_1261 (lv_at hl 5 rfl) ?_
      refine lv_iconst (v := nI 3) hx hb dL_law_1263 (by decide) ?_
      refine lv_iadd hx hb dL_law_1264 ?_
      refine n_eq (nI_add i 3) ?_
      refine va_sld (A := fr z) hx hb hX hbl hbz hI.S (vp_in_nI (n := i + 3) (by omega) (by omega)) dL_law_1265 ?_
      rw [nI_clamp (by omega)]
      refine lv_aload_n hx hb dL_law_1266 rfl (lv_at hl 1 rfl) ?_
      refine lv_iload hx hb dL_law_1267 (lv_at hl 5 rfl) ?_
      refine lv_iconst (v := nI 4) hx hb dL_law_1269 (by decide) ?_
      refine lv_iadd hx hb dL_law_1270 ?_
      refine n_eq (nI_add i 4) ?_
      refine va_sld (A := fr z) hx hb hX hbl hbz hI.S (vp_in_nI (n := i + 4) (by omega) (by omega)) dL_law_1271 ?_
      rw [nI_clamp (by omega)]
      refine k_Ni (va_runV (As := [.int (nI t1), .int (xs (i + 2)), .int (xs (i + 3)), .int (xs (i + 4))]) (rest := []) ⟨hx, hb, hml, hown, hts⟩ (c_X10_degree_b l G z ad M_168 (th := tw) (ln := n) (on := jn) (ao := ao) (vr := vr) (sn := sn) (tp := len) (pt := pt) (zs := zs) (bg := bg) (fa := fw) (a := t1) (x1 := xs (i + 2)) (x2 := xs (i + 3)) (x3 := xs (i + 4)) hm_213 ht1 hc_164) (cwV 4 hts (gV (lwg_of t_1362 rfl) (lwg_of t_1363 rfl) (lwg_of t_1364 rfl) (lwg_of t_13 rfl) (lwg_of t_1365 rfl)) rfl rfl rfl (by decide +kernel) ⟨Nat.le_of_ble_eq_true rfl, Nat.le_of_ble_eq_true rfl⟩) (hI.preV hm_213 rfl) rfl rfl hl.1 rfl (lv_room (Nat.le_of_ble_eq_true rfl)) dL_law_1272 ⟨(show _ ≤ (601024 : Nat) from by omega), (show _ ≤ (7293034 : Nat) from by omega)⟩) hI (fun r_244 M_246 H_247 locs_248 hp_245 hI => ?_)
      obtain ⟨hr_249, hm_250, hF_251⟩ := hp_245
      have hm_252 : M_246 0 = some (cStore ad qa qs fw) := by rw [hF_251 0 (by omega)]; exact hm_173
      have hm_253 : M_246 1 = some (cTape ad len) := by rw [hF_251 1 (by omega)]; exact hm_174
      have hm_254 : M_246 2 = some (aI G 400 (nF tb)) := by rw [hF_251 2 (by omega)]; exact hm_175
      have hm_255 : M_246 3 = some (cLaws ad ) := by rw [hF_251 3 (by omega)]; exact hm_176
      have hm_256 : M_246 4 = some (aI G 36 (nF le)) := by rw [hF_251 4 (by omega)]; exact hm_177
      have hm_257 : M_246 5 = some (aI G 36 (nF mo)) := by rw [hF_251 5 (by omega)]; exact hm_178
      have hm_258 : M_246 6 = some (aI G 36 (nF al)) := by rw [hF_251 6 (by omega)]; exact hm_179
      have hm_259 : M_246 7 = some (aZ G 6 (bF ho)) := by rw [hF_251 7 (by omega)]; exact hm_180
      have hm_260 : M_246 8 = some (cOnes ad jn) := by rw [hF_251 8 (by omega)]; exact hm_181
      have hm_261 : M_246 9 = some (aI G 40 (nF hg)) := by rw [hF_251 9 (by omega)]; exact hm_182
      have hm_262 : M_246 10 = some (aI G 40 (nF lst)) := by rw [hF_251 10 (by omega)]; exact hm_183
      have hm_263 : M_246 11 = some (aI G 40 (nF jd)) := by rw [hF_251 11 (by omega)]; exact hm_184
      have hm_264 : M_246 12 = some (cEnds ad 12 s0) := by rw [hF_251 12 (by omega)]; exact hm_185
      have hm_265 : M_246 13 = some (aI G 6 (nF r0)) := by rw [hF_251 13 (by omega)]; exact hm_186
      have hm_266 : M_246 14 = some (aI G 6 (oF th)) := by rw [hF_251 14 (by omega)]; exact hm_187
      have hm_267 : M_246 15 = some (aI G 6 (oF ol)) := by rw [hF_251 15 (by omega)]; exact hm_188
      have hm_268 : M_246 19 = some (aZ G 120 (bF mm9)) := by rw [hF_251 19 (by omega)]; exact hm_189
      have hm_269 : M_246 20 = some (aI G 120 ff) := by rw [hF_251 20 (by omega)]; exact hm_190
      have hm_270 : M_246 21 = some (aI G 120 lq) := by rw [hF_251 21 (by omega)]; exact hm_191
      have hm_271 : M_246 22 = some (cReader ad ra rb rt rv) := by rw [hF_251 22 (by omega)]; exact hm_192
      have hm_272 : M_246 23 = some (cMatcher ad qm pz) := by rw [hF_251 23 (by omega)]; exact hm_193
      have hm_273 : M_246 24 = some (aJ G 2160 sx) := by rw [hF_251 24 (by omega)]; exact hm_194
      have hm_274 : M_246 25 = some (aI G 6 (nF ft)) := by rw [hF_251 25 (by omega)]; exact hm_195
      have hm_275 : M_246 26 = some (aJ G 240 rx) := by rw [hF_251 26 (by omega)]; exact hm_196
      have hm_276 : M_246 27 = some (aJ G 3 dm) := by rw [hF_251 27 (by omega)]; exact hm_197
      have hm_277 : M_246 28 = some (aI G 3 rc) := by rw [hF_251 28 (by omega)]; exact hm_198
      have hm_278 : M_246 qa = some (cQuestion ad qa ao vr) := by rw [hF_251 qa (by omega)]; exact hm_199
      have hm_279 : M_246 (qa + 1) = some (aI G 6 (nF kn)) := by rw [hF_251 (qa + 1) (by omega)]; exact hm_200
      have hm_280 : M_246 (qa + 2) = some (aZ G 6 (bF nq)) := by rw [hF_251 (qa + 2) (by omega)]; exact hm_201
      have hm_281 : M_246 (qa + 3) = some (aI G 6 (nF pn)) := by rw [hF_251 (qa + 3) (by omega)]; exact hm_202
      have hm_282 : M_246 (qa + 4) = some (aI G 6 (nF av)) := by rw [hF_251 (qa + 4) (by omega)]; exact hm_203
      have hm_283 : M_246 (qa + 5) = some (aI G 24 (nF ro)) := by rw [hF_251 (qa + 5) (by omega)]; exact hm_204
      have hm_284 : M_246 (qa + 6) = some (aI G 24 (nF te)) := by rw [hF_251 (qa + 6) (by omega)]; exact hm_205
      have hm_285 : M_246 qs = some (cQuestion ad qs sq su) := by rw [hF_251 qs (by omega)]; exact hm_206
      have hm_286 : M_246 (qs + 1) = some (aI G 6 (nF kb)) := by rw [hF_251 (qs + 1) (by omega)]; exact hm_207
      have hm_287 : M_246 (qs + 2) = some (aZ G 6 (bF nb)) := by rw [hF_251 (qs + 2) (by omega)]; exact hm_208
      have hm_288 : M_246 (qs + 3) = some (aI G 6 (nF pb)) := by rw [hF_251 (qs + 3) (by omega)]; exact hm_209
      have hm_289 : M_246 (qs + 4) = some (aI G 6 (nF ab)) := by rw [hF_251 (qs + 4) (by omega)]; exact hm_210
      have hm_290 : M_246 (qs + 5) = some (aI G 24 (nF rbb)) := by rw [hF_251 (qs + 5) (by omega)]; exact hm_211
      have hm_291 : M_246 (qs + 6) = some (aI G 24 (nF tbb)) := by rw [hF_251 (qs + 6) (by omega)]; exact hm_212
      have hm_292 : M_246 61 = some (aI G 36 (nF le)) := by rw [hF_251 61 (by omega)]; exact hm_214
      have hm_293 : M_246 62 = some (aI G 36 (nF mo)) := by rw [hF_251 62 (by omega)]; exact hm_215
      have hm_294 : M_246 63 = some (aI G 36 (nF al)) := by rw [hF_251 63 (by omega)]; exact hm_216
      have hm_295 : M_246 64 = some (aZ G 6 (bF ho)) := by rw [hF_251 64 (by omega)]; exact hm_217
      have hm_296 : M_246 65 = some (aI G 120 (nF mk)) := by rw [hF_251 65 (by omega)]; exact hm_218
      have hm_297 : M_246 66 = some (aI G 120 mf) := by rw [hF_251 66 (by omega)]; exact hm_219
      have hm_298 : M_246 67 = some (aI G 120 mu) := by rw [hF_251 67 (by omega)]; exact hm_220
      have hm_299 : M_246 68 = some (aI G 121 (nF mz)) := by rw [hF_251 68 (by omega)]; exact hm_221
      have hm_300 : M_246 69 = some (aI G 726 (nF rr)) := by rw [hF_251 69 (by omega)]; exact hm_222
      have hm_301 : M_246 70 = some (aI G 726 (nF ee)) := by rw [hF_251 70 (by omega)]; exact hm_223
      have hm_302 : M_246 71 = some (aI G 40 (nF lst)) := by rw [hF_251 71 (by omega)]; exact hm_224
      have hm_303 : M_246 72 = some (aI G 40 (nF oa)) := by rw [hF_251 72 (by omega)]; exact hm_225
      have hm_304 : M_246 73 = some (aI G 40 (nF ob)) := by rw [hF_251 73 (by omega)]; exact hm_226
      have hm_305 : M_246 74 = some (aI G 120 s74) := by rw [hF_251 74 (by omega)]; exact hm_227
      have hm_306 : M_246 75 = some (aI G 12 ak) := by rw [hF_251 75 (by omega)]; exact hm_228
      have hm_307 : M_246 76 = some (aZ G 12 (bF nm)) := by rw [hF_251 76 (by omega)]; exact hm_229
      have hm_308 : M_246 77 = some (aI G 12 (nF ap)) := by rw [hF_251 77 (by omega)]; exact hm_230
      have hm_309 : M_246 78 = some (aI G 48 pr) := by rw [hF_251 78 (by omega)]; exact hm_231
      have hm_310 : M_246 79 = some (aI G 48 pf) := by rw [hF_251 79 (by omega)]; exact hm_232
      have hm_311 : M_246 80 = some (aB G 400 tf) := by rw [hF_251 80 (by omega)]; exact hm_233
      have hm_312 : M_246 81 = some (aI G 5 fv) := by rw [hF_251 81 (by omega)]; exact hm_234
      have hm_313 : M_246 82 = some (aZ G 384000 (bF tr)) := by rw [hF_251 82 (by omega)]; exact hm_235
      have hm_314 : M_246 83 = some (aI G 3 (oF gv)) := by rw [hF_251 83 (by omega)]; exact hm_236
      have hm_315 : M_246 84 = some (aI G 3 fo) := by rw [hF_251 84 (by omega)]; exact hm_237
      have hm_316 : M_246 85 = some (aZ G 40 (bF re)) := by rw [hF_251 85 (by omega)]; exact hm_238
      have hm_317 : M_246 86 = some (aZ G 120 (bF us)) := by rw [hF_251 86 (by omega)]; exact hm_239
      have hm_318 : M_246 87 = some (aZ G 120 (bF nx)) := by rw [hF_251 87 (by omega)]; exact hm_240
      have hm_319 : M_246 99 = some (aJ G 1 of) := by rw [hF_251 99 (by omega)]; exact hm_241
      have hm_320 : M_246 16 = some (cLines ad ) := by rw [hF_251 16 (by omega)]; exact hm_242
      have hL_321 : LSm G ad M_246 n kd fm to sz rl en := hL_243.keep (fun j hj => hF_251 j (by omega))
      have hF_322 : ∀ j : Nat, j ≠ 60 → M_246 j = M j := fun j q0 => (hF_251 j q0).trans (hF_172 j )
      rw [hr_249]
      refine lv_istore (lv' := [(6, .int (nI 0)), (5, .int (nI 1)), (0, .ref b), (1, .ref (ad 0)), (2, .ref (ad 60)), (3, .ref (ad 99)), (4, .int (nI i))]) hx hb dL_law_1275 hl (by decide) rfl (fun ls hl => ?_)
      refine lv_aload_n hx hb dL_law_1277 rfl (lv_at hl 4 rfl) ?_
      refine k_Ri (va_runV (As := []) (rest := []) ⟨hx, hb, hml, hown, hts⟩ (c_X10_thrown l G z ad M_246 (th := 1) (ln := n) (on := jn) (ao := ao) (vr := vr) (sn := sn) (tp := len) (pt := pt) (zs := zs) (bg := bg) (fa := fw) hm_250) (cwV 0 hts (gV (lwg_of t_997 rfl) (lwg_of t_998 rfl) (lwg_of t_999 rfl) (lwg_of t_13 rfl) (lwg_of t_1000 rfl)) rfl rfl rfl (by decide +kernel) ⟨Nat.le_of_ble_eq_true rfl, Nat.le_of_ble_eq_true rfl⟩) (hI.preV hm_250 rfl) rfl rfl hl.1 rfl (lv_room (Nat.le_of_ble_eq_true rfl)) dL_law_1278 ⟨(show _ ≤ (601024 : Nat) from by omega), (show _ ≤ (7293034 : Nat) from by omega)⟩) (fun _ h => h) (fun r_323 hp_324 => ?_)
      rw [hp_324]
      refine lv_iload hx hb dL_law_1281 (lv_at hl 1 rfl) ?_
      refine lv_icmp_eq (tgt := 1288) hx hb dL_law_1283 (by decide) (fun c_325 => ?_) (fun c_325 => ?_)
      · -- 1283: nI 1 eq
        refine lv_iload hx hb dL_law_1288 (lv_at hl 1 rfl) ?_
        refine lv_if_ne (tgt := 1305) hx hb dL_law_1290 (by decide) (fun c_326 => ?_) (fun c_326 => ?_)
        · -- 1290: nI 1 ne
          refine lv_goto (tgt := 1333) hx hb dL_law_1305 (by decide) ?_
          refine W.widen (k := cz + 10) (n := sy + 300) (by omega) (by omega) ?_
          exact kk ad M_246 H_247 locs_248 ls n kd fm to sz rl en qa qs fw len tb le mo al ho jn hg lst jd s0 r0 th ol e0 mm9 ff lq ra rb rt rv qm pz sx ft rx dm rc ao vr kn nq pn av ro te sq su kb nb pb ab rbb tbb 1 sn pt zs bg mk mf mu mz rr ee oa ob s74 ak nm ap pr pf tf fv tr gv fo re us nx of hL_321 w1 w2 w3 w4 w5 w6 w7 w8 w9 w10 w11 w12 w13 w14 w15 w16 w17 w18 w19 w20 w21 w22 w23 w24 w25 w26 w27 w28 w29 (fun h9 => by rw [hF_322 17 (by omega), hF_322 18 (by omega)]; exact w30 h9) (by rw [hF_322 29 (by omega)]; exact w31) (fun j9 h9 => by rw [hF_322 j9 (by omega)]; exact w32 j9 h9) hm_252 hm_253 hm_254 hm_255 hm_256 hm_257 hm_258 hm_259 hm_260 hm_261 hm_262 hm_263 hm_264 hm_265 hm_266 hm_267 hm_268 hm_269 hm_270 hm_271 hm_272 hm_273 hm_274 hm_275 hm_276 hm_277 hm_278 hm_279 hm_280 hm_281 hm_282 hm_283 hm_284 hm_285 hm_286 hm_287 hm_288 hm_289 hm_290 hm_291 hm_250 hm_292 hm_293 hm_294 hm_295 hm_296 hm_297 hm_298 hm_299 hm_300 hm_301 hm_302 hm_303 hm_304 hm_305 hm_306 hm_307 hm_308 hm_309 hm_310 hm_311 hm_312 hm_313 hm_314 hm_315 hm_316 hm_317 hm_318 hm_319 hI (lv_sub hl [2, 3, 4, 5, 6] rfl)
        · -- 1290: nI 1 eq
          exact absurd c_326 (by decide)
      · -- 1283: nI 1 ne
        exact absurd (by decide) c_325
    · skip
      refine lv_aload_n hx hb dL_law_1217 rfl (lv_at hl 0 rfl) ?_
      obtain ⟨t2, ht2, et2⟩ := hc_165
      rcases (in_or 6 (xs (i + 3)) (by omega) : (xs (i + 3) < 0 ∨ ¬ xs (i + 3) < nI 6) ∨ (∃ t : Nat, t < 6 ∧ xs (i + 3) = nI t)) with hc_327 | hc_328
      · skip
        refine lv_iload hx hb dL_law_1218 (lv_at hl 4 rfl) ?_
        refine lv_iconst (v := nI 1) hx hb dL_law_1220 (by decide) ?_
        refine lv_iadd hx hb dL_law_1221 ?_
        refine n_eq (nI_add i 1) ?_
        refine va_sld (A := fr z) hx hb hX hbl hbz hI.S (vp_in_nI (n := i + 1) (by omega) (by omega)) dL_law_1222 ?_
        rw [nI_clamp (by omega)]
        refine n_eq (show _ = nI t1 from et1) ?_
        refine lv_aload_n hx hb dL_law_1223 rfl (lv_at hl 0 rfl) ?_
        refine lv_iload hx hb dL_law_1224 (lv_at hl 4 rfl) ?_
        refine lv_iconst (v := nI 2) hx hb dL_law_1226 (by decide) ?_
        refine lv_iadd hx hb dL_law_1227 ?_
        refine n_eq (nI_add i 2) ?_
        refine va_sld (A := fr z) hx hb hX hbl hbz hI.S (vp_in_nI (n := i + 2) (by omega) (by omega)) dL_law_1228 ?_
        rw [nI_clamp (by omega)]
        refine n_eq (show _ = nI t2 from et2) ?_
        refine lv_aload_n hx hb dL_law_1229 rfl (lv_at hl 0 rfl) ?_
        refine lv_iload hx hb dL_law_1230 (lv_at hl 4 rfl) ?_
        refine lv_iconst (v := nI 3) hx hb dL_law_1232 (by decide) ?_
        refine lv_iadd hx hb dL_law_1233 ?_
        refine n_eq (nI_add i 3) ?_
        refine va_sld (A := fr z) hx hb hX hbl hbz hI.S (vp_in_nI (n := i + 3) (by omega) (by omega)) dL_law_1234 ?_
        rw [nI_clamp (by omega)]
        refine lv_aload_n hx hb dL_law_1235 rfl (lv_at hl 0 rfl) ?_
        refine lv_iload hx hb dL_law_1236 (lv_at hl 4 rfl) ?_
        refine lv_iconst (v := nI 4) hx hb dL_law_1238 (by decide) ?_
        refine lv_iadd hx hb dL_law_1239 ?_
        refine n_eq (nI_add i 4) ?_
        refine va_sld (A := fr z) hx hb hX hbl hbz hI.S (vp_in_nI (n := i + 4) (by omega) (by omega)) dL_law_1240 ?_
        rw [nI_clamp (by omega)]
        refine lv_aload_n hx hb dL_law_1241 rfl (lv_at hl 3 rfl) ?_
        refine k_Ni (vx_runSW (As := [.ref (ad 0), .int (nI t1), .int (nI t2), .int (xs (i + 3)), .int (xs (i + 4)), .ref (ad 99)]) (rest := []) ⟨hx, hb, hml, hown, hts⟩ (c_L_degree_c l hst G z ad M (qa := qa) (qs := qs) (fw := fw) (a := t1) (kd := t2) (x2 := xs (i + 3)) (x3 := xs (i + 4)) f_0 ht1 ht2 hc_327) (vx_cwSW 6 hts (gSW (lwg_of t_986 rfl) (lwg_of t_987 rfl) (lwg_of t_0 rfl) (lwg_of t_988 rfl)) rfl rfl rfl (by decide +kernel) ⟨Nat.le_of_ble_eq_true rfl, Nat.le_of_ble_eq_true rfl⟩) hI.preS rfl rfl hl.1 rfl (lv_room (Nat.le_of_ble_eq_true rfl)) dL_law_1242 ⟨(show _ ≤ (601024 : Nat) from by omega), (show _ ≤ (7293034 : Nat) from by omega)⟩) hI (fun r_329 M_331 H_332 locs_333 hp_330 hI => ?_)
        obtain ⟨hr_334, hF_335⟩ := hp_330
        have hm_336 : M_331 0 = some (cStore ad qa qs fw) := by rw [hF_335 0 ]; exact f_0
        have hm_337 : M_331 1 = some (cTape ad len) := by rw [hF_335 1 ]; exact f_1
        have hm_338 : M_331 2 = some (aI G 400 (nF tb)) := by rw [hF_335 2 ]; exact f_2
        have hm_339 : M_331 3 = some (cLaws ad ) := by rw [hF_335 3 ]; exact f_3
        have hm_340 : M_331 4 = some (aI G 36 (nF le)) := by rw [hF_335 4 ]; exact f_4
        have hm_341 : M_331 5 = some (aI G 36 (nF mo)) := by rw [hF_335 5 ]; exact f_5
        have hm_342 : M_331 6 = some (aI G 36 (nF al)) := by rw [hF_335 6 ]; exact f_6
        have hm_343 : M_331 7 = some (aZ G 6 (bF ho)) := by rw [hF_335 7 ]; exact f_7
        have hm_344 : M_331 8 = some (cOnes ad jn) := by rw [hF_335 8 ]; exact f_8
        have hm_345 : M_331 9 = some (aI G 40 (nF hg)) := by rw [hF_335 9 ]; exact f_9
        have hm_346 : M_331 10 = some (aI G 40 (nF lst)) := by rw [hF_335 10 ]; exact f_10
        have hm_347 : M_331 11 = some (aI G 40 (nF jd)) := by rw [hF_335 11 ]; exact f_11
        have hm_348 : M_331 12 = some (cEnds ad 12 s0) := by rw [hF_335 12 ]; exact f_12
        have hm_349 : M_331 13 = some (aI G 6 (nF r0)) := by rw [hF_335 13 ]; exact f_13
        have hm_350 : M_331 14 = some (aI G 6 (oF th)) := by rw [hF_335 14 ]; exact f_14
        have hm_351 : M_331 15 = some (aI G 6 (oF ol)) := by rw [hF_335 15 ]; exact f_15
        have hm_352 : M_331 19 = some (aZ G 120 (bF mm9)) := by rw [hF_335 19 ]; exact f_19
        have hm_353 : M_331 20 = some (aI G 120 ff) := by rw [hF_335 20 ]; exact f_20
        have hm_354 : M_331 21 = some (aI G 120 lq) := by rw [hF_335 21 ]; exact f_21
        have hm_355 : M_331 22 = some (cReader ad ra rb rt rv) := by rw [hF_335 22 ]; exact f_22
        have hm_356 : M_331 23 = some (cMatcher ad qm pz) := by rw [hF_335 23 ]; exact f_23
        have hm_357 : M_331 24 = some (aJ G 2160 sx) := by rw [hF_335 24 ]; exact f_24
        have hm_358 : M_331 25 = some (aI G 6 (nF ft)) := by rw [hF_335 25 ]; exact f_25
        have hm_359 : M_331 26 = some (aJ G 240 rx) := by rw [hF_335 26 ]; exact f_26
        have hm_360 : M_331 27 = some (aJ G 3 dm) := by rw [hF_335 27 ]; exact f_27
        have hm_361 : M_331 28 = some (aI G 3 rc) := by rw [hF_335 28 ]; exact f_28
        have hm_362 : M_331 qa = some (cQuestion ad qa ao vr) := by rw [hF_335 qa ]; exact f_qa
        have hm_363 : M_331 (qa + 1) = some (aI G 6 (nF kn)) := by rw [hF_335 (qa + 1) ]; exact f_qa_1
        have hm_364 : M_331 (qa + 2) = some (aZ G 6 (bF nq)) := by rw [hF_335 (qa + 2) ]; exact f_qa_2
        have hm_365 : M_331 (qa + 3) = some (aI G 6 (nF pn)) := by rw [hF_335 (qa + 3) ]; exact f_qa_3
        have hm_366 : M_331 (qa + 4) = some (aI G 6 (nF av)) := by rw [hF_335 (qa + 4) ]; exact f_qa_4
        have hm_367 : M_331 (qa + 5) = some (aI G 24 (nF ro)) := by rw [hF_335 (qa + 5) ]; exact f_qa_5
        have hm_368 : M_331 (qa + 6) = some (aI G 24 (nF te)) := by rw [hF_335 (qa + 6) ]; exact f_qa_6
        have hm_369 : M_331 qs = some (cQuestion ad qs sq su) := by rw [hF_335 qs ]; exact f_qs
        have hm_370 : M_331 (qs + 1) = some (aI G 6 (nF kb)) := by rw [hF_335 (qs + 1) ]; exact f_qs_1
        have hm_371 : M_331 (qs + 2) = some (aZ G 6 (bF nb)) := by rw [hF_335 (qs + 2) ]; exact f_qs_2
        have hm_372 : M_331 (qs + 3) = some (aI G 6 (nF pb)) := by rw [hF_335 (qs + 3) ]; exact f_qs_3
        have hm_373 : M_331 (qs + 4) = some (aI G 6 (nF ab)) := by rw [hF_335 (qs + 4) ]; exact f_qs_4
        have hm_374 : M_331 (qs + 5) = some (aI G 24 (nF rbb)) := by rw [hF_335 (qs + 5) ]; exact f_qs_5
        have hm_375 : M_331 (qs + 6) = some (aI G 24 (nF tbb)) := by rw [hF_335 (qs + 6) ]; exact f_qs_6
        have hm_376 : M_331 60 = some (cModel ad tw n jn ao vr sn len pt zs bg fw) := by rw [hF_335 60 ]; exact f_60
        have hm_377 : M_331 61 = some (aI G 36 (nF le)) := by rw [hF_335 61 ]; exact f_61
        have hm_378 : M_331 62 = some (aI G 36 (nF mo)) := by rw [hF_335 62 ]; exact f_62
        have hm_379 : M_331 63 = some (aI G 36 (nF al)) := by rw [hF_335 63 ]; exact f_63
        have hm_380 : M_331 64 = some (aZ G 6 (bF ho)) := by rw [hF_335 64 ]; exact f_64
        have hm_381 : M_331 65 = some (aI G 120 (nF mk)) := by rw [hF_335 65 ]; exact f_65
        have hm_382 : M_331 66 = some (aI G 120 mf) := by rw [hF_335 66 ]; exact f_66
        have hm_383 : M_331 67 = some (aI G 120 mu) := by rw [hF_335 67 ]; exact f_67
        have hm_384 : M_331 68 = some (aI G 121 (nF mz)) := by rw [hF_335 68 ]; exact f_68
        have hm_385 : M_331 69 = some (aI G 726 (nF rr)) := by rw [hF_335 69 ]; exact f_69
        have hm_386 : M_331 70 = some (aI G 726 (nF ee)) := by rw [hF_335 70 ]; exact f_70
        have hm_387 : M_331 71 = some (aI G 40 (nF lst)) := by rw [hF_335 71 ]; exact f_71
        have hm_388 : M_331 72 = some (aI G 40 (nF oa)) := by rw [hF_335 72 ]; exact f_72
        have hm_389 : M_331 73 = some (aI G 40 (nF ob)) := by rw [hF_335 73 ]; exact f_73
        have hm_390 : M_331 74 = some (aI G 120 s74) := by rw [hF_335 74 ]; exact f_74
        have hm_391 : M_331 75 = some (aI G 12 ak) := by rw [hF_335 75 ]; exact f_75
        have hm_392 : M_331 76 = some (aZ G 12 (bF nm)) := by rw [hF_335 76 ]; exact f_76
        have hm_393 : M_331 77 = some (aI G 12 (nF ap)) := by rw [hF_335 77 ]; exact f_77
        have hm_394 : M_331 78 = some (aI G 48 pr) := by rw [hF_335 78 ]; exact f_78
        have hm_395 : M_331 79 = some (aI G 48 pf) := by rw [hF_335 79 ]; exact f_79
        have hm_396 : M_331 80 = some (aB G 400 tf) := by rw [hF_335 80 ]; exact f_80
        have hm_397 : M_331 81 = some (aI G 5 fv) := by rw [hF_335 81 ]; exact f_81
        have hm_398 : M_331 82 = some (aZ G 384000 (bF tr)) := by rw [hF_335 82 ]; exact f_82
        have hm_399 : M_331 83 = some (aI G 3 (oF gv)) := by rw [hF_335 83 ]; exact f_83
        have hm_400 : M_331 84 = some (aI G 3 fo) := by rw [hF_335 84 ]; exact f_84
        have hm_401 : M_331 85 = some (aZ G 40 (bF re)) := by rw [hF_335 85 ]; exact f_85
        have hm_402 : M_331 86 = some (aZ G 120 (bF us)) := by rw [hF_335 86 ]; exact f_86
        have hm_403 : M_331 87 = some (aZ G 120 (bF nx)) := by rw [hF_335 87 ]; exact f_87
        have hm_404 : M_331 99 = some (aJ G 1 of) := by rw [hF_335 99 ]; exact f_99
        have hm_405 : M_331 16 = some (cLines ad ) := by rw [hF_335 16 ]; exact h16
        have hL_406 : LSm G ad M_331 n kd fm to sz rl en := fL.keep (fun j hj => hF_335 j )
        rw [hr_334]
        refine lv_istore (lv' := [(5, .int (nI 1)), (0, .ref b), (1, .ref (ad 0)), (2, .ref (ad 60)), (3, .ref (ad 99)), (4, .int (nI i))]) hx hb dL_law_1245 hl (by decide) rfl (fun ls hl => ?_)
        refine lv_aload_n hx hb dL_law_1247 rfl (lv_at hl 3 rfl) ?_
        refine lv_aload_n hx hb dL_law_1248 rfl (lv_at hl 1 rfl) ?_
        refine lv_iload hx hb dL_law_1249 (lv_at hl 5 rfl) ?_
        refine lv_iconst (v := nI 1) hx hb dL_law_1251 (by decide) ?_
        refine lv_iadd hx hb dL_law_1252 ?_
        refine n_eq (nI_add i 1) ?_
        refine va_sld (A := fr z) hx hb hX hbl hbz hI.S (vp_in_nI (n := i + 1) (by omega) (by omega)) dL_law_1253 ?_
        rw [nI_clamp (by omega)]
        refine n_eq (show _ = nI t1 from et1) ?_
        refine lv_aload_n hx hb dL_law_1254 rfl (lv_at hl 1 rfl) ?_
        refine lv_iload hx hb dL_law_1255 (lv_at hl 5 rfl) ?_
        refine lv_iconst (v := nI 2) hx hb dL_law_1257 (by decide) ?_
        refine lv_iadd hx hb dL_law_1258 ?_
        refine n_eq (nI_add i 2) ?_
        refine va_sld (A := fr z) hx hb hX hbl hbz hI.S (vp_in_nI (n := i + 2) (by omega) (by omega)) dL_law_1259 ?_
        rw [nI_clamp (by omega)]
        refine n_eq (show _ = nI t2 from et2) ?_
        refine lv_aload_n hx hb dL_law_1260 rfl (lv_at hl 1 rfl) ?_
        refine lv_iload hx hb dL_law_1261 (lv_at hl 5 rfl) ?_
        refine lv_iconst (v := nI 3) hx hb dL_law_1263 (by decide) ?_
        refine lv_iadd hx hb dL_law_1264 ?_
        refine n_eq (nI_add i 3) ?_
        refine va_sld (A := fr z) hx hb hX hbl hbz hI.S (vp_in_nI (n := i + 3) (by omega) (by omega)) dL_law_1265 ?_
        rw [nI_clamp (by omega)]
        refine lv_aload_n hx hb dL_law_1266 rfl (lv_at hl 1 rfl) ?_
        refine lv_iload hx hb dL_law_1267 (lv_at hl 5 rfl) ?_
        refine lv_iconst (v := nI 4) hx hb dL_law_1269 (by decide) ?_
        refine lv_iadd hx hb dL_law_1270 ?_
        refine n_eq (nI_add i 4) ?_
        refine va_sld (A := fr z) hx hb hX hbl hbz hI.S (vp_in_nI (n := i + 4) (by omega) (by omega)) dL_law_1271 ?_
        rw [nI_clamp (by omega)]
        refine k_Ni (va_runV (As := [.int (nI t1), .int (nI t2), .int (xs (i + 3)), .int (xs (i + 4))]) (rest := []) ⟨hx, hb, hml, hown, hts⟩ (c_X10_degree_c l G z ad M_331 (th := tw) (ln := n) (on := jn) (ao := ao) (vr := vr) (sn := sn) (tp := len) (pt := pt) (zs := zs) (bg := bg) (fa := fw) (a := t1) (kd := t2) (x2 := xs (i + 3)) (x3 := xs (i + 4)) hm_376 ht1 ht2 hc_327) (cwV 4 hts (gV (lwg_of t_1362 rfl) (lwg_of t_1363 rfl) (lwg_of t_1364 rfl) (lwg_of t_13 rfl) (lwg_of t_1365 rfl)) rfl rfl rfl (by decide +kernel) ⟨Nat.le_of_ble_eq_true rfl, Nat.le_of_ble_eq_true rfl⟩) (hI.preV hm_376 rfl) rfl rfl hl.1 rfl (lv_room (Nat.le_of_ble_eq_true rfl)) dL_law_1272 ⟨(show _ ≤ (601024 : Nat) from by omega), (show _ ≤ (7293034 : Nat) from by omega)⟩) hI (fun r_407 M_409 H_410 locs_411 hp_408 hI => ?_)
        obtain ⟨hr_412, hm_413, hF_414⟩ := hp_408
        have hm_415 : M_409 0 = some (cStore ad qa qs fw) := by rw [hF_414 0 (by omega)]; exact hm_336
        have hm_416 : M_409 1 = some (cTape ad len) := by rw [hF_414 1 (by omega)]; exact hm_337
        have hm_417 : M_409 2 = some (aI G 400 (nF tb)) := by rw [hF_414 2 (by omega)]; exact hm_338
        have hm_418 : M_409 3 = some (cLaws ad ) := by rw [hF_414 3 (by omega)]; exact hm_339
        have hm_419 : M_409 4 = some (aI G 36 (nF le)) := by rw [hF_414 4 (by omega)]; exact hm_340
        have hm_420 : M_409 5 = some (aI G 36 (nF mo)) := by rw [hF_414 5 (by omega)]; exact hm_341
        have hm_421 : M_409 6 = some (aI G 36 (nF al)) := by rw [hF_414 6 (by omega)]; exact hm_342
        have hm_422 : M_409 7 = some (aZ G 6 (bF ho)) := by rw [hF_414 7 (by omega)]; exact hm_343
        have hm_423 : M_409 8 = some (cOnes ad jn) := by rw [hF_414 8 (by omega)]; exact hm_344
        have hm_424 : M_409 9 = some (aI G 40 (nF hg)) := by rw [hF_414 9 (by omega)]; exact hm_345
        have hm_425 : M_409 10 = some (aI G 40 (nF lst)) := by rw [hF_414 10 (by omega)]; exact hm_346
        have hm_426 : M_409 11 = some (aI G 40 (nF jd)) := by rw [hF_414 11 (by omega)]; exact hm_347
        have hm_427 : M_409 12 = some (cEnds ad 12 s0) := by rw [hF_414 12 (by omega)]; exact hm_348
        have hm_428 : M_409 13 = some (aI G 6 (nF r0)) := by rw [hF_414 13 (by omega)]; exact hm_349
        have hm_429 : M_409 14 = some (aI G 6 (oF th)) := by rw [hF_414 14 (by omega)]; exact hm_350
        have hm_430 : M_409 15 = some (aI G 6 (oF ol)) := by rw [hF_414 15 (by omega)]; exact hm_351
        have hm_431 : M_409 19 = some (aZ G 120 (bF mm9)) := by rw [hF_414 19 (by omega)]; exact hm_352
        have hm_432 : M_409 20 = some (aI G 120 ff) := by rw [hF_414 20 (by omega)]; exact hm_353
        have hm_433 : M_409 21 = some (aI G 120 lq) := by rw [hF_414 21 (by omega)]; exact hm_354
        have hm_434 : M_409 22 = some (cReader ad ra rb rt rv) := by rw [hF_414 22 (by omega)]; exact hm_355
        have hm_435 : M_409 23 = some (cMatcher ad qm pz) := by rw [hF_414 23 (by omega)]; exact hm_356
        have hm_436 : M_409 24 = some (aJ G 2160 sx) := by rw [hF_414 24 (by omega)]; exact hm_357
        have hm_437 : M_409 25 = some (aI G 6 (nF ft)) := by rw [hF_414 25 (by omega)]; exact hm_358
        have hm_438 : M_409 26 = some (aJ G 240 rx) := by rw [hF_414 26 (by omega)]; exact hm_359
        have hm_439 : M_409 27 = some (aJ G 3 dm) := by rw [hF_414 27 (by omega)]; exact hm_360
        have hm_440 : M_409 28 = some (aI G 3 rc) := by rw [hF_414 28 (by omega)]; exact hm_361
        have hm_441 : M_409 qa = some (cQuestion ad qa ao vr) := by rw [hF_414 qa (by omega)]; exact hm_362
        have hm_442 : M_409 (qa + 1) = some (aI G 6 (nF kn)) := by rw [hF_414 (qa + 1) (by omega)]; exact hm_363
        have hm_443 : M_409 (qa + 2) = some (aZ G 6 (bF nq)) := by rw [hF_414 (qa + 2) (by omega)]; exact hm_364
        have hm_444 : M_409 (qa + 3) = some (aI G 6 (nF pn)) := by rw [hF_414 (qa + 3) (by omega)]; exact hm_365
        have hm_445 : M_409 (qa + 4) = some (aI G 6 (nF av)) := by rw [hF_414 (qa + 4) (by omega)]; exact hm_366
        have hm_446 : M_409 (qa + 5) = some (aI G 24 (nF ro)) := by rw [hF_414 (qa + 5) (by omega)]; exact hm_367
        have hm_447 : M_409 (qa + 6) = some (aI G 24 (nF te)) := by rw [hF_414 (qa + 6) (by omega)]; exact hm_368
        have hm_448 : M_409 qs = some (cQuestion ad qs sq su) := by rw [hF_414 qs (by omega)]; exact hm_369
        have hm_449 : M_409 (qs + 1) = some (aI G 6 (nF kb)) := by rw [hF_414 (qs + 1) (by omega)]; exact hm_370
        have hm_450 : M_409 (qs + 2) = some (aZ G 6 (bF nb)) := by rw [hF_414 (qs + 2) (by omega)]; exact hm_371
        have hm_451 : M_409 (qs + 3) = some (aI G 6 (nF pb)) := by rw [hF_414 (qs + 3) (by omega)]; exact hm_372
        have hm_452 : M_409 (qs + 4) = some (aI G 6 (nF ab)) := by rw [hF_414 (qs + 4) (by omega)]; exact hm_373
        have hm_453 : M_409 (qs + 5) = some (aI G 24 (nF rbb)) := by rw [hF_414 (qs + 5) (by omega)]; exact hm_374
        have hm_454 : M_409 (qs + 6) = some (aI G 24 (nF tbb)) := by rw [hF_414 (qs + 6) (by omega)]; exact hm_375
        have hm_455 : M_409 61 = some (aI G 36 (nF le)) := by rw [hF_414 61 (by omega)]; exact hm_377
        have hm_456 : M_409 62 = some (aI G 36 (nF mo)) := by rw [hF_414 62 (by omega)]; exact hm_378
        have hm_457 : M_409 63 = some (aI G 36 (nF al)) := by rw [hF_414 63 (by omega)]; exact hm_379
        have hm_458 : M_409 64 = some (aZ G 6 (bF ho)) := by rw [hF_414 64 (by omega)]; exact hm_380
        have hm_459 : M_409 65 = some (aI G 120 (nF mk)) := by rw [hF_414 65 (by omega)]; exact hm_381
        have hm_460 : M_409 66 = some (aI G 120 mf) := by rw [hF_414 66 (by omega)]; exact hm_382
        have hm_461 : M_409 67 = some (aI G 120 mu) := by rw [hF_414 67 (by omega)]; exact hm_383
        have hm_462 : M_409 68 = some (aI G 121 (nF mz)) := by rw [hF_414 68 (by omega)]; exact hm_384
        have hm_463 : M_409 69 = some (aI G 726 (nF rr)) := by rw [hF_414 69 (by omega)]; exact hm_385
        have hm_464 : M_409 70 = some (aI G 726 (nF ee)) := by rw [hF_414 70 (by omega)]; exact hm_386
        have hm_465 : M_409 71 = some (aI G 40 (nF lst)) := by rw [hF_414 71 (by omega)]; exact hm_387
        have hm_466 : M_409 72 = some (aI G 40 (nF oa)) := by rw [hF_414 72 (by omega)]; exact hm_388
        have hm_467 : M_409 73 = some (aI G 40 (nF ob)) := by rw [hF_414 73 (by omega)]; exact hm_389
        have hm_468 : M_409 74 = some (aI G 120 s74) := by rw [hF_414 74 (by omega)]; exact hm_390
        have hm_469 : M_409 75 = some (aI G 12 ak) := by rw [hF_414 75 (by omega)]; exact hm_391
        have hm_470 : M_409 76 = some (aZ G 12 (bF nm)) := by rw [hF_414 76 (by omega)]; exact hm_392
        have hm_471 : M_409 77 = some (aI G 12 (nF ap)) := by rw [hF_414 77 (by omega)]; exact hm_393
        have hm_472 : M_409 78 = some (aI G 48 pr) := by rw [hF_414 78 (by omega)]; exact hm_394
        have hm_473 : M_409 79 = some (aI G 48 pf) := by rw [hF_414 79 (by omega)]; exact hm_395
        have hm_474 : M_409 80 = some (aB G 400 tf) := by rw [hF_414 80 (by omega)]; exact hm_396
        have hm_475 : M_409 81 = some (aI G 5 fv) := by rw [hF_414 81 (by omega)]; exact hm_397
        have hm_476 : M_409 82 = some (aZ G 384000 (bF tr)) := by rw [hF_414 82 (by omega)]; exact hm_398
        have hm_477 : M_409 83 = some (aI G 3 (oF gv)) := by rw [hF_414 83 (by omega)]; exact hm_399
        have hm_478 : M_409 84 = some (aI G 3 fo) := by rw [hF_414 84 (by omega)]; exact hm_400
        have hm_479 : M_409 85 = some (aZ G 40 (bF re)) := by rw [hF_414 85 (by omega)]; exact hm_401
        have hm_480 : M_409 86 = some (aZ G 120 (bF us)) := by rw [hF_414 86 (by omega)]; exact hm_402
        have hm_481 : M_409 87 = some (aZ G 120 (bF nx)) := by rw [hF_414 87 (by omega)]; exact hm_403
        have hm_482 : M_409 99 = some (aJ G 1 of) := by rw [hF_414 99 (by omega)]; exact hm_404
        have hm_483 : M_409 16 = some (cLines ad ) := by rw [hF_414 16 (by omega)]; exact hm_405
        have hL_484 : LSm G ad M_409 n kd fm to sz rl en := hL_406.keep (fun j hj => hF_414 j (by omega))
        have hF_485 : ∀ j : Nat, j ≠ 60 → M_409 j = M j := fun j q0 => (hF_414 j q0).trans (hF_335 j )
        rw [hr_412]
        refine lv_istore (lv' := [(6, .int (nI 0)), (5, .int (nI 1)), (0, .ref b), (1, .ref (ad 0)), (2, .ref (ad 60)), (3, .ref (ad 99)), (4, .int (nI i))]) hx hb dL_law_1275 hl (by decide) rfl (fun ls hl => ?_)
        refine lv_aload_n hx hb dL_law_1277 rfl (lv_at hl 4 rfl) ?_
        refine k_Ri (va_runV (As := []) (rest := []) ⟨hx, hb, hml, hown, hts⟩ (c_X10_thrown l G z ad M_409 (th := 1) (ln := n) (on := jn) (ao := ao) (vr := vr) (sn := sn) (tp := len) (pt := pt) (zs := zs) (bg := bg) (fa := fw) hm_413) (cwV 0 hts (gV (lwg_of t_997 rfl) (lwg_of t_998 rfl) (lwg_of t_999 rfl) (lwg_of t_13 rfl) (lwg_of t_1000 rfl)) rfl rfl rfl (by decide +kernel) ⟨Nat.le_of_ble_eq_true rfl, Nat.le_of_ble_eq_true rfl⟩) (hI.preV hm_413 rfl) rfl rfl hl.1 rfl (lv_room (Nat.le_of_ble_eq_true rfl)) dL_law_1278 ⟨(show _ ≤ (601024 : Nat) from by omega), (show _ ≤ (7293034 : Nat) from by omega)⟩) (fun _ h => h) (fun r_486 hp_487 => ?_)
        rw [hp_487]
        refine lv_iload hx hb dL_law_1281 (lv_at hl 1 rfl) ?_
        refine lv_icmp_eq (tgt := 1288) hx hb dL_law_1283 (by decide) (fun c_488 => ?_) (fun c_488 => ?_)
        · -- 1283: nI 1 eq
          refine lv_iload hx hb dL_law_1288 (lv_at hl 1 rfl) ?_
          refine lv_if_ne (tgt := 1305) hx hb dL_law_1290 (by decide) (fun c_489 => ?_) (fun c_489 => ?_)
          · -- 1290: nI 1 ne
            refine lv_goto (tgt := 1333) hx hb dL_law_1305 (by decide) ?_
            refine W.widen (k := cz + 10) (n := sy + 300) (by omega) (by omega) ?_
            exact kk ad M_409 H_410 locs_411 ls n kd fm to sz rl en qa qs fw len tb le mo al ho jn hg lst jd s0 r0 th ol e0 mm9 ff lq ra rb rt rv qm pz sx ft rx dm rc ao vr kn nq pn av ro te sq su kb nb pb ab rbb tbb 1 sn pt zs bg mk mf mu mz rr ee oa ob s74 ak nm ap pr pf tf fv tr gv fo re us nx of hL_484 w1 w2 w3 w4 w5 w6 w7 w8 w9 w10 w11 w12 w13 w14 w15 w16 w17 w18 w19 w20 w21 w22 w23 w24 w25 w26 w27 w28 w29 (fun h9 => by rw [hF_485 17 (by omega), hF_485 18 (by omega)]; exact w30 h9) (by rw [hF_485 29 (by omega)]; exact w31) (fun j9 h9 => by rw [hF_485 j9 (by omega)]; exact w32 j9 h9) hm_415 hm_416 hm_417 hm_418 hm_419 hm_420 hm_421 hm_422 hm_423 hm_424 hm_425 hm_426 hm_427 hm_428 hm_429 hm_430 hm_431 hm_432 hm_433 hm_434 hm_435 hm_436 hm_437 hm_438 hm_439 hm_440 hm_441 hm_442 hm_443 hm_444 hm_445 hm_446 hm_447 hm_448 hm_449 hm_450 hm_451 hm_452 hm_453 hm_454 hm_413 hm_455 hm_456 hm_457 hm_458 hm_459 hm_460 hm_461 hm_462 hm_463 hm_464 hm_465 hm_466 hm_467 hm_468 hm_469 hm_470 hm_471 hm_472 hm_473 hm_474 hm_475 hm_476 hm_477 hm_478 hm_479 hm_480 hm_481 hm_482 hI (lv_sub hl [2, 3, 4, 5, 6] rfl)
          · -- 1290: nI 1 eq
            exact absurd c_489 (by decide)
        · -- 1283: nI 1 ne
          exact absurd (by decide) c_488
      · skip
        refine lv_iload hx hb dL_law_1218 (lv_at hl 4 rfl) ?_
        obtain ⟨t3, ht3, et3⟩ := hc_328
        refine lv_iconst (v := nI 1) hx hb dL_law_1220 (by decide) ?_
        refine lv_iadd hx hb dL_law_1221 ?_
        refine n_eq (nI_add i 1) ?_
        refine va_sld (A := fr z) hx hb hX hbl hbz hI.S (vp_in_nI (n := i + 1) (by omega) (by omega)) dL_law_1222 ?_
        rw [nI_clamp (by omega)]
        refine n_eq (show _ = nI t1 from et1) ?_
        refine lv_aload_n hx hb dL_law_1223 rfl (lv_at hl 0 rfl) ?_
        refine lv_iload hx hb dL_law_1224 (lv_at hl 4 rfl) ?_
        refine lv_iconst (v := nI 2) hx hb dL_law_1226 (by decide) ?_
        refine lv_iadd hx hb dL_law_1227 ?_
        refine n_eq (nI_add i 2) ?_
        refine va_sld (A := fr z) hx hb hX hbl hbz hI.S (vp_in_nI (n := i + 2) (by omega) (by omega)) dL_law_1228 ?_
        rw [nI_clamp (by omega)]
        refine n_eq (show _ = nI t2 from et2) ?_
        refine lv_aload_n hx hb dL_law_1229 rfl (lv_at hl 0 rfl) ?_
        refine lv_iload hx hb dL_law_1230 (lv_at hl 4 rfl) ?_
        refine lv_iconst (v := nI 3) hx hb dL_law_1232 (by decide) ?_
        refine lv_iadd hx hb dL_law_1233 ?_
        refine n_eq (nI_add i 3) ?_
        refine va_sld (A := fr z) hx hb hX hbl hbz hI.S (vp_in_nI (n := i + 3) (by omega) (by omega)) dL_law_1234 ?_
        rw [nI_clamp (by omega)]
        refine n_eq (show _ = nI t3 from et3) ?_
        refine lv_aload_n hx hb dL_law_1235 rfl (lv_at hl 0 rfl) ?_
        refine lv_iload hx hb dL_law_1236 (lv_at hl 4 rfl) ?_
        refine lv_iconst (v := nI 4) hx hb dL_law_1238 (by decide) ?_
        refine lv_iadd hx hb dL_law_1239 ?_
        refine n_eq (nI_add i 4) ?_
        refine va_sld (A := fr z) hx hb hX hbl hbz hI.S (vp_in_nI (n := i + 4) (by omega) (by omega)) dL_law_1240 ?_
        rw [nI_clamp (by omega)]
        refine lv_aload_n hx hb dL_law_1241 rfl (lv_at hl 3 rfl) ?_
        refine k_Ni (vx_runSW (As := [.ref (ad 0), .int (nI t1), .int (nI t2), .int (nI t3), .int (xs (i + 4)), .ref (ad 99)]) (rest := []) ⟨hx, hb, hml, hown, hts⟩ (c_L_degree l hst G z ad M (n := n) (kd := kd) (fm := fm) (to := to) (sz := sz) (rl := rl) (en := en) (qa := qa) (qs := qs) (fw := fw) (jn := jn) (lst := lst) (t := t1) (q := t2) (x := t3) (d := xs (i + 4)) (of := of) fL f_0 f_8 f_10 f_99 w1 hlst ht1 ht2 ht3) (vx_cwSW 6 hts (gSW (lwg_of t_986 rfl) (lwg_of t_987 rfl) (lwg_of t_0 rfl) (lwg_of t_988 rfl)) rfl rfl rfl (by decide +kernel) ⟨Nat.le_of_ble_eq_true rfl, Nat.le_of_ble_eq_true rfl⟩) hI.preS rfl rfl hl.1 rfl (lv_room (Nat.le_of_ble_eq_true rfl)) dL_law_1242 ⟨(show _ ≤ (601024 : Nat) from by omega), (show _ ≤ (7293034 : Nat) from by omega)⟩) hI (fun r_490 M_492 H_493 locs_494 hp_491 hI => ?_)
        obtain ⟨hr_495, hm_496, hF_497⟩ := hp_491
        have hm_498 : M_492 0 = some (cStore ad qa qs fw) := by rw [hF_497 0 (by omega)]; exact f_0
        have hm_499 : M_492 1 = some (cTape ad len) := by rw [hF_497 1 (by omega)]; exact f_1
        have hm_500 : M_492 2 = some (aI G 400 (nF tb)) := by rw [hF_497 2 (by omega)]; exact f_2
        have hm_501 : M_492 3 = some (cLaws ad ) := by rw [hF_497 3 (by omega)]; exact f_3
        have hm_502 : M_492 4 = some (aI G 36 (nF le)) := by rw [hF_497 4 (by omega)]; exact f_4
        have hm_503 : M_492 5 = some (aI G 36 (nF mo)) := by rw [hF_497 5 (by omega)]; exact f_5
        have hm_504 : M_492 6 = some (aI G 36 (nF al)) := by rw [hF_497 6 (by omega)]; exact f_6
        have hm_505 : M_492 7 = some (aZ G 6 (bF ho)) := by rw [hF_497 7 (by omega)]; exact f_7
        have hm_506 : M_492 8 = some (cOnes ad jn) := by rw [hF_497 8 (by omega)]; exact f_8
        have hm_507 : M_492 9 = some (aI G 40 (nF hg)) := by rw [hF_497 9 (by omega)]; exact f_9
        have hm_508 : M_492 10 = some (aI G 40 (nF lst)) := by rw [hF_497 10 (by omega)]; exact f_10
        have hm_509 : M_492 11 = some (aI G 40 (nF jd)) := by rw [hF_497 11 (by omega)]; exact f_11
        have hm_510 : M_492 12 = some (cEnds ad 12 s0) := by rw [hF_497 12 (by omega)]; exact f_12
        have hm_511 : M_492 13 = some (aI G 6 (nF r0)) := by rw [hF_497 13 (by omega)]; exact f_13
        have hm_512 : M_492 14 = some (aI G 6 (oF th)) := by rw [hF_497 14 (by omega)]; exact f_14
        have hm_513 : M_492 15 = some (aI G 6 (oF ol)) := by rw [hF_497 15 (by omega)]; exact f_15
        have hm_514 : M_492 19 = some (aZ G 120 (bF mm9)) := by rw [hF_497 19 (by omega)]; exact f_19
        have hm_515 : M_492 20 = some (aI G 120 ff) := by rw [hF_497 20 (by omega)]; exact f_20
        have hm_516 : M_492 21 = some (aI G 120 lq) := by rw [hF_497 21 (by omega)]; exact f_21
        have hm_517 : M_492 22 = some (cReader ad ra rb rt rv) := by rw [hF_497 22 (by omega)]; exact f_22
        have hm_518 : M_492 23 = some (cMatcher ad qm pz) := by rw [hF_497 23 (by omega)]; exact f_23
        have hm_519 : M_492 24 = some (aJ G 2160 sx) := by rw [hF_497 24 (by omega)]; exact f_24
        have hm_520 : M_492 25 = some (aI G 6 (nF ft)) := by rw [hF_497 25 (by omega)]; exact f_25
        have hm_521 : M_492 26 = some (aJ G 240 rx) := by rw [hF_497 26 (by omega)]; exact f_26
        have hm_522 : M_492 27 = some (aJ G 3 dm) := by rw [hF_497 27 (by omega)]; exact f_27
        have hm_523 : M_492 28 = some (aI G 3 rc) := by rw [hF_497 28 (by omega)]; exact f_28
        have hm_524 : M_492 qa = some (cQuestion ad qa ao vr) := by rw [hF_497 qa (by omega)]; exact f_qa
        have hm_525 : M_492 (qa + 1) = some (aI G 6 (nF kn)) := by rw [hF_497 (qa + 1) (by omega)]; exact f_qa_1
        have hm_526 : M_492 (qa + 2) = some (aZ G 6 (bF nq)) := by rw [hF_497 (qa + 2) (by omega)]; exact f_qa_2
        have hm_527 : M_492 (qa + 3) = some (aI G 6 (nF pn)) := by rw [hF_497 (qa + 3) (by omega)]; exact f_qa_3
        have hm_528 : M_492 (qa + 4) = some (aI G 6 (nF av)) := by rw [hF_497 (qa + 4) (by omega)]; exact f_qa_4
        have hm_529 : M_492 (qa + 5) = some (aI G 24 (nF ro)) := by rw [hF_497 (qa + 5) (by omega)]; exact f_qa_5
        have hm_530 : M_492 (qa + 6) = some (aI G 24 (nF te)) := by rw [hF_497 (qa + 6) (by omega)]; exact f_qa_6
        have hm_531 : M_492 qs = some (cQuestion ad qs sq su) := by rw [hF_497 qs (by omega)]; exact f_qs
        have hm_532 : M_492 (qs + 1) = some (aI G 6 (nF kb)) := by rw [hF_497 (qs + 1) (by omega)]; exact f_qs_1
        have hm_533 : M_492 (qs + 2) = some (aZ G 6 (bF nb)) := by rw [hF_497 (qs + 2) (by omega)]; exact f_qs_2
        have hm_534 : M_492 (qs + 3) = some (aI G 6 (nF pb)) := by rw [hF_497 (qs + 3) (by omega)]; exact f_qs_3
        have hm_535 : M_492 (qs + 4) = some (aI G 6 (nF ab)) := by rw [hF_497 (qs + 4) (by omega)]; exact f_qs_4
        have hm_536 : M_492 (qs + 5) = some (aI G 24 (nF rbb)) := by rw [hF_497 (qs + 5) (by omega)]; exact f_qs_5
        have hm_537 : M_492 (qs + 6) = some (aI G 24 (nF tbb)) := by rw [hF_497 (qs + 6) (by omega)]; exact f_qs_6
        have hm_538 : M_492 60 = some (cModel ad tw n jn ao vr sn len pt zs bg fw) := by rw [hF_497 60 (by omega)]; exact f_60
        have hm_539 : M_492 61 = some (aI G 36 (nF le)) := by rw [hF_497 61 (by omega)]; exact f_61
        have hm_540 : M_492 62 = some (aI G 36 (nF mo)) := by rw [hF_497 62 (by omega)]; exact f_62
        have hm_541 : M_492 63 = some (aI G 36 (nF al)) := by rw [hF_497 63 (by omega)]; exact f_63
        have hm_542 : M_492 64 = some (aZ G 6 (bF ho)) := by rw [hF_497 64 (by omega)]; exact f_64
        have hm_543 : M_492 65 = some (aI G 120 (nF mk)) := by rw [hF_497 65 (by omega)]; exact f_65
        have hm_544 : M_492 66 = some (aI G 120 mf) := by rw [hF_497 66 (by omega)]; exact f_66
        have hm_545 : M_492 67 = some (aI G 120 mu) := by rw [hF_497 67 (by omega)]; exact f_67
        have hm_546 : M_492 68 = some (aI G 121 (nF mz)) := by rw [hF_497 68 (by omega)]; exact f_68
        have hm_547 : M_492 69 = some (aI G 726 (nF rr)) := by rw [hF_497 69 (by omega)]; exact f_69
        have hm_548 : M_492 70 = some (aI G 726 (nF ee)) := by rw [hF_497 70 (by omega)]; exact f_70
        have hm_549 : M_492 71 = some (aI G 40 (nF lst)) := by rw [hF_497 71 (by omega)]; exact f_71
        have hm_550 : M_492 72 = some (aI G 40 (nF oa)) := by rw [hF_497 72 (by omega)]; exact f_72
        have hm_551 : M_492 73 = some (aI G 40 (nF ob)) := by rw [hF_497 73 (by omega)]; exact f_73
        have hm_552 : M_492 74 = some (aI G 120 s74) := by rw [hF_497 74 (by omega)]; exact f_74
        have hm_553 : M_492 75 = some (aI G 12 ak) := by rw [hF_497 75 (by omega)]; exact f_75
        have hm_554 : M_492 76 = some (aZ G 12 (bF nm)) := by rw [hF_497 76 (by omega)]; exact f_76
        have hm_555 : M_492 77 = some (aI G 12 (nF ap)) := by rw [hF_497 77 (by omega)]; exact f_77
        have hm_556 : M_492 78 = some (aI G 48 pr) := by rw [hF_497 78 (by omega)]; exact f_78
        have hm_557 : M_492 79 = some (aI G 48 pf) := by rw [hF_497 79 (by omega)]; exact f_79
        have hm_558 : M_492 80 = some (aB G 400 tf) := by rw [hF_497 80 (by omega)]; exact f_80
        have hm_559 : M_492 81 = some (aI G 5 fv) := by rw [hF_497 81 (by omega)]; exact f_81
        have hm_560 : M_492 82 = some (aZ G 384000 (bF tr)) := by rw [hF_497 82 (by omega)]; exact f_82
        have hm_561 : M_492 83 = some (aI G 3 (oF gv)) := by rw [hF_497 83 (by omega)]; exact f_83
        have hm_562 : M_492 84 = some (aI G 3 fo) := by rw [hF_497 84 (by omega)]; exact f_84
        have hm_563 : M_492 85 = some (aZ G 40 (bF re)) := by rw [hF_497 85 (by omega)]; exact f_85
        have hm_564 : M_492 86 = some (aZ G 120 (bF us)) := by rw [hF_497 86 (by omega)]; exact f_86
        have hm_565 : M_492 87 = some (aZ G 120 (bF nx)) := by rw [hF_497 87 (by omega)]; exact f_87
        have hm_566 : M_492 16 = some (cLines ad ) := by rw [hF_497 16 (by omega)]; exact h16
        have hL_567 : LSm G ad M_492 n kd fm to sz rl en := fL.keep (fun j hj => hF_497 j (by omega))
        have hF_568 : ∀ j : Nat, j ≠ 99 → M_492 j = M j := fun j q0 => (hF_497 j q0)
        rw [hr_495]
        refine lv_istore (lv' := [(5, .int (nI 0)), (0, .ref b), (1, .ref (ad 0)), (2, .ref (ad 60)), (3, .ref (ad 99)), (4, .int (nI i))]) hx hb dL_law_1245 hl (by decide) rfl (fun ls hl => ?_)
        refine lv_aload_n hx hb dL_law_1247 rfl (lv_at hl 3 rfl) ?_
        refine lv_aload_n hx hb dL_law_1248 rfl (lv_at hl 1 rfl) ?_
        refine lv_iload hx hb dL_law_1249 (lv_at hl 5 rfl) ?_
        refine lv_iconst (v := nI 1) hx hb dL_law_1251 (by decide) ?_
        refine lv_iadd hx hb dL_law_1252 ?_
        refine n_eq (nI_add i 1) ?_
        refine va_sld (A := fr z) hx hb hX hbl hbz hI.S (vp_in_nI (n := i + 1) (by omega) (by omega)) dL_law_1253 ?_
        rw [nI_clamp (by omega)]
        refine n_eq (show _ = nI t1 from et1) ?_
        refine lv_aload_n hx hb dL_law_1254 rfl (lv_at hl 1 rfl) ?_
        refine lv_iload hx hb dL_law_1255 (lv_at hl 5 rfl) ?_
        refine lv_iconst (v := nI 2) hx hb dL_law_1257 (by decide) ?_
        refine lv_iadd hx hb dL_law_1258 ?_
        refine n_eq (nI_add i 2) ?_
        refine va_sld (A := fr z) hx hb hX hbl hbz hI.S (vp_in_nI (n := i + 2) (by omega) (by omega)) dL_law_1259 ?_
        rw [nI_clamp (by omega)]
        refine n_eq (show _ = nI t2 from et2) ?_
        refine lv_aload_n hx hb dL_law_1260 rfl (lv_at hl 1 rfl) ?_
        refine lv_iload hx hb dL_law_1261 (lv_at hl 5 rfl) ?_
        refine lv_iconst (v := nI 3) hx hb dL_law_1263 (by decide) ?_
        refine lv_iadd hx hb dL_law_1264 ?_
        refine n_eq (nI_add i 3) ?_
        refine va_sld (A := fr z) hx hb hX hbl hbz hI.S (vp_in_nI (n := i + 3) (by omega) (by omega)) dL_law_1265 ?_
        rw [nI_clamp (by omega)]
        refine n_eq (show _ = nI t3 from et3) ?_
        refine lv_aload_n hx hb dL_law_1266 rfl (lv_at hl 1 rfl) ?_
        refine lv_iload hx hb dL_law_1267 (lv_at hl 5 rfl) ?_
        refine lv_iconst (v := nI 4) hx hb dL_law_1269 (by decide) ?_
        refine lv_iadd hx hb dL_law_1270 ?_
        refine n_eq (nI_add i 4) ?_
        refine va_sld (A := fr z) hx hb hX hbl hbz hI.S (vp_in_nI (n := i + 4) (by omega) (by omega)) dL_law_1271 ?_
        rw [nI_clamp (by omega)]
        refine k_Ni (va_runV (As := [.int (nI t1), .int (nI t2), .int (nI t3), .int (xs (i + 4))]) (rest := []) ⟨hx, hb, hml, hown, hts⟩ (c_X10_degree l G z ad M_492 (th := tw) (on := jn) (ao := ao) (vr := vr) (sn := sn) (tp := len) (pt := pt) (zs := zs) (bg := bg) (fa := fw) (n := n) (kd := kd) (fm := fm) (to := to) (sz := sz) (rl := rl) (en := en) (mk := mk) (mf := mf) (mu := mu) (mz := mz) (rr := rr) (ee := ee) (lst := lst) (t := t1) (y := t2) (x := t3) (d := xs (i + 4)) hm_538 hm_543 hm_544 hm_545 hm_546 hm_547 hm_548 hm_549 w1 w2 ht1 ht2 ht3 hlst) (cwV 4 hts (gV (lwg_of t_1362 rfl) (lwg_of t_1363 rfl) (lwg_of t_1364 rfl) (lwg_of t_13 rfl) (lwg_of t_1365 rfl)) rfl rfl rfl (by decide +kernel) ⟨Nat.le_of_ble_eq_true rfl, Nat.le_of_ble_eq_true rfl⟩) (hI.preV hm_538 rfl) rfl rfl hl.1 rfl (lv_room (Nat.le_of_ble_eq_true rfl)) dL_law_1272 ⟨(show _ ≤ (601024 : Nat) from by omega), (show _ ≤ (7293034 : Nat) from by omega)⟩) hI (fun r_569 M_571 H_572 locs_573 hp_570 hI => ?_)
        obtain ⟨hr_574, hm_575, hF_576⟩ := hp_570
        have hm_577 : M_571 0 = some (cStore ad qa qs fw) := by rw [hF_576 0 (by omega)]; exact hm_498
        have hm_578 : M_571 1 = some (cTape ad len) := by rw [hF_576 1 (by omega)]; exact hm_499
        have hm_579 : M_571 2 = some (aI G 400 (nF tb)) := by rw [hF_576 2 (by omega)]; exact hm_500
        have hm_580 : M_571 3 = some (cLaws ad ) := by rw [hF_576 3 (by omega)]; exact hm_501
        have hm_581 : M_571 4 = some (aI G 36 (nF le)) := by rw [hF_576 4 (by omega)]; exact hm_502
        have hm_582 : M_571 5 = some (aI G 36 (nF mo)) := by rw [hF_576 5 (by omega)]; exact hm_503
        have hm_583 : M_571 6 = some (aI G 36 (nF al)) := by rw [hF_576 6 (by omega)]; exact hm_504
        have hm_584 : M_571 7 = some (aZ G 6 (bF ho)) := by rw [hF_576 7 (by omega)]; exact hm_505
        have hm_585 : M_571 8 = some (cOnes ad jn) := by rw [hF_576 8 (by omega)]; exact hm_506
        have hm_586 : M_571 9 = some (aI G 40 (nF hg)) := by rw [hF_576 9 (by omega)]; exact hm_507
        have hm_587 : M_571 10 = some (aI G 40 (nF lst)) := by rw [hF_576 10 (by omega)]; exact hm_508
        have hm_588 : M_571 11 = some (aI G 40 (nF jd)) := by rw [hF_576 11 (by omega)]; exact hm_509
        have hm_589 : M_571 12 = some (cEnds ad 12 s0) := by rw [hF_576 12 (by omega)]; exact hm_510
        have hm_590 : M_571 13 = some (aI G 6 (nF r0)) := by rw [hF_576 13 (by omega)]; exact hm_511
        have hm_591 : M_571 14 = some (aI G 6 (oF th)) := by rw [hF_576 14 (by omega)]; exact hm_512
        have hm_592 : M_571 15 = some (aI G 6 (oF ol)) := by rw [hF_576 15 (by omega)]; exact hm_513
        have hm_593 : M_571 19 = some (aZ G 120 (bF mm9)) := by rw [hF_576 19 (by omega)]; exact hm_514
        have hm_594 : M_571 20 = some (aI G 120 ff) := by rw [hF_576 20 (by omega)]; exact hm_515
        have hm_595 : M_571 21 = some (aI G 120 lq) := by rw [hF_576 21 (by omega)]; exact hm_516
        have hm_596 : M_571 22 = some (cReader ad ra rb rt rv) := by rw [hF_576 22 (by omega)]; exact hm_517
        have hm_597 : M_571 23 = some (cMatcher ad qm pz) := by rw [hF_576 23 (by omega)]; exact hm_518
        have hm_598 : M_571 24 = some (aJ G 2160 sx) := by rw [hF_576 24 (by omega)]; exact hm_519
        have hm_599 : M_571 25 = some (aI G 6 (nF ft)) := by rw [hF_576 25 (by omega)]; exact hm_520
        have hm_600 : M_571 26 = some (aJ G 240 rx) := by rw [hF_576 26 (by omega)]; exact hm_521
        have hm_601 : M_571 27 = some (aJ G 3 dm) := by rw [hF_576 27 (by omega)]; exact hm_522
        have hm_602 : M_571 28 = some (aI G 3 rc) := by rw [hF_576 28 (by omega)]; exact hm_523
        have hm_603 : M_571 qa = some (cQuestion ad qa ao vr) := by rw [hF_576 qa (by omega)]; exact hm_524
        have hm_604 : M_571 (qa + 1) = some (aI G 6 (nF kn)) := by rw [hF_576 (qa + 1) (by omega)]; exact hm_525
        have hm_605 : M_571 (qa + 2) = some (aZ G 6 (bF nq)) := by rw [hF_576 (qa + 2) (by omega)]; exact hm_526
        have hm_606 : M_571 (qa + 3) = some (aI G 6 (nF pn)) := by rw [hF_576 (qa + 3) (by omega)]; exact hm_527
        have hm_607 : M_571 (qa + 4) = some (aI G 6 (nF av)) := by rw [hF_576 (qa + 4) (by omega)]; exact hm_528
        have hm_608 : M_571 (qa + 5) = some (aI G 24 (nF ro)) := by rw [hF_576 (qa + 5) (by omega)]; exact hm_529
        have hm_609 : M_571 (qa + 6) = some (aI G 24 (nF te)) := by rw [hF_576 (qa + 6) (by omega)]; exact hm_530
        have hm_610 : M_571 qs = some (cQuestion ad qs sq su) := by rw [hF_576 qs (by omega)]; exact hm_531
        have hm_611 : M_571 (qs + 1) = some (aI G 6 (nF kb)) := by rw [hF_576 (qs + 1) (by omega)]; exact hm_532
        have hm_612 : M_571 (qs + 2) = some (aZ G 6 (bF nb)) := by rw [hF_576 (qs + 2) (by omega)]; exact hm_533
        have hm_613 : M_571 (qs + 3) = some (aI G 6 (nF pb)) := by rw [hF_576 (qs + 3) (by omega)]; exact hm_534
        have hm_614 : M_571 (qs + 4) = some (aI G 6 (nF ab)) := by rw [hF_576 (qs + 4) (by omega)]; exact hm_535
        have hm_615 : M_571 (qs + 5) = some (aI G 24 (nF rbb)) := by rw [hF_576 (qs + 5) (by omega)]; exact hm_536
        have hm_616 : M_571 (qs + 6) = some (aI G 24 (nF tbb)) := by rw [hF_576 (qs + 6) (by omega)]; exact hm_537
        have hm_617 : M_571 61 = some (aI G 36 (nF le)) := by rw [hF_576 61 (by omega)]; exact hm_539
        have hm_618 : M_571 62 = some (aI G 36 (nF mo)) := by rw [hF_576 62 (by omega)]; exact hm_540
        have hm_619 : M_571 63 = some (aI G 36 (nF al)) := by rw [hF_576 63 (by omega)]; exact hm_541
        have hm_620 : M_571 64 = some (aZ G 6 (bF ho)) := by rw [hF_576 64 (by omega)]; exact hm_542
        have hm_621 : M_571 65 = some (aI G 120 (nF mk)) := by rw [hF_576 65 (by omega)]; exact hm_543
        have hm_622 : M_571 66 = some (aI G 120 mf) := by rw [hF_576 66 (by omega)]; exact hm_544
        have hm_623 : M_571 67 = some (aI G 120 mu) := by rw [hF_576 67 (by omega)]; exact hm_545
        have hm_624 : M_571 68 = some (aI G 121 (nF mz)) := by rw [hF_576 68 (by omega)]; exact hm_546
        have hm_625 : M_571 69 = some (aI G 726 (nF rr)) := by rw [hF_576 69 (by omega)]; exact hm_547
        have hm_626 : M_571 70 = some (aI G 726 (nF ee)) := by rw [hF_576 70 (by omega)]; exact hm_548
        have hm_627 : M_571 71 = some (aI G 40 (nF lst)) := by rw [hF_576 71 (by omega)]; exact hm_549
        have hm_628 : M_571 72 = some (aI G 40 (nF oa)) := by rw [hF_576 72 (by omega)]; exact hm_550
        have hm_629 : M_571 73 = some (aI G 40 (nF ob)) := by rw [hF_576 73 (by omega)]; exact hm_551
        have hm_630 : M_571 74 = some (aI G 120 s74) := by rw [hF_576 74 (by omega)]; exact hm_552
        have hm_631 : M_571 75 = some (aI G 12 ak) := by rw [hF_576 75 (by omega)]; exact hm_553
        have hm_632 : M_571 76 = some (aZ G 12 (bF nm)) := by rw [hF_576 76 (by omega)]; exact hm_554
        have hm_633 : M_571 77 = some (aI G 12 (nF ap)) := by rw [hF_576 77 (by omega)]; exact hm_555
        have hm_634 : M_571 78 = some (aI G 48 pr) := by rw [hF_576 78 (by omega)]; exact hm_556
        have hm_635 : M_571 79 = some (aI G 48 pf) := by rw [hF_576 79 (by omega)]; exact hm_557
        have hm_636 : M_571 80 = some (aB G 400 tf) := by rw [hF_576 80 (by omega)]; exact hm_558
        have hm_637 : M_571 81 = some (aI G 5 fv) := by rw [hF_576 81 (by omega)]; exact hm_559
        have hm_638 : M_571 82 = some (aZ G 384000 (bF tr)) := by rw [hF_576 82 (by omega)]; exact hm_560
        have hm_639 : M_571 83 = some (aI G 3 (oF gv)) := by rw [hF_576 83 (by omega)]; exact hm_561
        have hm_640 : M_571 84 = some (aI G 3 fo) := by rw [hF_576 84 (by omega)]; exact hm_562
        have hm_641 : M_571 85 = some (aZ G 40 (bF re)) := by rw [hF_576 85 (by omega)]; exact hm_563
        have hm_642 : M_571 86 = some (aZ G 120 (bF us)) := by rw [hF_576 86 (by omega)]; exact hm_564
        have hm_643 : M_571 87 = some (aZ G 120 (bF nx)) := by rw [hF_576 87 (by omega)]; exact hm_565
        have hm_644 : M_571 99 = some (aJ G 1 (vp_updL of 0 ((nI (cntB (wth kd fm to sz rl en lst (lst t1) t2 t3 (xs (i + 4))) n)).toInt64))) := by rw [hF_576 99 (by omega)]; exact hm_496
        have hm_645 : M_571 16 = some (cLines ad ) := by rw [hF_576 16 (by omega)]; exact hm_566
        have hL_646 : LSm G ad M_571 n kd fm to sz rl en := hL_567.keep (fun j hj => hF_576 j (by omega))
        have hF_647 : ∀ j : Nat, j ≠ 99 → j ≠ 60 → M_571 j = M j := fun j q0 q1 => (hF_576 j q1).trans (hF_568 j q0)
        rw [hr_574]
        refine lv_istore (lv' := [(6, .int (nI (cntB (wth kd fm to sz rl en lst (lst t1) t2 t3 (xs (i + 4))) n))), (5, .int (nI 0)), (0, .ref b), (1, .ref (ad 0)), (2, .ref (ad 60)), (3, .ref (ad 99)), (4, .int (nI i))]) hx hb dL_law_1275 hl (by decide) rfl (fun ls hl => ?_)
        refine lv_aload_n hx hb dL_law_1277 rfl (lv_at hl 4 rfl) ?_
        refine k_Ri (va_runV (As := []) (rest := []) ⟨hx, hb, hml, hown, hts⟩ (c_X10_thrown l G z ad M_571 (th := 0) (ln := n) (on := jn) (ao := ao) (vr := vr) (sn := sn) (tp := len) (pt := pt) (zs := zs) (bg := bg) (fa := fw) hm_575) (cwV 0 hts (gV (lwg_of t_997 rfl) (lwg_of t_998 rfl) (lwg_of t_999 rfl) (lwg_of t_13 rfl) (lwg_of t_1000 rfl)) rfl rfl rfl (by decide +kernel) ⟨Nat.le_of_ble_eq_true rfl, Nat.le_of_ble_eq_true rfl⟩) (hI.preV hm_575 rfl) rfl rfl hl.1 rfl (lv_room (Nat.le_of_ble_eq_true rfl)) dL_law_1278 ⟨(show _ ≤ (601024 : Nat) from by omega), (show _ ≤ (7293034 : Nat) from by omega)⟩) (fun _ h => h) (fun r_648 hp_649 => ?_)
        rw [hp_649]
        refine lv_iload hx hb dL_law_1281 (lv_at hl 1 rfl) ?_
        refine lv_icmp_eq (tgt := 1288) hx hb dL_law_1283 (by decide) (fun c_650 => ?_) (fun c_650 => ?_)
        · -- 1283: nI 0 eq
          refine lv_iload hx hb dL_law_1288 (lv_at hl 1 rfl) ?_
          refine lv_if_ne (tgt := 1305) hx hb dL_law_1290 (by decide) (fun c_651 => ?_) (fun c_651 => ?_)
          · -- 1290: nI 0 ne
            exact absurd (by decide) c_651
          · -- 1290: nI 0 eq
            refine lv_aload_n hx hb dL_law_1293 rfl (lv_at hl 5 rfl) ?_
            refine lv_iconst (v := nI 0) hx hb dL_law_1294 (by decide) ?_
            refine h_lald (i := 0) hx hb hI hm_644 (by omega) (by decide) dL_law_1295 ?_
            refine n_eql (show _ = (nI (cntB (wth kd fm to sz rl en lst (lst t1) t2 t3 (xs (i + 4))) n)).toInt64 from updL_0) ?_
            refine lv_iload hx hb dL_law_1296 (lv_at hl 0 rfl) ?_
            refine lv_i2l (v := (nI (cntB (wth kd fm to sz rl en lst (lst t1) t2 t3 (xs (i + 4))) n)).toInt64) hx hb dL_law_1298 rfl ?_
            refine W.lcmp hx hb dL_law_1299 ?_
            refine lv_if_eq (tgt := 1305) hx hb dL_law_1300 (by decide) (fun c_652 => ?_) (fun c_652 => ?_)
            · -- 1300: lg_cmp ((nI (cntB (wth kd fm to sz rl en lst (lst t1) t2 t3  eq
              have c_652 : (nI (cntB (wth kd fm to sz rl en lst (lst t1) t2 t3 (xs (i + 4))) n)).toInt64 = (nI (cntB (wth kd fm to sz rl en lst (lst t1) t2 t3 (xs (i + 4))) n)).toInt64 := (lg_cmp_eq _ _).mp c_652
              refine lv_goto (tgt := 1333) hx hb dL_law_1305 (by decide) ?_
              refine W.widen (k := cz + 10) (n := sy + 300) (by omega) (by omega) ?_
              exact kk ad M_571 H_572 locs_573 ls n kd fm to sz rl en qa qs fw len tb le mo al ho jn hg lst jd s0 r0 th ol e0 mm9 ff lq ra rb rt rv qm pz sx ft rx dm rc ao vr kn nq pn av ro te sq su kb nb pb ab rbb tbb 0 sn pt zs bg mk mf mu mz rr ee oa ob s74 ak nm ap pr pf tf fv tr gv fo re us nx (vp_updL of 0 ((nI (cntB (wth kd fm to sz rl en lst (lst t1) t2 t3 (xs (i + 4))) n)).toInt64)) hL_646 w1 w2 w3 w4 w5 w6 w7 w8 w9 w10 w11 w12 w13 w14 w15 w16 w17 w18 w19 w20 w21 w22 w23 w24 w25 w26 w27 w28 w29 (fun h9 => by rw [hF_647 17 (by omega) (by omega), hF_647 18 (by omega) (by omega)]; exact w30 h9) (by rw [hF_647 29 (by omega) (by omega)]; exact w31) (fun j9 h9 => by rw [hF_647 j9 (by omega) (by omega)]; exact w32 j9 h9) hm_577 hm_578 hm_579 hm_580 hm_581 hm_582 hm_583 hm_584 hm_585 hm_586 hm_587 hm_588 hm_589 hm_590 hm_591 hm_592 hm_593 hm_594 hm_595 hm_596 hm_597 hm_598 hm_599 hm_600 hm_601 hm_602 hm_603 hm_604 hm_605 hm_606 hm_607 hm_608 hm_609 hm_610 hm_611 hm_612 hm_613 hm_614 hm_615 hm_616 hm_575 hm_617 hm_618 hm_619 hm_620 hm_621 hm_622 hm_623 hm_624 hm_625 hm_626 hm_627 hm_628 hm_629 hm_630 hm_631 hm_632 hm_633 hm_634 hm_635 hm_636 hm_637 hm_638 hm_639 hm_640 hm_641 hm_642 hm_643 hm_644 hI (lv_sub hl [2, 3, 4, 5, 6] rfl)
            · -- 1300: lg_cmp ((nI (cntB (wth kd fm to sz rl en lst (lst t1) t2 t3  ne
              have c_652 : (nI (cntB (wth kd fm to sz rl en lst (lst t1) t2 t3 (xs (i + 4))) n)).toInt64 ≠ (nI (cntB (wth kd fm to sz rl en lst (lst t1) t2 t3 (xs (i + 4))) n)).toInt64 := (fun h => c_652 ((lg_cmp_eq _ _).mpr h))
              exact absurd rfl c_652
        · -- 1283: nI 0 ne
          exact absurd (by decide) c_650

set_option maxHeartbeats 8000000 in
set_option maxRecDepth 100000 in
theorem law_11 {p : Program} {l : Launch} {e : Env} {s : State} {m : MethodId} {below : List Frame} {meth : Method} {c : Code} {b L : Nat} {xs : Nat → Int32} {Q : State → Prop} {G : GG} {z : Nat} {ad : Nat → Nat} {M : Mem} {H : Heap} {locs : List Loc} {ls : Array Slot} {i cz sy : Nat} (hst : l.stackTraces = false) (hx : p.tables.exec = Jvm.exec) (hb : c.code = code) (hml : c.maxLocals = 7) (hown : s.vm.findClass RL = some m.cls) {cx : Cond} (hts : ∀ w ∈ cx :: lwg, w.before #[Value.ref b] s = true) (hX : va_X b L xs s s.heap) (hbl : b < s.heap.size) (hbz : ¬ z ≤ b) (hI : Iv G z ad M s H locs) (hl : lv_has ls 7 [(0, .ref b), (1, .ref (ad 0)), (2, .ref (ad 60)), (3, .ref (ad 99)), (4, .int (nI i))]) (hiL : i + 6 ≤ L) (hL : L ≤ 3072) (hcz : cz + 10 ≤ 601024) (hsy : sy + 300 ≤ 7293034) {n : Nat} {kd : Nat → Nat} {fm : Nat → Int32} {to : Nat → Int32} {sz : Nat → Nat} {rl : Nat → Nat → Nat} {en : Nat → Nat → Nat} {qa : Nat} {qs : Nat} {fw : Int32} {len : Nat} {tb : Nat → Nat} {le : Nat → Nat} {mo : Nat → Nat} {al : Nat → Nat} {ho : Nat → Bool} {jn : Nat} {hg : Nat → Nat} {lst : Nat → Nat} {jd : Nat → Nat} {s0 : Nat} {r0 : Nat → Nat} {th : Nat → Option Nat} {ol : Nat → Option Nat} {e0 : Nat → Nat} {mm9 : Nat → Bool} {ff : Nat → Int32} {lq : Nat → Int32} {ra : Nat} {rb : Nat} {rt : Int32} {rv : Int32} {qm : Nat} {pz : Nat} {sx : Nat → Int64} {ft : Nat → Nat} {rx : Nat → Int64} {dm : Nat → Int64} {rc : Nat → Int32} {ao : Nat} {vr : Nat} {kn : Nat → Nat} {nq : Nat → Bool} {pn : Nat → Nat} {av : Nat → Nat} {ro : Nat → Nat} {te : Nat → Nat} {sq : Nat} {su : Nat} {kb : Nat → Nat} {nb : Nat → Bool} {pb : Nat → Nat} {ab : Nat → Nat} {rbb : Nat → Nat} {tbb : Nat → Nat} {tw : Nat} {sn : Nat} {pt : Nat} {zs : Nat} {bg : Nat} {mk : Nat → Nat} {mf : Nat → Int32} {mu : Nat → Int32} {mz : Nat → Nat} {rr : Nat → Nat} {ee : Nat → Nat} {oa : Nat → Nat} {ob : Nat → Nat} {s74 : Nat → Int32} {ak : Nat → Int32} {nm : Nat → Bool} {ap : Nat → Nat} {pr : Nat → Int32} {pf : Nat → Int32} {tf : Nat → Int32} {fv : Nat → Int32} {tr : Nat → Bool} {gv : Nat → Option Nat} {fo : Nat → Int32} {re : Nat → Bool} {us : Nat → Bool} {nx : Nat → Bool} {of : Nat → Int64} (fL : LSm G ad M n kd fm to sz rl en) (w1 : LSw n kd sz rl en) (w2 : MRel n kd fm to sz rl en mk mf mu mz rr ee) (w3 : JI jn hg lst jd oa ob) (w4 : len ≤ 400) (w5 : ∀ j, j < len → tb j < 256) (w6 : ∀ j, j < len → tf j = sB (tb j)) (w7 : s0 ≤ 6) (w8 : mz 120 = s0) (w9 : ∀ j, j < s0 → rr (720 + j) = r0 j ∧ ee (720 + j) = e0 j) (w10 : ∀ j, j < s0 → r0 j < 6) (w11 : ∀ j, j < s0 → e0 j < 40 + n) (w12 : ∀ j, j < s0 → th j = thE e0 j) (w13 : ∀ j, j < s0 → ol j = olE e0 j) (w14 : ∀ j, j < 36 → le j < 100) (w15 : ∀ j, j < 36 → mo j < 100) (w16 : ∀ j, j < 36 → al j ≤ 100) (w17 : ∀ i, i < n → (0 : Int32) ≤ fm i) (w18 : ∀ i, i < n → ∀ k, hgs sz en i k = true → fm k ≤ fm i) (w19 : ao ≤ 6) (w20 : vr < 8) (w21 : ∀ i, i < ao → ap i ≤ 4 ∧ (ak i = nI (kn i) ∧ kn i < 6) ∧ ∀ p8, p8 < ap i → (pr (4 * i + p8) = nI (ro (i * 4 + p8)) ∧ ro (i * 4 + p8) < 6) ∧ te (i * 4 + p8) < 43 ∧ pf (4 * i + p8) = tmI (te (i * 4 + p8))) (w22 : ∀ i, i < ao → nm i = nq i ∧ ap i = pn i) (w23 : ∀ i, i < ao → av i < 8) (w24 : ∀ i, i < ao → (av i).testBit 0 = false → ∀ p9, p9 < pn i → te (i * 4 + p9) ≠ 40) (w25 : ∀ v, v < 3 → vr.testBit v = true → ∃ i, i < ao ∧ nq i = false ∧ ∃ k, k < pn i ∧ te (i * 4 + k) = 40 + v) (w26 : 29 < qa ∧ qa < 38) (w27 : 29 < qs ∧ qs < 38) (w28 : qa + 7 ≤ qs ∨ qs + 7 ≤ qa) (w29 : 29 < qm ∧ qm < 51) (w30 : n = 0 → (∃ mcn : Int32, M 17 = some (cList ad mcn G.2.2.2.2 0)) ∧ M 18 = none) (w31 : M 29 = none) (w32 : ∀ j, 100 + 5 * n ≤ j → M j = none) (f_0 : M 0 = some (cStore ad qa qs fw)) (f_1 : M 1 = some (cTape ad len)) (f_2 : M 2 = some (aI G 400 (nF tb))) (f_3 : M 3 = some (cLaws ad )) (f_4 : M 4 = some (aI G 36 (nF le))) (f_5 : M 5 = some (aI G 36 (nF mo))) (f_6 : M 6 = some (aI G 36 (nF al))) (f_7 : M 7 = some (aZ G 6 (bF ho))) (f_8 : M 8 = some (cOnes ad jn)) (f_9 : M 9 = some (aI G 40 (nF hg))) (f_10 : M 10 = some (aI G 40 (nF lst))) (f_11 : M 11 = some (aI G 40 (nF jd))) (f_12 : M 12 = some (cEnds ad 12 s0)) (f_13 : M 13 = some (aI G 6 (nF r0))) (f_14 : M 14 = some (aI G 6 (oF th))) (f_15 : M 15 = some (aI G 6 (oF ol))) (f_19 : M 19 = some (aZ G 120 (bF mm9))) (f_20 : M 20 = some (aI G 120 ff)) (f_21 : M 21 = some (aI G 120 lq)) (f_22 : M 22 = some (cReader ad ra rb rt rv)) (f_23 : M 23 = some (cMatcher ad qm pz)) (f_24 : M 24 = some (aJ G 2160 sx)) (f_25 : M 25 = some (aI G 6 (nF ft))) (f_26 : M 26 = some (aJ G 240 rx)) (f_27 : M 27 = some (aJ G 3 dm)) (f_28 : M 28 = some (aI G 3 rc)) (f_qa : M qa = some (cQuestion ad qa ao vr)) (f_qa_1 : M (qa + 1) = some (aI G 6 (nF kn))) (f_qa_2 : M (qa + 2) = some (aZ G 6 (bF nq))) (f_qa_3 : M (qa + 3) = some (aI G 6 (nF pn))) (f_qa_4 : M (qa + 4) = some (aI G 6 (nF av))) (f_qa_5 : M (qa + 5) = some (aI G 24 (nF ro))) (f_qa_6 : M (qa + 6) = some (aI G 24 (nF te))) (f_qs : M qs = some (cQuestion ad qs sq su)) (f_qs_1 : M (qs + 1) = some (aI G 6 (nF kb))) (f_qs_2 : M (qs + 2) = some (aZ G 6 (bF nb))) (f_qs_3 : M (qs + 3) = some (aI G 6 (nF pb))) (f_qs_4 : M (qs + 4) = some (aI G 6 (nF ab))) (f_qs_5 : M (qs + 5) = some (aI G 24 (nF rbb))) (f_qs_6 : M (qs + 6) = some (aI G 24 (nF tbb))) (f_60 : M 60 = some (cModel ad tw n jn ao vr sn len pt zs bg fw)) (f_61 : M 61 = some (aI G 36 (nF le))) (f_62 : M 62 = some (aI G 36 (nF mo))) (f_63 : M 63 = some (aI G 36 (nF al))) (f_64 : M 64 = some (aZ G 6 (bF ho))) (f_65 : M 65 = some (aI G 120 (nF mk))) (f_66 : M 66 = some (aI G 120 mf)) (f_67 : M 67 = some (aI G 120 mu)) (f_68 : M 68 = some (aI G 121 (nF mz))) (f_69 : M 69 = some (aI G 726 (nF rr))) (f_70 : M 70 = some (aI G 726 (nF ee))) (f_71 : M 71 = some (aI G 40 (nF lst))) (f_72 : M 72 = some (aI G 40 (nF oa))) (f_73 : M 73 = some (aI G 40 (nF ob))) (f_74 : M 74 = some (aI G 120 s74)) (f_75 : M 75 = some (aI G 12 ak)) (f_76 : M 76 = some (aZ G 12 (bF nm))) (f_77 : M 77 = some (aI G 12 (nF ap))) (f_78 : M 78 = some (aI G 48 pr)) (f_79 : M 79 = some (aI G 48 pf)) (f_80 : M 80 = some (aB G 400 tf)) (f_81 : M 81 = some (aI G 5 fv)) (f_82 : M 82 = some (aZ G 384000 (bF tr))) (f_83 : M 83 = some (aI G 3 (oF gv))) (f_84 : M 84 = some (aI G 3 fo)) (f_85 : M 85 = some (aZ G 40 (bF re))) (f_86 : M 86 = some (aZ G 120 (bF us))) (f_87 : M 87 = some (aZ G 120 (bF nx))) (f_99 : M 99 = some (aJ G 1 of)) (kk : ∀ (ad1 : Nat → Nat) (M1 : Mem) (H1 : Heap) (locs1 : List Loc) (ls1 : Array Slot) (n : Nat) (kd : Nat → Nat) (fm : Nat → Int32) (to : Nat → Int32) (sz : Nat → Nat) (rl : Nat → Nat → Nat) (en : Nat → Nat → Nat) (qa : Nat) (qs : Nat) (fw : Int32) (len : Nat) (tb : Nat → Nat) (le : Nat → Nat) (mo : Nat → Nat) (al : Nat → Nat) (ho : Nat → Bool) (jn : Nat) (hg : Nat → Nat) (lst : Nat → Nat) (jd : Nat → Nat) (s0 : Nat) (r0 : Nat → Nat) (th : Nat → Option Nat) (ol : Nat → Option Nat) (e0 : Nat → Nat) (mm9 : Nat → Bool) (ff : Nat → Int32) (lq : Nat → Int32) (ra : Nat) (rb : Nat) (rt : Int32) (rv : Int32) (qm : Nat) (pz : Nat) (sx : Nat → Int64) (ft : Nat → Nat) (rx : Nat → Int64) (dm : Nat → Int64) (rc : Nat → Int32) (ao : Nat) (vr : Nat) (kn : Nat → Nat) (nq : Nat → Bool) (pn : Nat → Nat) (av : Nat → Nat) (ro : Nat → Nat) (te : Nat → Nat) (sq : Nat) (su : Nat) (kb : Nat → Nat) (nb : Nat → Bool) (pb : Nat → Nat) (ab : Nat → Nat) (rbb : Nat → Nat) (tbb : Nat → Nat) (tw : Nat) (sn : Nat) (pt : Nat) (zs : Nat) (bg : Nat) (mk : Nat → Nat) (mf : Nat → Int32) (mu : Nat → Int32) (mz : Nat → Nat) (rr : Nat → Nat) (ee : Nat → Nat) (oa : Nat → Nat) (ob : Nat → Nat) (s74 : Nat → Int32) (ak : Nat → Int32) (nm : Nat → Bool) (ap : Nat → Nat) (pr : Nat → Int32) (pf : Nat → Int32) (tf : Nat → Int32) (fv : Nat → Int32) (tr : Nat → Bool) (gv : Nat → Option Nat) (fo : Nat → Int32) (re : Nat → Bool) (us : Nat → Bool) (nx : Nat → Bool) (of : Nat → Int64), (LSm G ad1 M1 n kd fm to sz rl en) → (LSw n kd sz rl en) → (MRel n kd fm to sz rl en mk mf mu mz rr ee) → (JI jn hg lst jd oa ob) → (len ≤ 400) → (∀ j, j < len → tb j < 256) → (∀ j, j < len → tf j = sB (tb j)) → (s0 ≤ 6) → (mz 120 = s0) → (∀ j, j < s0 → rr (720 + j) = r0 j ∧ ee (720 + j) = e0 j) → (∀ j, j < s0 → r0 j < 6) → (∀ j, j < s0 → e0 j < 40 + n) → (∀ j, j < s0 → th j = thE e0 j) → (∀ j, j < s0 → ol j = olE e0 j) → (∀ j, j < 36 → le j < 100) → (∀ j, j < 36 → mo j < 100) → (∀ j, j < 36 → al j ≤ 100) → (∀ i, i < n → (0 : Int32) ≤ fm i) → (∀ i, i < n → ∀ k, hgs sz en i k = true → fm k ≤ fm i) → (ao ≤ 6) → (vr < 8) → (∀ i, i < ao → ap i ≤ 4 ∧ (ak i = nI (kn i) ∧ kn i < 6) ∧ ∀ p8, p8 < ap i → (pr (4 * i + p8) = nI (ro (i * 4 + p8)) ∧ ro (i * 4 + p8) < 6) ∧ te (i * 4 + p8) < 43 ∧ pf (4 * i + p8) = tmI (te (i * 4 + p8))) → (∀ i, i < ao → nm i = nq i ∧ ap i = pn i) → (∀ i, i < ao → av i < 8) → (∀ i, i < ao → (av i).testBit 0 = false → ∀ p9, p9 < pn i → te (i * 4 + p9) ≠ 40) → (∀ v, v < 3 → vr.testBit v = true → ∃ i, i < ao ∧ nq i = false ∧ ∃ k, k < pn i ∧ te (i * 4 + k) = 40 + v) → (29 < qa ∧ qa < 38) → (29 < qs ∧ qs < 38) → (qa + 7 ≤ qs ∨ qs + 7 ≤ qa) → (29 < qm ∧ qm < 51) → (n = 0 → (∃ mcn : Int32, M1 17 = some (cList ad1 mcn G.2.2.2.2 0)) ∧ M1 18 = none) → (M1 29 = none) → (∀ j, 100 + 5 * n ≤ j → M1 j = none) → (M1 0 = some (cStore ad1 qa qs fw)) → (M1 1 = some (cTape ad1 len)) → (M1 2 = some (aI G 400 (nF tb))) → (M1 3 = some (cLaws ad1 )) → (M1 4 = some (aI G 36 (nF le))) → (M1 5 = some (aI G 36 (nF mo))) → (M1 6 = some (aI G 36 (nF al))) → (M1 7 = some (aZ G 6 (bF ho))) → (M1 8 = some (cOnes ad1 jn)) → (M1 9 = some (aI G 40 (nF hg))) → (M1 10 = some (aI G 40 (nF lst))) → (M1 11 = some (aI G 40 (nF jd))) → (M1 12 = some (cEnds ad1 12 s0)) → (M1 13 = some (aI G 6 (nF r0))) → (M1 14 = some (aI G 6 (oF th))) → (M1 15 = some (aI G 6 (oF ol))) → (M1 19 = some (aZ G 120 (bF mm9))) → (M1 20 = some (aI G 120 ff)) → (M1 21 = some (aI G 120 lq)) → (M1 22 = some (cReader ad1 ra rb rt rv)) → (M1 23 = some (cMatcher ad1 qm pz)) → (M1 24 = some (aJ G 2160 sx)) → (M1 25 = some (aI G 6 (nF ft))) → (M1 26 = some (aJ G 240 rx)) → (M1 27 = some (aJ G 3 dm)) → (M1 28 = some (aI G 3 rc)) → (M1 qa = some (cQuestion ad1 qa ao vr)) → (M1 (qa + 1) = some (aI G 6 (nF kn))) → (M1 (qa + 2) = some (aZ G 6 (bF nq))) → (M1 (qa + 3) = some (aI G 6 (nF pn))) → (M1 (qa + 4) = some (aI G 6 (nF av))) → (M1 (qa + 5) = some (aI G 24 (nF ro))) → (M1 (qa + 6) = some (aI G 24 (nF te))) → (M1 qs = some (cQuestion ad1 qs sq su)) → (M1 (qs + 1) = some (aI G 6 (nF kb))) → (M1 (qs + 2) = some (aZ G 6 (bF nb))) → (M1 (qs + 3) = some (aI G 6 (nF pb))) → (M1 (qs + 4) = some (aI G 6 (nF ab))) → (M1 (qs + 5) = some (aI G 24 (nF rbb))) → (M1 (qs + 6) = some (aI G 24 (nF tbb))) → (M1 60 = some (cModel ad1 tw n jn ao vr sn len pt zs bg fw)) → (M1 61 = some (aI G 36 (nF le))) → (M1 62 = some (aI G 36 (nF mo))) → (M1 63 = some (aI G 36 (nF al))) → (M1 64 = some (aZ G 6 (bF ho))) → (M1 65 = some (aI G 120 (nF mk))) → (M1 66 = some (aI G 120 mf)) → (M1 67 = some (aI G 120 mu)) → (M1 68 = some (aI G 121 (nF mz))) → (M1 69 = some (aI G 726 (nF rr))) → (M1 70 = some (aI G 726 (nF ee))) → (M1 71 = some (aI G 40 (nF lst))) → (M1 72 = some (aI G 40 (nF oa))) → (M1 73 = some (aI G 40 (nF ob))) → (M1 74 = some (aI G 120 s74)) → (M1 75 = some (aI G 12 ak)) → (M1 76 = some (aZ G 12 (bF nm))) → (M1 77 = some (aI G 12 (nF ap))) → (M1 78 = some (aI G 48 pr)) → (M1 79 = some (aI G 48 pf)) → (M1 80 = some (aB G 400 tf)) → (M1 81 = some (aI G 5 fv)) → (M1 82 = some (aZ G 384000 (bF tr))) → (M1 83 = some (aI G 3 (oF gv))) → (M1 84 = some (aI G 3 fo)) → (M1 85 = some (aZ G 40 (bF re))) → (M1 86 = some (aZ G 120 (bF us))) → (M1 87 = some (aZ G 120 (bF nx))) → (M1 99 = some (aJ G 1 of)) → Iv G z ad1 M1 s H1 locs1 → lv_has ls1 7 [(0, .ref b), (1, .ref (ad1 0)), (2, .ref (ad1 60)), (3, .ref (ad1 99)), (4, .int (nI i))] → W p l e room_1 s m #[Value.ref b] below meth c H1 locs1 (cz + 10) (sy + 300) Q (F0 m 1333 ls1 [])) : W p l e room_1 s m #[Value.ref b] below meth c H locs cz sy Q (F0 m 845 ls []) := by
  have h16 := fL.1
  have hw1 := w1.1
  have hlst := ji_lst w3
  rcases (in_or n (xs (i + 1)) (by omega) : (xs (i + 1) < 0 ∨ ¬ xs (i + 1) < nI n) ∨ (∃ t : Nat, t < n ∧ xs (i + 1) = nI t)) with hc_1 | hc_2
  · skip
    refine lv_aload_n hx hb dL_law_845 rfl (lv_at hl 1 rfl) ?_
    refine lv_aload_n hx hb dL_law_846 rfl (lv_at hl 0 rfl) ?_
    refine lv_iload hx hb dL_law_847 (lv_at hl 4 rfl) ?_
    refine lv_iconst (v := nI 1) hx hb dL_law_849 (by decide) ?_
    refine lv_iadd hx hb dL_law_850 ?_
    refine n_eq (nI_add i 1) ?_
    refine va_sld (A := fr z) hx hb hX hbl hbz hI.S (vp_in_nI (n := i + 1) (by omega) (by omega)) dL_law_851 ?_
    rw [nI_clamp (by omega)]
    refine lv_aload_n hx hb dL_law_852 rfl (lv_at hl 0 rfl) ?_
    refine lv_iload hx hb dL_law_853 (lv_at hl 4 rfl) ?_
    refine lv_iconst (v := nI 2) hx hb dL_law_855 (by decide) ?_
    refine lv_iadd hx hb dL_law_856 ?_
    refine n_eq (nI_add i 2) ?_
    refine va_sld (A := fr z) hx hb hX hbl hbz hI.S (vp_in_nI (n := i + 2) (by omega) (by omega)) dL_law_857 ?_
    rw [nI_clamp (by omega)]
    refine lv_aload_n hx hb dL_law_858 rfl (lv_at hl 3 rfl) ?_
    refine k_Ni (vx_runSW (As := [.ref (ad 0), .int (xs (i + 1)), .int (xs (i + 2)), .ref (ad 99)]) (rest := []) ⟨hx, hb, hml, hown, hts⟩ (c_L_look_a l hst G z ad M (n := n) (kd := kd) (fm := fm) (to := to) (sz := sz) (rl := rl) (en := en) (qa := qa) (qs := qs) (fw := fw) (x0 := xs (i + 1)) (x1 := xs (i + 2)) fL f_0 hc_1) (vx_cwSW 4 hts (gSW (lwg_of t_855 rfl) (lwg_of t_856 rfl) (lwg_of t_0 rfl) (lwg_of t_857 rfl)) rfl rfl rfl (by decide +kernel) ⟨Nat.le_of_ble_eq_true rfl, Nat.le_of_ble_eq_true rfl⟩) hI.preS rfl rfl hl.1 rfl (lv_room (Nat.le_of_ble_eq_true rfl)) dL_law_859 ⟨(show _ ≤ (601024 : Nat) from by omega), (show _ ≤ (7293034 : Nat) from by omega)⟩) hI (fun r_3 M_5 H_6 locs_7 hp_4 hI => ?_)
    obtain ⟨hr_8, hF_9⟩ := hp_4
    have hm_10 : M_5 0 = some (cStore ad qa qs fw) := by rw [hF_9 0 ]; exact f_0
    have hm_11 : M_5 1 = some (cTape ad len) := by rw [hF_9 1 ]; exact f_1
    have hm_12 : M_5 2 = some (aI G 400 (nF tb)) := by rw [hF_9 2 ]; exact f_2
    have hm_13 : M_5 3 = some (cLaws ad ) := by rw [hF_9 3 ]; exact f_3
    have hm_14 : M_5 4 = some (aI G 36 (nF le)) := by rw [hF_9 4 ]; exact f_4
    have hm_15 : M_5 5 = some (aI G 36 (nF mo)) := by rw [hF_9 5 ]; exact f_5
    have hm_16 : M_5 6 = some (aI G 36 (nF al)) := by rw [hF_9 6 ]; exact f_6
    have hm_17 : M_5 7 = some (aZ G 6 (bF ho)) := by rw [hF_9 7 ]; exact f_7
    have hm_18 : M_5 8 = some (cOnes ad jn) := by rw [hF_9 8 ]; exact f_8
    have hm_19 : M_5 9 = some (aI G 40 (nF hg)) := by rw [hF_9 9 ]; exact f_9
    have hm_20 : M_5 10 = some (aI G 40 (nF lst)) := by rw [hF_9 10 ]; exact f_10
    have hm_21 : M_5 11 = some (aI G 40 (nF jd)) := by rw [hF_9 11 ]; exact f_11
    have hm_22 : M_5 12 = some (cEnds ad 12 s0) := by rw [hF_9 12 ]; exact f_12
    have hm_23 : M_5 13 = some (aI G 6 (nF r0)) := by rw [hF_9 13 ]; exact f_13
    have hm_24 : M_5 14 = some (aI G 6 (oF th)) := by rw [hF_9 14 ]; exact f_14
    have hm_25 : M_5 15 = some (aI G 6 (oF ol)) := by rw [hF_9 15 ]; exact f_15
    have hm_26 : M_5 19 = some (aZ G 120 (bF mm9)) := by rw [hF_9 19 ]; exact f_19
    have hm_27 : M_5 20 = some (aI G 120 ff) := by rw [hF_9 20 ]; exact f_20
    have hm_28 : M_5 21 = some (aI G 120 lq) := by rw [hF_9 21 ]; exact f_21
    have hm_29 : M_5 22 = some (cReader ad ra rb rt rv) := by rw [hF_9 22 ]; exact f_22
    have hm_30 : M_5 23 = some (cMatcher ad qm pz) := by rw [hF_9 23 ]; exact f_23
    have hm_31 : M_5 24 = some (aJ G 2160 sx) := by rw [hF_9 24 ]; exact f_24
    have hm_32 : M_5 25 = some (aI G 6 (nF ft)) := by rw [hF_9 25 ]; exact f_25
    have hm_33 : M_5 26 = some (aJ G 240 rx) := by rw [hF_9 26 ]; exact f_26
    have hm_34 : M_5 27 = some (aJ G 3 dm) := by rw [hF_9 27 ]; exact f_27
    have hm_35 : M_5 28 = some (aI G 3 rc) := by rw [hF_9 28 ]; exact f_28
    have hm_36 : M_5 qa = some (cQuestion ad qa ao vr) := by rw [hF_9 qa ]; exact f_qa
    have hm_37 : M_5 (qa + 1) = some (aI G 6 (nF kn)) := by rw [hF_9 (qa + 1) ]; exact f_qa_1
    have hm_38 : M_5 (qa + 2) = some (aZ G 6 (bF nq)) := by rw [hF_9 (qa + 2) ]; exact f_qa_2
    have hm_39 : M_5 (qa + 3) = some (aI G 6 (nF pn)) := by rw [hF_9 (qa + 3) ]; exact f_qa_3
    have hm_40 : M_5 (qa + 4) = some (aI G 6 (nF av)) := by rw [hF_9 (qa + 4) ]; exact f_qa_4
    have hm_41 : M_5 (qa + 5) = some (aI G 24 (nF ro)) := by rw [hF_9 (qa + 5) ]; exact f_qa_5
    have hm_42 : M_5 (qa + 6) = some (aI G 24 (nF te)) := by rw [hF_9 (qa + 6) ]; exact f_qa_6
    have hm_43 : M_5 qs = some (cQuestion ad qs sq su) := by rw [hF_9 qs ]; exact f_qs
    have hm_44 : M_5 (qs + 1) = some (aI G 6 (nF kb)) := by rw [hF_9 (qs + 1) ]; exact f_qs_1
    have hm_45 : M_5 (qs + 2) = some (aZ G 6 (bF nb)) := by rw [hF_9 (qs + 2) ]; exact f_qs_2
    have hm_46 : M_5 (qs + 3) = some (aI G 6 (nF pb)) := by rw [hF_9 (qs + 3) ]; exact f_qs_3
    have hm_47 : M_5 (qs + 4) = some (aI G 6 (nF ab)) := by rw [hF_9 (qs + 4) ]; exact f_qs_4
    have hm_48 : M_5 (qs + 5) = some (aI G 24 (nF rbb)) := by rw [hF_9 (qs + 5) ]; exact f_qs_5
    have hm_49 : M_5 (qs + 6) = some (aI G 24 (nF tbb)) := by rw [hF_9 (qs + 6) ]; exact f_qs_6
    have hm_50 : M_5 60 = some (cModel ad tw n jn ao vr sn len pt zs bg fw) := by rw [hF_9 60 ]; exact f_60
    have hm_51 : M_5 61 = some (aI G 36 (nF le)) := by rw [hF_9 61 ]; exact f_61
    have hm_52 : M_5 62 = some (aI G 36 (nF mo)) := by rw [hF_9 62 ]; exact f_62
    have hm_53 : M_5 63 = some (aI G 36 (nF al)) := by rw [hF_9 63 ]; exact f_63
    have hm_54 : M_5 64 = some (aZ G 6 (bF ho)) := by rw [hF_9 64 ]; exact f_64
    have hm_55 : M_5 65 = some (aI G 120 (nF mk)) := by rw [hF_9 65 ]; exact f_65
    have hm_56 : M_5 66 = some (aI G 120 mf) := by rw [hF_9 66 ]; exact f_66
    have hm_57 : M_5 67 = some (aI G 120 mu) := by rw [hF_9 67 ]; exact f_67
    have hm_58 : M_5 68 = some (aI G 121 (nF mz)) := by rw [hF_9 68 ]; exact f_68
    have hm_59 : M_5 69 = some (aI G 726 (nF rr)) := by rw [hF_9 69 ]; exact f_69
    have hm_60 : M_5 70 = some (aI G 726 (nF ee)) := by rw [hF_9 70 ]; exact f_70
    have hm_61 : M_5 71 = some (aI G 40 (nF lst)) := by rw [hF_9 71 ]; exact f_71
    have hm_62 : M_5 72 = some (aI G 40 (nF oa)) := by rw [hF_9 72 ]; exact f_72
    have hm_63 : M_5 73 = some (aI G 40 (nF ob)) := by rw [hF_9 73 ]; exact f_73
    have hm_64 : M_5 74 = some (aI G 120 s74) := by rw [hF_9 74 ]; exact f_74
    have hm_65 : M_5 75 = some (aI G 12 ak) := by rw [hF_9 75 ]; exact f_75
    have hm_66 : M_5 76 = some (aZ G 12 (bF nm)) := by rw [hF_9 76 ]; exact f_76
    have hm_67 : M_5 77 = some (aI G 12 (nF ap)) := by rw [hF_9 77 ]; exact f_77
    have hm_68 : M_5 78 = some (aI G 48 pr) := by rw [hF_9 78 ]; exact f_78
    have hm_69 : M_5 79 = some (aI G 48 pf) := by rw [hF_9 79 ]; exact f_79
    have hm_70 : M_5 80 = some (aB G 400 tf) := by rw [hF_9 80 ]; exact f_80
    have hm_71 : M_5 81 = some (aI G 5 fv) := by rw [hF_9 81 ]; exact f_81
    have hm_72 : M_5 82 = some (aZ G 384000 (bF tr)) := by rw [hF_9 82 ]; exact f_82
    have hm_73 : M_5 83 = some (aI G 3 (oF gv)) := by rw [hF_9 83 ]; exact f_83
    have hm_74 : M_5 84 = some (aI G 3 fo) := by rw [hF_9 84 ]; exact f_84
    have hm_75 : M_5 85 = some (aZ G 40 (bF re)) := by rw [hF_9 85 ]; exact f_85
    have hm_76 : M_5 86 = some (aZ G 120 (bF us)) := by rw [hF_9 86 ]; exact f_86
    have hm_77 : M_5 87 = some (aZ G 120 (bF nx)) := by rw [hF_9 87 ]; exact f_87
    have hm_78 : M_5 99 = some (aJ G 1 of) := by rw [hF_9 99 ]; exact f_99
    have hm_79 : M_5 16 = some (cLines ad ) := by rw [hF_9 16 ]; exact h16
    have hL_80 : LSm G ad M_5 n kd fm to sz rl en := fL.keep (fun j hj => hF_9 j )
    rw [hr_8]
    refine lv_istore (lv' := [(5, .int (nI 1)), (0, .ref b), (1, .ref (ad 0)), (2, .ref (ad 60)), (3, .ref (ad 99)), (4, .int (nI i))]) hx hb dL_law_862 hl (by decide) rfl (fun ls hl => ?_)
    refine lv_aload_n hx hb dL_law_864 rfl (lv_at hl 3 rfl) ?_
    refine lv_aload_n hx hb dL_law_865 rfl (lv_at hl 1 rfl) ?_
    refine lv_iload hx hb dL_law_866 (lv_at hl 5 rfl) ?_
    refine lv_iconst (v := nI 1) hx hb dL_law_868 (by decide) ?_
    refine lv_iadd hx hb dL_law_869 ?_
    refine n_eq (nI_add i 1) ?_
    refine va_sld (A := fr z) hx hb hX hbl hbz hI.S (vp_in_nI (n := i + 1) (by omega) (by omega)) dL_law_870 ?_
    rw [nI_clamp (by omega)]
    refine lv_aload_n hx hb dL_law_871 rfl (lv_at hl 1 rfl) ?_
    refine lv_iload hx hb dL_law_872 (lv_at hl 5 rfl) ?_
    refine lv_iconst (v := nI 2) hx hb dL_law_874 (by decide) ?_
    refine lv_iadd hx hb dL_law_875 ?_
    refine n_eq (nI_add i 2) ?_
    refine va_sld (A := fr z) hx hb hX hbl hbz hI.S (vp_in_nI (n := i + 2) (by omega) (by omega)) dL_law_876 ?_
    rw [nI_clamp (by omega)]
    refine k_Ni (va_runV (As := [.int (xs (i + 1)), .int (xs (i + 2))]) (rest := []) ⟨hx, hb, hml, hown, hts⟩ (c_X10_look_a l G z ad M_5 (th := tw) (on := jn) (ao := ao) (vr := vr) (sn := sn) (tp := len) (pt := pt) (zs := zs) (bg := bg) (fa := fw) (n := n) (x0 := xs (i + 1)) (x1 := xs (i + 2)) hm_50 hc_1 hw1) (cwV 2 hts (gV (lwg_of t_1193 rfl) (lwg_of t_1194 rfl) (lwg_of t_1195 rfl) (lwg_of t_13 rfl) (lwg_of t_1196 rfl)) rfl rfl rfl (by decide +kernel) ⟨Nat.le_of_ble_eq_true rfl, Nat.le_of_ble_eq_true rfl⟩) (hI.preV hm_50 rfl) rfl rfl hl.1 rfl (lv_room (Nat.le_of_ble_eq_true rfl)) dL_law_877 ⟨(show _ ≤ (601024 : Nat) from by omega), (show _ ≤ (7293034 : Nat) from by omega)⟩) hI (fun r_81 M_83 H_84 locs_85 hp_82 hI => ?_)
    obtain ⟨hr_86, hm_87, hF_88⟩ := hp_82
    have hm_89 : M_83 0 = some (cStore ad qa qs fw) := by rw [hF_88 0 (by omega)]; exact hm_10
    have hm_90 : M_83 1 = some (cTape ad len) := by rw [hF_88 1 (by omega)]; exact hm_11
    have hm_91 : M_83 2 = some (aI G 400 (nF tb)) := by rw [hF_88 2 (by omega)]; exact hm_12
    have hm_92 : M_83 3 = some (cLaws ad ) := by rw [hF_88 3 (by omega)]; exact hm_13
    have hm_93 : M_83 4 = some (aI G 36 (nF le)) := by rw [hF_88 4 (by omega)]; exact hm_14
    have hm_94 : M_83 5 = some (aI G 36 (nF mo)) := by rw [hF_88 5 (by omega)]; exact hm_15
    have hm_95 : M_83 6 = some (aI G 36 (nF al)) := by rw [hF_88 6 (by omega)]; exact hm_16
    have hm_96 : M_83 7 = some (aZ G 6 (bF ho)) := by rw [hF_88 7 (by omega)]; exact hm_17
    have hm_97 : M_83 8 = some (cOnes ad jn) := by rw [hF_88 8 (by omega)]; exact hm_18
    have hm_98 : M_83 9 = some (aI G 40 (nF hg)) := by rw [hF_88 9 (by omega)]; exact hm_19
    have hm_99 : M_83 10 = some (aI G 40 (nF lst)) := by rw [hF_88 10 (by omega)]; exact hm_20
    have hm_100 : M_83 11 = some (aI G 40 (nF jd)) := by rw [hF_88 11 (by omega)]; exact hm_21
    have hm_101 : M_83 12 = some (cEnds ad 12 s0) := by rw [hF_88 12 (by omega)]; exact hm_22
    have hm_102 : M_83 13 = some (aI G 6 (nF r0)) := by rw [hF_88 13 (by omega)]; exact hm_23
    have hm_103 : M_83 14 = some (aI G 6 (oF th)) := by rw [hF_88 14 (by omega)]; exact hm_24
    have hm_104 : M_83 15 = some (aI G 6 (oF ol)) := by rw [hF_88 15 (by omega)]; exact hm_25
    have hm_105 : M_83 19 = some (aZ G 120 (bF mm9)) := by rw [hF_88 19 (by omega)]; exact hm_26
    have hm_106 : M_83 20 = some (aI G 120 ff) := by rw [hF_88 20 (by omega)]; exact hm_27
    have hm_107 : M_83 21 = some (aI G 120 lq) := by rw [hF_88 21 (by omega)]; exact hm_28
    have hm_108 : M_83 22 = some (cReader ad ra rb rt rv) := by rw [hF_88 22 (by omega)]; exact hm_29
    have hm_109 : M_83 23 = some (cMatcher ad qm pz) := by rw [hF_88 23 (by omega)]; exact hm_30
    have hm_110 : M_83 24 = some (aJ G 2160 sx) := by rw [hF_88 24 (by omega)]; exact hm_31
    have hm_111 : M_83 25 = some (aI G 6 (nF ft)) := by rw [hF_88 25 (by omega)]; exact hm_32
    have hm_112 : M_83 26 = some (aJ G 240 rx) := by rw [hF_88 26 (by omega)]; exact hm_33
    have hm_113 : M_83 27 = some (aJ G 3 dm) := by rw [hF_88 27 (by omega)]; exact hm_34
    have hm_114 : M_83 28 = some (aI G 3 rc) := by rw [hF_88 28 (by omega)]; exact hm_35
    have hm_115 : M_83 qa = some (cQuestion ad qa ao vr) := by rw [hF_88 qa (by omega)]; exact hm_36
    have hm_116 : M_83 (qa + 1) = some (aI G 6 (nF kn)) := by rw [hF_88 (qa + 1) (by omega)]; exact hm_37
    have hm_117 : M_83 (qa + 2) = some (aZ G 6 (bF nq)) := by rw [hF_88 (qa + 2) (by omega)]; exact hm_38
    have hm_118 : M_83 (qa + 3) = some (aI G 6 (nF pn)) := by rw [hF_88 (qa + 3) (by omega)]; exact hm_39
    have hm_119 : M_83 (qa + 4) = some (aI G 6 (nF av)) := by rw [hF_88 (qa + 4) (by omega)]; exact hm_40
    have hm_120 : M_83 (qa + 5) = some (aI G 24 (nF ro)) := by rw [hF_88 (qa + 5) (by omega)]; exact hm_41
    have hm_121 : M_83 (qa + 6) = some (aI G 24 (nF te)) := by rw [hF_88 (qa + 6) (by omega)]; exact hm_42
    have hm_122 : M_83 qs = some (cQuestion ad qs sq su) := by rw [hF_88 qs (by omega)]; exact hm_43
    have hm_123 : M_83 (qs + 1) = some (aI G 6 (nF kb)) := by rw [hF_88 (qs + 1) (by omega)]; exact hm_44
    have hm_124 : M_83 (qs + 2) = some (aZ G 6 (bF nb)) := by rw [hF_88 (qs + 2) (by omega)]; exact hm_45
    have hm_125 : M_83 (qs + 3) = some (aI G 6 (nF pb)) := by rw [hF_88 (qs + 3) (by omega)]; exact hm_46
    have hm_126 : M_83 (qs + 4) = some (aI G 6 (nF ab)) := by rw [hF_88 (qs + 4) (by omega)]; exact hm_47
    have hm_127 : M_83 (qs + 5) = some (aI G 24 (nF rbb)) := by rw [hF_88 (qs + 5) (by omega)]; exact hm_48
    have hm_128 : M_83 (qs + 6) = some (aI G 24 (nF tbb)) := by rw [hF_88 (qs + 6) (by omega)]; exact hm_49
    have hm_129 : M_83 61 = some (aI G 36 (nF le)) := by rw [hF_88 61 (by omega)]; exact hm_51
    have hm_130 : M_83 62 = some (aI G 36 (nF mo)) := by rw [hF_88 62 (by omega)]; exact hm_52
    have hm_131 : M_83 63 = some (aI G 36 (nF al)) := by rw [hF_88 63 (by omega)]; exact hm_53
    have hm_132 : M_83 64 = some (aZ G 6 (bF ho)) := by rw [hF_88 64 (by omega)]; exact hm_54
    have hm_133 : M_83 65 = some (aI G 120 (nF mk)) := by rw [hF_88 65 (by omega)]; exact hm_55
    have hm_134 : M_83 66 = some (aI G 120 mf) := by rw [hF_88 66 (by omega)]; exact hm_56
    have hm_135 : M_83 67 = some (aI G 120 mu) := by rw [hF_88 67 (by omega)]; exact hm_57
    have hm_136 : M_83 68 = some (aI G 121 (nF mz)) := by rw [hF_88 68 (by omega)]; exact hm_58
    have hm_137 : M_83 69 = some (aI G 726 (nF rr)) := by rw [hF_88 69 (by omega)]; exact hm_59
    have hm_138 : M_83 70 = some (aI G 726 (nF ee)) := by rw [hF_88 70 (by omega)]; exact hm_60
    have hm_139 : M_83 71 = some (aI G 40 (nF lst)) := by rw [hF_88 71 (by omega)]; exact hm_61
    have hm_140 : M_83 72 = some (aI G 40 (nF oa)) := by rw [hF_88 72 (by omega)]; exact hm_62
    have hm_141 : M_83 73 = some (aI G 40 (nF ob)) := by rw [hF_88 73 (by omega)]; exact hm_63
    have hm_142 : M_83 74 = some (aI G 120 s74) := by rw [hF_88 74 (by omega)]; exact hm_64
    have hm_143 : M_83 75 = some (aI G 12 ak) := by rw [hF_88 75 (by omega)]; exact hm_65
    have hm_144 : M_83 76 = some (aZ G 12 (bF nm)) := by rw [hF_88 76 (by omega)]; exact hm_66
    have hm_145 : M_83 77 = some (aI G 12 (nF ap)) := by rw [hF_88 77 (by omega)]; exact hm_67
    have hm_146 : M_83 78 = some (aI G 48 pr) := by rw [hF_88 78 (by omega)]; exact hm_68
    have hm_147 : M_83 79 = some (aI G 48 pf) := by rw [hF_88 79 (by omega)]; exact hm_69
    have hm_148 : M_83 80 = some (aB G 400 tf) := by rw [hF_88 80 (by omega)]; exact hm_70
    have hm_149 : M_83 81 = some (aI G 5 fv) := by rw [hF_88 81 (by omega)]; exact hm_71
    have hm_150 : M_83 82 = some (aZ G 384000 (bF tr)) := by rw [hF_88 82 (by omega)]; exact hm_72
    have hm_151 : M_83 83 = some (aI G 3 (oF gv)) := by rw [hF_88 83 (by omega)]; exact hm_73
    have hm_152 : M_83 84 = some (aI G 3 fo) := by rw [hF_88 84 (by omega)]; exact hm_74
    have hm_153 : M_83 85 = some (aZ G 40 (bF re)) := by rw [hF_88 85 (by omega)]; exact hm_75
    have hm_154 : M_83 86 = some (aZ G 120 (bF us)) := by rw [hF_88 86 (by omega)]; exact hm_76
    have hm_155 : M_83 87 = some (aZ G 120 (bF nx)) := by rw [hF_88 87 (by omega)]; exact hm_77
    have hm_156 : M_83 99 = some (aJ G 1 of) := by rw [hF_88 99 (by omega)]; exact hm_78
    have hm_157 : M_83 16 = some (cLines ad ) := by rw [hF_88 16 (by omega)]; exact hm_79
    have hL_158 : LSm G ad M_83 n kd fm to sz rl en := hL_80.keep (fun j hj => hF_88 j (by omega))
    have hF_159 : ∀ j : Nat, j ≠ 60 → M_83 j = M j := fun j q0 => (hF_88 j q0).trans (hF_9 j )
    rw [hr_86]
    refine lv_istore (lv' := [(6, .int (nI 0)), (5, .int (nI 1)), (0, .ref b), (1, .ref (ad 0)), (2, .ref (ad 60)), (3, .ref (ad 99)), (4, .int (nI i))]) hx hb dL_law_880 hl (by decide) rfl (fun ls hl => ?_)
    refine lv_aload_n hx hb dL_law_882 rfl (lv_at hl 4 rfl) ?_
    refine k_Ri (va_runV (As := []) (rest := []) ⟨hx, hb, hml, hown, hts⟩ (c_X10_thrown l G z ad M_83 (th := 1) (ln := n) (on := jn) (ao := ao) (vr := vr) (sn := sn) (tp := len) (pt := pt) (zs := zs) (bg := bg) (fa := fw) hm_87) (cwV 0 hts (gV (lwg_of t_997 rfl) (lwg_of t_998 rfl) (lwg_of t_999 rfl) (lwg_of t_13 rfl) (lwg_of t_1000 rfl)) rfl rfl rfl (by decide +kernel) ⟨Nat.le_of_ble_eq_true rfl, Nat.le_of_ble_eq_true rfl⟩) (hI.preV hm_87 rfl) rfl rfl hl.1 rfl (lv_room (Nat.le_of_ble_eq_true rfl)) dL_law_883 ⟨(show _ ≤ (601024 : Nat) from by omega), (show _ ≤ (7293034 : Nat) from by omega)⟩) (fun _ h => h) (fun r_160 hp_161 => ?_)
    rw [hp_161]
    refine lv_iload hx hb dL_law_886 (lv_at hl 1 rfl) ?_
    refine lv_icmp_eq (tgt := 893) hx hb dL_law_888 (by decide) (fun c_162 => ?_) (fun c_162 => ?_)
    · -- 888: nI 1 eq
      refine lv_iload hx hb dL_law_893 (lv_at hl 1 rfl) ?_
      refine lv_if_ne (tgt := 910) hx hb dL_law_895 (by decide) (fun c_163 => ?_) (fun c_163 => ?_)
      · -- 895: nI 1 ne
        refine lv_goto (tgt := 1333) hx hb dL_law_910 (by decide) ?_
        refine W.widen (k := cz + 10) (n := sy + 300) (by omega) (by omega) ?_
        exact kk ad M_83 H_84 locs_85 ls n kd fm to sz rl en qa qs fw len tb le mo al ho jn hg lst jd s0 r0 th ol e0 mm9 ff lq ra rb rt rv qm pz sx ft rx dm rc ao vr kn nq pn av ro te sq su kb nb pb ab rbb tbb 1 sn pt zs bg mk mf mu mz rr ee oa ob s74 ak nm ap pr pf tf fv tr gv fo re us nx of hL_158 w1 w2 w3 w4 w5 w6 w7 w8 w9 w10 w11 w12 w13 w14 w15 w16 w17 w18 w19 w20 w21 w22 w23 w24 w25 w26 w27 w28 w29 (fun h9 => by rw [hF_159 17 (by omega), hF_159 18 (by omega)]; exact w30 h9) (by rw [hF_159 29 (by omega)]; exact w31) (fun j9 h9 => by rw [hF_159 j9 (by omega)]; exact w32 j9 h9) hm_89 hm_90 hm_91 hm_92 hm_93 hm_94 hm_95 hm_96 hm_97 hm_98 hm_99 hm_100 hm_101 hm_102 hm_103 hm_104 hm_105 hm_106 hm_107 hm_108 hm_109 hm_110 hm_111 hm_112 hm_113 hm_114 hm_115 hm_116 hm_117 hm_118 hm_119 hm_120 hm_121 hm_122 hm_123 hm_124 hm_125 hm_126 hm_127 hm_128 hm_87 hm_129 hm_130 hm_131 hm_132 hm_133 hm_134 hm_135 hm_136 hm_137 hm_138 hm_139 hm_140 hm_141 hm_142 hm_143 hm_144 hm_145 hm_146 hm_147 hm_148 hm_149 hm_150 hm_151 hm_152 hm_153 hm_154 hm_155 hm_156 hI (lv_sub hl [2, 3, 4, 5, 6] rfl)
      · -- 895: nI 1 eq
        exact absurd c_163 (by decide)
    · -- 888: nI 1 ne
      exact absurd (by decide) c_162
  · skip
    refine lv_aload_n hx hb dL_law_845 rfl (lv_at hl 1 rfl) ?_
    obtain ⟨t1, ht1, et1⟩ := hc_2
    rcases (in_or 5 (xs (i + 2)) (by omega) : (xs (i + 2) < 0 ∨ ¬ xs (i + 2) < nI 5) ∨ (∃ t : Nat, t < 5 ∧ xs (i + 2) = nI t)) with hc_164 | hc_165
    · skip
      refine lv_aload_n hx hb dL_law_846 rfl (lv_at hl 0 rfl) ?_
      refine lv_iload hx hb dL_law_847 (lv_at hl 4 rfl) ?_
      refine lv_iconst (v := nI 1) hx hb dL_law_849 (by decide) ?_
      refine lv_iadd hx hb dL_law_850 ?_
      refine n_eq (nI_add i 1) ?_
      refine va_sld (A := fr z) hx hb hX hbl hbz hI.S (vp_in_nI (n := i + 1) (by omega) (by omega)) dL_law_851 ?_
      rw [nI_clamp (by omega)]
      refine n_eq (show _ = nI t1 from et1) ?_
      refine lv_aload_n hx hb dL_law_852 rfl (lv_at hl 0 rfl) ?_
      refine lv_iload hx hb dL_law_853 (lv_at hl 4 rfl) ?_
      refine lv_iconst (v := nI 2) hx hb dL_law_855 (by decide) ?_
      refine lv_iadd hx hb dL_law_856 ?_
      refine n_eq (nI_add i 2) ?_
      refine va_sld (A := fr z) hx hb hX hbl hbz hI.S (vp_in_nI (n := i + 2) (by omega) (by omega)) dL_law_857 ?_
      rw [nI_clamp (by omega)]
      refine lv_aload_n hx hb dL_law_858 rfl (lv_at hl 3 rfl) ?_
      refine k_Ni (vx_runSW (As := [.ref (ad 0), .int (nI t1), .int (xs (i + 2)), .ref (ad 99)]) (rest := []) ⟨hx, hb, hml, hown, hts⟩ (c_L_look_b l hst G z ad M (n := n) (kd := kd) (fm := fm) (to := to) (sz := sz) (rl := rl) (en := en) (qa := qa) (qs := qs) (fw := fw) (q := t1) (x1 := xs (i + 2)) fL f_0 w1 ht1 (out_of hc_164 (by decide))) (vx_cwSW 4 hts (gSW (lwg_of t_855 rfl) (lwg_of t_856 rfl) (lwg_of t_0 rfl) (lwg_of t_857 rfl)) rfl rfl rfl (by decide +kernel) ⟨Nat.le_of_ble_eq_true rfl, Nat.le_of_ble_eq_true rfl⟩) hI.preS rfl rfl hl.1 rfl (lv_room (Nat.le_of_ble_eq_true rfl)) dL_law_859 ⟨(show _ ≤ (601024 : Nat) from by omega), (show _ ≤ (7293034 : Nat) from by omega)⟩) hI (fun r_166 M_168 H_169 locs_170 hp_167 hI => ?_)
      obtain ⟨hr_171, hF_172⟩ := hp_167
      have hm_173 : M_168 0 = some (cStore ad qa qs fw) := by rw [hF_172 0 ]; exact f_0
      have hm_174 : M_168 1 = some (cTape ad len) := by rw [hF_172 1 ]; exact f_1
      have hm_175 : M_168 2 = some (aI G 400 (nF tb)) := by rw [hF_172 2 ]; exact f_2
      have hm_176 : M_168 3 = some (cLaws ad ) := by rw [hF_172 3 ]; exact f_3
      have hm_177 : M_168 4 = some (aI G 36 (nF le)) := by rw [hF_172 4 ]; exact f_4
      have hm_178 : M_168 5 = some (aI G 36 (nF mo)) := by rw [hF_172 5 ]; exact f_5
      have hm_179 : M_168 6 = some (aI G 36 (nF al)) := by rw [hF_172 6 ]; exact f_6
      have hm_180 : M_168 7 = some (aZ G 6 (bF ho)) := by rw [hF_172 7 ]; exact f_7
      have hm_181 : M_168 8 = some (cOnes ad jn) := by rw [hF_172 8 ]; exact f_8
      have hm_182 : M_168 9 = some (aI G 40 (nF hg)) := by rw [hF_172 9 ]; exact f_9
      have hm_183 : M_168 10 = some (aI G 40 (nF lst)) := by rw [hF_172 10 ]; exact f_10
      have hm_184 : M_168 11 = some (aI G 40 (nF jd)) := by rw [hF_172 11 ]; exact f_11
      have hm_185 : M_168 12 = some (cEnds ad 12 s0) := by rw [hF_172 12 ]; exact f_12
      have hm_186 : M_168 13 = some (aI G 6 (nF r0)) := by rw [hF_172 13 ]; exact f_13
      have hm_187 : M_168 14 = some (aI G 6 (oF th)) := by rw [hF_172 14 ]; exact f_14
      have hm_188 : M_168 15 = some (aI G 6 (oF ol)) := by rw [hF_172 15 ]; exact f_15
      have hm_189 : M_168 19 = some (aZ G 120 (bF mm9)) := by rw [hF_172 19 ]; exact f_19
      have hm_190 : M_168 20 = some (aI G 120 ff) := by rw [hF_172 20 ]; exact f_20
      have hm_191 : M_168 21 = some (aI G 120 lq) := by rw [hF_172 21 ]; exact f_21
      have hm_192 : M_168 22 = some (cReader ad ra rb rt rv) := by rw [hF_172 22 ]; exact f_22
      have hm_193 : M_168 23 = some (cMatcher ad qm pz) := by rw [hF_172 23 ]; exact f_23
      have hm_194 : M_168 24 = some (aJ G 2160 sx) := by rw [hF_172 24 ]; exact f_24
      have hm_195 : M_168 25 = some (aI G 6 (nF ft)) := by rw [hF_172 25 ]; exact f_25
      have hm_196 : M_168 26 = some (aJ G 240 rx) := by rw [hF_172 26 ]; exact f_26
      have hm_197 : M_168 27 = some (aJ G 3 dm) := by rw [hF_172 27 ]; exact f_27
      have hm_198 : M_168 28 = some (aI G 3 rc) := by rw [hF_172 28 ]; exact f_28
      have hm_199 : M_168 qa = some (cQuestion ad qa ao vr) := by rw [hF_172 qa ]; exact f_qa
      have hm_200 : M_168 (qa + 1) = some (aI G 6 (nF kn)) := by rw [hF_172 (qa + 1) ]; exact f_qa_1
      have hm_201 : M_168 (qa + 2) = some (aZ G 6 (bF nq)) := by rw [hF_172 (qa + 2) ]; exact f_qa_2
      have hm_202 : M_168 (qa + 3) = some (aI G 6 (nF pn)) := by rw [hF_172 (qa + 3) ]; exact f_qa_3
      have hm_203 : M_168 (qa + 4) = some (aI G 6 (nF av)) := by rw [hF_172 (qa + 4) ]; exact f_qa_4
      have hm_204 : M_168 (qa + 5) = some (aI G 24 (nF ro)) := by rw [hF_172 (qa + 5) ]; exact f_qa_5
      have hm_205 : M_168 (qa + 6) = some (aI G 24 (nF te)) := by rw [hF_172 (qa + 6) ]; exact f_qa_6
      have hm_206 : M_168 qs = some (cQuestion ad qs sq su) := by rw [hF_172 qs ]; exact f_qs
      have hm_207 : M_168 (qs + 1) = some (aI G 6 (nF kb)) := by rw [hF_172 (qs + 1) ]; exact f_qs_1
      have hm_208 : M_168 (qs + 2) = some (aZ G 6 (bF nb)) := by rw [hF_172 (qs + 2) ]; exact f_qs_2
      have hm_209 : M_168 (qs + 3) = some (aI G 6 (nF pb)) := by rw [hF_172 (qs + 3) ]; exact f_qs_3
      have hm_210 : M_168 (qs + 4) = some (aI G 6 (nF ab)) := by rw [hF_172 (qs + 4) ]; exact f_qs_4
      have hm_211 : M_168 (qs + 5) = some (aI G 24 (nF rbb)) := by rw [hF_172 (qs + 5) ]; exact f_qs_5
      have hm_212 : M_168 (qs + 6) = some (aI G 24 (nF tbb)) := by rw [hF_172 (qs + 6) ]; exact f_qs_6
      have hm_213 : M_168 60 = some (cModel ad tw n jn ao vr sn len pt zs bg fw) := by rw [hF_172 60 ]; exact f_60
      have hm_214 : M_168 61 = some (aI G 36 (nF le)) := by rw [hF_172 61 ]; exact f_61
      have hm_215 : M_168 62 = some (aI G 36 (nF mo)) := by rw [hF_172 62 ]; exact f_62
      have hm_216 : M_168 63 = some (aI G 36 (nF al)) := by rw [hF_172 63 ]; exact f_63
      have hm_217 : M_168 64 = some (aZ G 6 (bF ho)) := by rw [hF_172 64 ]; exact f_64
      have hm_218 : M_168 65 = some (aI G 120 (nF mk)) := by rw [hF_172 65 ]; exact f_65
      have hm_219 : M_168 66 = some (aI G 120 mf) := by rw [hF_172 66 ]; exact f_66
      have hm_220 : M_168 67 = some (aI G 120 mu) := by rw [hF_172 67 ]; exact f_67
      have hm_221 : M_168 68 = some (aI G 121 (nF mz)) := by rw [hF_172 68 ]; exact f_68
      have hm_222 : M_168 69 = some (aI G 726 (nF rr)) := by rw [hF_172 69 ]; exact f_69
      have hm_223 : M_168 70 = some (aI G 726 (nF ee)) := by rw [hF_172 70 ]; exact f_70
      have hm_224 : M_168 71 = some (aI G 40 (nF lst)) := by rw [hF_172 71 ]; exact f_71
      have hm_225 : M_168 72 = some (aI G 40 (nF oa)) := by rw [hF_172 72 ]; exact f_72
      have hm_226 : M_168 73 = some (aI G 40 (nF ob)) := by rw [hF_172 73 ]; exact f_73
      have hm_227 : M_168 74 = some (aI G 120 s74) := by rw [hF_172 74 ]; exact f_74
      have hm_228 : M_168 75 = some (aI G 12 ak) := by rw [hF_172 75 ]; exact f_75
      have hm_229 : M_168 76 = some (aZ G 12 (bF nm)) := by rw [hF_172 76 ]; exact f_76
      have hm_230 : M_168 77 = some (aI G 12 (nF ap)) := by rw [hF_172 77 ]; exact f_77
      have hm_231 : M_168 78 = some (aI G 48 pr) := by rw [hF_172 78 ]; exact f_78
      have hm_232 : M_168 79 = some (aI G 48 pf) := by rw [hF_172 79 ]; exact f_79
      have hm_233 : M_168 80 = some (aB G 400 tf) := by rw [hF_172 80 ]; exact f_80
      have hm_234 : M_168 81 = some (aI G 5 fv) := by rw [hF_172 81 ]; exact f_81
      have hm_235 : M_168 82 = some (aZ G 384000 (bF tr)) := by rw [hF_172 82 ]; exact f_82
      have hm_236 : M_168 83 = some (aI G 3 (oF gv)) := by rw [hF_172 83 ]; exact f_83
      have hm_237 : M_168 84 = some (aI G 3 fo) := by rw [hF_172 84 ]; exact f_84
      have hm_238 : M_168 85 = some (aZ G 40 (bF re)) := by rw [hF_172 85 ]; exact f_85
      have hm_239 : M_168 86 = some (aZ G 120 (bF us)) := by rw [hF_172 86 ]; exact f_86
      have hm_240 : M_168 87 = some (aZ G 120 (bF nx)) := by rw [hF_172 87 ]; exact f_87
      have hm_241 : M_168 99 = some (aJ G 1 of) := by rw [hF_172 99 ]; exact f_99
      have hm_242 : M_168 16 = some (cLines ad ) := by rw [hF_172 16 ]; exact h16
      have hL_243 : LSm G ad M_168 n kd fm to sz rl en := fL.keep (fun j hj => hF_172 j )
      rw [hr_171]
      refine lv_istore (lv' := [(5, .int (nI 2)), (0, .ref b), (1, .ref (ad 0)), (2, .ref (ad 60)), (3, .ref (ad 99)), (4, .int (nI i))]) hx hb dL_law_862 hl (by decide) rfl (fun ls hl => ?_)
      refine lv_aload_n hx hb dL_law_864 rfl (lv_at hl 3 rfl) ?_
      refine lv_aload_n hx hb dL_law_865 rfl (lv_at hl 1 rfl) ?_
      refine lv_iload hx hb dL_law_866 (lv_at hl 5 rfl) ?_
      refine lv_iconst (v := nI 1) hx hb dL_law_868 (by decide) ?_
      refine lv_iadd hx hb dL_law_869 ?_
      refine n_eq (nI_add i 1) ?_
      refine va_sld (A := fr z) hx hb hX hbl hbz hI.S (vp_in_nI (n := i + 1) (by omega) (by omega)) dL_law_870 ?_
      rw [nI_clamp (by omega)]
      refine n_eq (show _ = nI t1 from et1) ?_
      refine lv_aload_n hx hb dL_law_871 rfl (lv_at hl 1 rfl) ?_
      refine lv_iload hx hb dL_law_872 (lv_at hl 5 rfl) ?_
      refine lv_iconst (v := nI 2) hx hb dL_law_874 (by decide) ?_
      refine lv_iadd hx hb dL_law_875 ?_
      refine n_eq (nI_add i 2) ?_
      refine va_sld (A := fr z) hx hb hX hbl hbz hI.S (vp_in_nI (n := i + 2) (by omega) (by omega)) dL_law_876 ?_
      rw [nI_clamp (by omega)]
      refine k_Ni (va_runV (As := [.int (nI t1), .int (xs (i + 2))]) (rest := []) ⟨hx, hb, hml, hown, hts⟩ (c_X10_look_x l G z ad M_168 (th := tw) (on := jn) (ao := ao) (vr := vr) (sn := sn) (tp := len) (pt := pt) (zs := zs) (bg := bg) (fa := fw) (n := n) (q := t1) (x1 := xs (i + 2)) hm_213 ht1 hw1 (out_of hc_164 (by decide))) (cwV 2 hts (gV (lwg_of t_1193 rfl) (lwg_of t_1194 rfl) (lwg_of t_1195 rfl) (lwg_of t_13 rfl) (lwg_of t_1196 rfl)) rfl rfl rfl (by decide +kernel) ⟨Nat.le_of_ble_eq_true rfl, Nat.le_of_ble_eq_true rfl⟩) (hI.preV hm_213 rfl) rfl rfl hl.1 rfl (lv_room (Nat.le_of_ble_eq_true rfl)) dL_law_877 ⟨(show _ ≤ (601024 : Nat) from by omega), (show _ ≤ (7293034 : Nat) from by omega)⟩) hI (fun r_244 M_246 H_247 locs_248 hp_245 hI => ?_)
      obtain ⟨hr_249, hm_250, hF_251⟩ := hp_245
      have hm_252 : M_246 0 = some (cStore ad qa qs fw) := by rw [hF_251 0 (by omega)]; exact hm_173
      have hm_253 : M_246 1 = some (cTape ad len) := by rw [hF_251 1 (by omega)]; exact hm_174
      have hm_254 : M_246 2 = some (aI G 400 (nF tb)) := by rw [hF_251 2 (by omega)]; exact hm_175
      have hm_255 : M_246 3 = some (cLaws ad ) := by rw [hF_251 3 (by omega)]; exact hm_176
      have hm_256 : M_246 4 = some (aI G 36 (nF le)) := by rw [hF_251 4 (by omega)]; exact hm_177
      have hm_257 : M_246 5 = some (aI G 36 (nF mo)) := by rw [hF_251 5 (by omega)]; exact hm_178
      have hm_258 : M_246 6 = some (aI G 36 (nF al)) := by rw [hF_251 6 (by omega)]; exact hm_179
      have hm_259 : M_246 7 = some (aZ G 6 (bF ho)) := by rw [hF_251 7 (by omega)]; exact hm_180
      have hm_260 : M_246 8 = some (cOnes ad jn) := by rw [hF_251 8 (by omega)]; exact hm_181
      have hm_261 : M_246 9 = some (aI G 40 (nF hg)) := by rw [hF_251 9 (by omega)]; exact hm_182
      have hm_262 : M_246 10 = some (aI G 40 (nF lst)) := by rw [hF_251 10 (by omega)]; exact hm_183
      have hm_263 : M_246 11 = some (aI G 40 (nF jd)) := by rw [hF_251 11 (by omega)]; exact hm_184
      have hm_264 : M_246 12 = some (cEnds ad 12 s0) := by rw [hF_251 12 (by omega)]; exact hm_185
      have hm_265 : M_246 13 = some (aI G 6 (nF r0)) := by rw [hF_251 13 (by omega)]; exact hm_186
      have hm_266 : M_246 14 = some (aI G 6 (oF th)) := by rw [hF_251 14 (by omega)]; exact hm_187
      have hm_267 : M_246 15 = some (aI G 6 (oF ol)) := by rw [hF_251 15 (by omega)]; exact hm_188
      have hm_268 : M_246 19 = some (aZ G 120 (bF mm9)) := by rw [hF_251 19 (by omega)]; exact hm_189
      have hm_269 : M_246 20 = some (aI G 120 ff) := by rw [hF_251 20 (by omega)]; exact hm_190
      have hm_270 : M_246 21 = some (aI G 120 lq) := by rw [hF_251 21 (by omega)]; exact hm_191
      have hm_271 : M_246 22 = some (cReader ad ra rb rt rv) := by rw [hF_251 22 (by omega)]; exact hm_192
      have hm_272 : M_246 23 = some (cMatcher ad qm pz) := by rw [hF_251 23 (by omega)]; exact hm_193
      have hm_273 : M_246 24 = some (aJ G 2160 sx) := by rw [hF_251 24 (by omega)]; exact hm_194
      have hm_274 : M_246 25 = some (aI G 6 (nF ft)) := by rw [hF_251 25 (by omega)]; exact hm_195
      have hm_275 : M_246 26 = some (aJ G 240 rx) := by rw [hF_251 26 (by omega)]; exact hm_196
      have hm_276 : M_246 27 = some (aJ G 3 dm) := by rw [hF_251 27 (by omega)]; exact hm_197
      have hm_277 : M_246 28 = some (aI G 3 rc) := by rw [hF_251 28 (by omega)]; exact hm_198
      have hm_278 : M_246 qa = some (cQuestion ad qa ao vr) := by rw [hF_251 qa (by omega)]; exact hm_199
      have hm_279 : M_246 (qa + 1) = some (aI G 6 (nF kn)) := by rw [hF_251 (qa + 1) (by omega)]; exact hm_200
      have hm_280 : M_246 (qa + 2) = some (aZ G 6 (bF nq)) := by rw [hF_251 (qa + 2) (by omega)]; exact hm_201
      have hm_281 : M_246 (qa + 3) = some (aI G 6 (nF pn)) := by rw [hF_251 (qa + 3) (by omega)]; exact hm_202
      have hm_282 : M_246 (qa + 4) = some (aI G 6 (nF av)) := by rw [hF_251 (qa + 4) (by omega)]; exact hm_203
      have hm_283 : M_246 (qa + 5) = some (aI G 24 (nF ro)) := by rw [hF_251 (qa + 5) (by omega)]; exact hm_204
      have hm_284 : M_246 (qa + 6) = some (aI G 24 (nF te)) := by rw [hF_251 (qa + 6) (by omega)]; exact hm_205
      have hm_285 : M_246 qs = some (cQuestion ad qs sq su) := by rw [hF_251 qs (by omega)]; exact hm_206
      have hm_286 : M_246 (qs + 1) = some (aI G 6 (nF kb)) := by rw [hF_251 (qs + 1) (by omega)]; exact hm_207
      have hm_287 : M_246 (qs + 2) = some (aZ G 6 (bF nb)) := by rw [hF_251 (qs + 2) (by omega)]; exact hm_208
      have hm_288 : M_246 (qs + 3) = some (aI G 6 (nF pb)) := by rw [hF_251 (qs + 3) (by omega)]; exact hm_209
      have hm_289 : M_246 (qs + 4) = some (aI G 6 (nF ab)) := by rw [hF_251 (qs + 4) (by omega)]; exact hm_210
      have hm_290 : M_246 (qs + 5) = some (aI G 24 (nF rbb)) := by rw [hF_251 (qs + 5) (by omega)]; exact hm_211
      have hm_291 : M_246 (qs + 6) = some (aI G 24 (nF tbb)) := by rw [hF_251 (qs + 6) (by omega)]; exact hm_212
      have hm_292 : M_246 61 = some (aI G 36 (nF le)) := by rw [hF_251 61 (by omega)]; exact hm_214
      have hm_293 : M_246 62 = some (aI G 36 (nF mo)) := by rw [hF_251 62 (by omega)]; exact hm_215
      have hm_294 : M_246 63 = some (aI G 36 (nF al)) := by rw [hF_251 63 (by omega)]; exact hm_216
      have hm_295 : M_246 64 = some (aZ G 6 (bF ho)) := by rw [hF_251 64 (by omega)]; exact hm_217
      have hm_296 : M_246 65 = some (aI G 120 (nF mk)) := by rw [hF_251 65 (by omega)]; exact hm_218
      have hm_297 : M_246 66 = some (aI G 120 mf) := by rw [hF_251 66 (by omega)]; exact hm_219
      have hm_298 : M_246 67 = some (aI G 120 mu) := by rw [hF_251 67 (by omega)]; exact hm_220
      have hm_299 : M_246 68 = some (aI G 121 (nF mz)) := by rw [hF_251 68 (by omega)]; exact hm_221
      have hm_300 : M_246 69 = some (aI G 726 (nF rr)) := by rw [hF_251 69 (by omega)]; exact hm_222
      have hm_301 : M_246 70 = some (aI G 726 (nF ee)) := by rw [hF_251 70 (by omega)]; exact hm_223
      have hm_302 : M_246 71 = some (aI G 40 (nF lst)) := by rw [hF_251 71 (by omega)]; exact hm_224
      have hm_303 : M_246 72 = some (aI G 40 (nF oa)) := by rw [hF_251 72 (by omega)]; exact hm_225
      have hm_304 : M_246 73 = some (aI G 40 (nF ob)) := by rw [hF_251 73 (by omega)]; exact hm_226
      have hm_305 : M_246 74 = some (aI G 120 s74) := by rw [hF_251 74 (by omega)]; exact hm_227
      have hm_306 : M_246 75 = some (aI G 12 ak) := by rw [hF_251 75 (by omega)]; exact hm_228
      have hm_307 : M_246 76 = some (aZ G 12 (bF nm)) := by rw [hF_251 76 (by omega)]; exact hm_229
      have hm_308 : M_246 77 = some (aI G 12 (nF ap)) := by rw [hF_251 77 (by omega)]; exact hm_230
      have hm_309 : M_246 78 = some (aI G 48 pr) := by rw [hF_251 78 (by omega)]; exact hm_231
      have hm_310 : M_246 79 = some (aI G 48 pf) := by rw [hF_251 79 (by omega)]; exact hm_232
      have hm_311 : M_246 80 = some (aB G 400 tf) := by rw [hF_251 80 (by omega)]; exact hm_233
      have hm_312 : M_246 81 = some (aI G 5 fv) := by rw [hF_251 81 (by omega)]; exact hm_234
      have hm_313 : M_246 82 = some (aZ G 384000 (bF tr)) := by rw [hF_251 82 (by omega)]; exact hm_235
      have hm_314 : M_246 83 = some (aI G 3 (oF gv)) := by rw [hF_251 83 (by omega)]; exact hm_236
      have hm_315 : M_246 84 = some (aI G 3 fo) := by rw [hF_251 84 (by omega)]; exact hm_237
      have hm_316 : M_246 85 = some (aZ G 40 (bF re)) := by rw [hF_251 85 (by omega)]; exact hm_238
      have hm_317 : M_246 86 = some (aZ G 120 (bF us)) := by rw [hF_251 86 (by omega)]; exact hm_239
      have hm_318 : M_246 87 = some (aZ G 120 (bF nx)) := by rw [hF_251 87 (by omega)]; exact hm_240
      have hm_319 : M_246 99 = some (aJ G 1 of) := by rw [hF_251 99 (by omega)]; exact hm_241
      have hm_320 : M_246 16 = some (cLines ad ) := by rw [hF_251 16 (by omega)]; exact hm_242
      have hL_321 : LSm G ad M_246 n kd fm to sz rl en := hL_243.keep (fun j hj => hF_251 j (by omega))
      have hF_322 : ∀ j : Nat, j ≠ 60 → M_246 j = M j := fun j q0 => (hF_251 j q0).trans (hF_172 j )
      rw [hr_249]
      refine lv_istore (lv' := [(6, .int (nI 0)), (5, .int (nI 2)), (0, .ref b), (1, .ref (ad 0)), (2, .ref (ad 60)), (3, .ref (ad 99)), (4, .int (nI i))]) hx hb dL_law_880 hl (by decide) rfl (fun ls hl => ?_)
      refine lv_aload_n hx hb dL_law_882 rfl (lv_at hl 4 rfl) ?_
      refine k_Ri (va_runV (As := []) (rest := []) ⟨hx, hb, hml, hown, hts⟩ (c_X10_thrown l G z ad M_246 (th := 2) (ln := n) (on := jn) (ao := ao) (vr := vr) (sn := sn) (tp := len) (pt := pt) (zs := zs) (bg := bg) (fa := fw) hm_250) (cwV 0 hts (gV (lwg_of t_997 rfl) (lwg_of t_998 rfl) (lwg_of t_999 rfl) (lwg_of t_13 rfl) (lwg_of t_1000 rfl)) rfl rfl rfl (by decide +kernel) ⟨Nat.le_of_ble_eq_true rfl, Nat.le_of_ble_eq_true rfl⟩) (hI.preV hm_250 rfl) rfl rfl hl.1 rfl (lv_room (Nat.le_of_ble_eq_true rfl)) dL_law_883 ⟨(show _ ≤ (601024 : Nat) from by omega), (show _ ≤ (7293034 : Nat) from by omega)⟩) (fun _ h => h) (fun r_323 hp_324 => ?_)
      rw [hp_324]
      refine lv_iload hx hb dL_law_886 (lv_at hl 1 rfl) ?_
      refine lv_icmp_eq (tgt := 893) hx hb dL_law_888 (by decide) (fun c_325 => ?_) (fun c_325 => ?_)
      · -- 888: nI 2 eq
        refine lv_iload hx hb dL_law_893 (lv_at hl 1 rfl) ?_
        refine lv_if_ne (tgt := 910) hx hb dL_law_895 (by decide) (fun c_326 => ?_) (fun c_326 => ?_)
        · -- 895: nI 2 ne
          refine lv_goto (tgt := 1333) hx hb dL_law_910 (by decide) ?_
          refine W.widen (k := cz + 10) (n := sy + 300) (by omega) (by omega) ?_
          exact kk ad M_246 H_247 locs_248 ls n kd fm to sz rl en qa qs fw len tb le mo al ho jn hg lst jd s0 r0 th ol e0 mm9 ff lq ra rb rt rv qm pz sx ft rx dm rc ao vr kn nq pn av ro te sq su kb nb pb ab rbb tbb 2 sn pt zs bg mk mf mu mz rr ee oa ob s74 ak nm ap pr pf tf fv tr gv fo re us nx of hL_321 w1 w2 w3 w4 w5 w6 w7 w8 w9 w10 w11 w12 w13 w14 w15 w16 w17 w18 w19 w20 w21 w22 w23 w24 w25 w26 w27 w28 w29 (fun h9 => by rw [hF_322 17 (by omega), hF_322 18 (by omega)]; exact w30 h9) (by rw [hF_322 29 (by omega)]; exact w31) (fun j9 h9 => by rw [hF_322 j9 (by omega)]; exact w32 j9 h9) hm_252 hm_253 hm_254 hm_255 hm_256 hm_257 hm_258 hm_259 hm_260 hm_261 hm_262 hm_263 hm_264 hm_265 hm_266 hm_267 hm_268 hm_269 hm_270 hm_271 hm_272 hm_273 hm_274 hm_275 hm_276 hm_277 hm_278 hm_279 hm_280 hm_281 hm_282 hm_283 hm_284 hm_285 hm_286 hm_287 hm_288 hm_289 hm_290 hm_291 hm_250 hm_292 hm_293 hm_294 hm_295 hm_296 hm_297 hm_298 hm_299 hm_300 hm_301 hm_302 hm_303 hm_304 hm_305 hm_306 hm_307 hm_308 hm_309 hm_310 hm_311 hm_312 hm_313 hm_314 hm_315 hm_316 hm_317 hm_318 hm_319 hI (lv_sub hl [2, 3, 4, 5, 6] rfl)
        · -- 895: nI 2 eq
          exact absurd c_326 (by decide)
      · -- 888: nI 2 ne
        exact absurd (by decide) c_325
    · skip
      refine lv_aload_n hx hb dL_law_846 rfl (lv_at hl 0 rfl) ?_
      obtain ⟨t2, ht2, et2⟩ := hc_165
      rcases (by omega : t2 = 0 ∨ t2 = 1 ∨ t2 = 2 ∨ t2 = 3 ∨ t2 = 4) with hc_327 | hc_328 | hc_329 | hc_330 | hc_331
      · skip
        refine lv_iload hx hb dL_law_847 (lv_at hl 4 rfl) ?_
        refine lv_iconst (v := nI 1) hx hb dL_law_849 (by decide) ?_
        refine lv_iadd hx hb dL_law_850 ?_
        refine n_eq (nI_add i 1) ?_
        refine va_sld (A := fr z) hx hb hX hbl hbz hI.S (vp_in_nI (n := i + 1) (by omega) (by omega)) dL_law_851 ?_
        rw [nI_clamp (by omega)]
        refine n_eq (show _ = nI t1 from et1) ?_
        refine lv_aload_n hx hb dL_law_852 rfl (lv_at hl 0 rfl) ?_
        refine lv_iload hx hb dL_law_853 (lv_at hl 4 rfl) ?_
        refine lv_iconst (v := nI 2) hx hb dL_law_855 (by decide) ?_
        refine lv_iadd hx hb dL_law_856 ?_
        refine n_eq (nI_add i 2) ?_
        refine va_sld (A := fr z) hx hb hX hbl hbz hI.S (vp_in_nI (n := i + 2) (by omega) (by omega)) dL_law_857 ?_
        rw [nI_clamp (by omega)]
        refine n_eq (show _ = nI 0 from et2.trans (congrArg nI hc_327)) ?_
        refine lv_aload_n hx hb dL_law_858 rfl (lv_at hl 3 rfl) ?_
        refine k_Ni (vx_runSW (As := [.ref (ad 0), .int (nI t1), .int (nI 0), .ref (ad 99)]) (rest := []) ⟨hx, hb, hml, hown, hts⟩ (c_L_look_0 l hst G z ad M (n := n) (kd := kd) (fm := fm) (to := to) (sz := sz) (rl := rl) (en := en) (qa := qa) (qs := qs) (fw := fw) (q := t1) (of := of) fL f_0 f_99 w1 ht1) (vx_cwSW 4 hts (gSW (lwg_of t_855 rfl) (lwg_of t_856 rfl) (lwg_of t_0 rfl) (lwg_of t_857 rfl)) rfl rfl rfl (by decide +kernel) ⟨Nat.le_of_ble_eq_true rfl, Nat.le_of_ble_eq_true rfl⟩) hI.preS rfl rfl hl.1 rfl (lv_room (Nat.le_of_ble_eq_true rfl)) dL_law_859 ⟨(show _ ≤ (601024 : Nat) from by omega), (show _ ≤ (7293034 : Nat) from by omega)⟩) hI (fun r_332 M_334 H_335 locs_336 hp_333 hI => ?_)
        obtain ⟨hr_337, hm_338, hF_339⟩ := hp_333
        have hm_340 : M_334 0 = some (cStore ad qa qs fw) := by rw [hF_339 0 (by omega)]; exact f_0
        have hm_341 : M_334 1 = some (cTape ad len) := by rw [hF_339 1 (by omega)]; exact f_1
        have hm_342 : M_334 2 = some (aI G 400 (nF tb)) := by rw [hF_339 2 (by omega)]; exact f_2
        have hm_343 : M_334 3 = some (cLaws ad ) := by rw [hF_339 3 (by omega)]; exact f_3
        have hm_344 : M_334 4 = some (aI G 36 (nF le)) := by rw [hF_339 4 (by omega)]; exact f_4
        have hm_345 : M_334 5 = some (aI G 36 (nF mo)) := by rw [hF_339 5 (by omega)]; exact f_5
        have hm_346 : M_334 6 = some (aI G 36 (nF al)) := by rw [hF_339 6 (by omega)]; exact f_6
        have hm_347 : M_334 7 = some (aZ G 6 (bF ho)) := by rw [hF_339 7 (by omega)]; exact f_7
        have hm_348 : M_334 8 = some (cOnes ad jn) := by rw [hF_339 8 (by omega)]; exact f_8
        have hm_349 : M_334 9 = some (aI G 40 (nF hg)) := by rw [hF_339 9 (by omega)]; exact f_9
        have hm_350 : M_334 10 = some (aI G 40 (nF lst)) := by rw [hF_339 10 (by omega)]; exact f_10
        have hm_351 : M_334 11 = some (aI G 40 (nF jd)) := by rw [hF_339 11 (by omega)]; exact f_11
        have hm_352 : M_334 12 = some (cEnds ad 12 s0) := by rw [hF_339 12 (by omega)]; exact f_12
        have hm_353 : M_334 13 = some (aI G 6 (nF r0)) := by rw [hF_339 13 (by omega)]; exact f_13
        have hm_354 : M_334 14 = some (aI G 6 (oF th)) := by rw [hF_339 14 (by omega)]; exact f_14
        have hm_355 : M_334 15 = some (aI G 6 (oF ol)) := by rw [hF_339 15 (by omega)]; exact f_15
        have hm_356 : M_334 19 = some (aZ G 120 (bF mm9)) := by rw [hF_339 19 (by omega)]; exact f_19
        have hm_357 : M_334 20 = some (aI G 120 ff) := by rw [hF_339 20 (by omega)]; exact f_20
        have hm_358 : M_334 21 = some (aI G 120 lq) := by rw [hF_339 21 (by omega)]; exact f_21
        have hm_359 : M_334 22 = some (cReader ad ra rb rt rv) := by rw [hF_339 22 (by omega)]; exact f_22
        have hm_360 : M_334 23 = some (cMatcher ad qm pz) := by rw [hF_339 23 (by omega)]; exact f_23
        have hm_361 : M_334 24 = some (aJ G 2160 sx) := by rw [hF_339 24 (by omega)]; exact f_24
        have hm_362 : M_334 25 = some (aI G 6 (nF ft)) := by rw [hF_339 25 (by omega)]; exact f_25
        have hm_363 : M_334 26 = some (aJ G 240 rx) := by rw [hF_339 26 (by omega)]; exact f_26
        have hm_364 : M_334 27 = some (aJ G 3 dm) := by rw [hF_339 27 (by omega)]; exact f_27
        have hm_365 : M_334 28 = some (aI G 3 rc) := by rw [hF_339 28 (by omega)]; exact f_28
        have hm_366 : M_334 qa = some (cQuestion ad qa ao vr) := by rw [hF_339 qa (by omega)]; exact f_qa
        have hm_367 : M_334 (qa + 1) = some (aI G 6 (nF kn)) := by rw [hF_339 (qa + 1) (by omega)]; exact f_qa_1
        have hm_368 : M_334 (qa + 2) = some (aZ G 6 (bF nq)) := by rw [hF_339 (qa + 2) (by omega)]; exact f_qa_2
        have hm_369 : M_334 (qa + 3) = some (aI G 6 (nF pn)) := by rw [hF_339 (qa + 3) (by omega)]; exact f_qa_3
        have hm_370 : M_334 (qa + 4) = some (aI G 6 (nF av)) := by rw [hF_339 (qa + 4) (by omega)]; exact f_qa_4
        have hm_371 : M_334 (qa + 5) = some (aI G 24 (nF ro)) := by rw [hF_339 (qa + 5) (by omega)]; exact f_qa_5
        have hm_372 : M_334 (qa + 6) = some (aI G 24 (nF te)) := by rw [hF_339 (qa + 6) (by omega)]; exact f_qa_6
        have hm_373 : M_334 qs = some (cQuestion ad qs sq su) := by rw [hF_339 qs (by omega)]; exact f_qs
        have hm_374 : M_334 (qs + 1) = some (aI G 6 (nF kb)) := by rw [hF_339 (qs + 1) (by omega)]; exact f_qs_1
        have hm_375 : M_334 (qs + 2) = some (aZ G 6 (bF nb)) := by rw [hF_339 (qs + 2) (by omega)]; exact f_qs_2
        have hm_376 : M_334 (qs + 3) = some (aI G 6 (nF pb)) := by rw [hF_339 (qs + 3) (by omega)]; exact f_qs_3
        have hm_377 : M_334 (qs + 4) = some (aI G 6 (nF ab)) := by rw [hF_339 (qs + 4) (by omega)]; exact f_qs_4
        have hm_378 : M_334 (qs + 5) = some (aI G 24 (nF rbb)) := by rw [hF_339 (qs + 5) (by omega)]; exact f_qs_5
        have hm_379 : M_334 (qs + 6) = some (aI G 24 (nF tbb)) := by rw [hF_339 (qs + 6) (by omega)]; exact f_qs_6
        have hm_380 : M_334 60 = some (cModel ad tw n jn ao vr sn len pt zs bg fw) := by rw [hF_339 60 (by omega)]; exact f_60
        have hm_381 : M_334 61 = some (aI G 36 (nF le)) := by rw [hF_339 61 (by omega)]; exact f_61
        have hm_382 : M_334 62 = some (aI G 36 (nF mo)) := by rw [hF_339 62 (by omega)]; exact f_62
        have hm_383 : M_334 63 = some (aI G 36 (nF al)) := by rw [hF_339 63 (by omega)]; exact f_63
        have hm_384 : M_334 64 = some (aZ G 6 (bF ho)) := by rw [hF_339 64 (by omega)]; exact f_64
        have hm_385 : M_334 65 = some (aI G 120 (nF mk)) := by rw [hF_339 65 (by omega)]; exact f_65
        have hm_386 : M_334 66 = some (aI G 120 mf) := by rw [hF_339 66 (by omega)]; exact f_66
        have hm_387 : M_334 67 = some (aI G 120 mu) := by rw [hF_339 67 (by omega)]; exact f_67
        have hm_388 : M_334 68 = some (aI G 121 (nF mz)) := by rw [hF_339 68 (by omega)]; exact f_68
        have hm_389 : M_334 69 = some (aI G 726 (nF rr)) := by rw [hF_339 69 (by omega)]; exact f_69
        have hm_390 : M_334 70 = some (aI G 726 (nF ee)) := by rw [hF_339 70 (by omega)]; exact f_70
        have hm_391 : M_334 71 = some (aI G 40 (nF lst)) := by rw [hF_339 71 (by omega)]; exact f_71
        have hm_392 : M_334 72 = some (aI G 40 (nF oa)) := by rw [hF_339 72 (by omega)]; exact f_72
        have hm_393 : M_334 73 = some (aI G 40 (nF ob)) := by rw [hF_339 73 (by omega)]; exact f_73
        have hm_394 : M_334 74 = some (aI G 120 s74) := by rw [hF_339 74 (by omega)]; exact f_74
        have hm_395 : M_334 75 = some (aI G 12 ak) := by rw [hF_339 75 (by omega)]; exact f_75
        have hm_396 : M_334 76 = some (aZ G 12 (bF nm)) := by rw [hF_339 76 (by omega)]; exact f_76
        have hm_397 : M_334 77 = some (aI G 12 (nF ap)) := by rw [hF_339 77 (by omega)]; exact f_77
        have hm_398 : M_334 78 = some (aI G 48 pr) := by rw [hF_339 78 (by omega)]; exact f_78
        have hm_399 : M_334 79 = some (aI G 48 pf) := by rw [hF_339 79 (by omega)]; exact f_79
        have hm_400 : M_334 80 = some (aB G 400 tf) := by rw [hF_339 80 (by omega)]; exact f_80
        have hm_401 : M_334 81 = some (aI G 5 fv) := by rw [hF_339 81 (by omega)]; exact f_81
        have hm_402 : M_334 82 = some (aZ G 384000 (bF tr)) := by rw [hF_339 82 (by omega)]; exact f_82
        have hm_403 : M_334 83 = some (aI G 3 (oF gv)) := by rw [hF_339 83 (by omega)]; exact f_83
        have hm_404 : M_334 84 = some (aI G 3 fo) := by rw [hF_339 84 (by omega)]; exact f_84
        have hm_405 : M_334 85 = some (aZ G 40 (bF re)) := by rw [hF_339 85 (by omega)]; exact f_85
        have hm_406 : M_334 86 = some (aZ G 120 (bF us)) := by rw [hF_339 86 (by omega)]; exact f_86
        have hm_407 : M_334 87 = some (aZ G 120 (bF nx)) := by rw [hF_339 87 (by omega)]; exact f_87
        have hm_408 : M_334 16 = some (cLines ad ) := by rw [hF_339 16 (by omega)]; exact h16
        have hL_409 : LSm G ad M_334 n kd fm to sz rl en := fL.keep (fun j hj => hF_339 j (by omega))
        have hF_410 : ∀ j : Nat, j ≠ 99 → M_334 j = M j := fun j q0 => (hF_339 j q0)
        rw [hr_337]
        refine lv_istore (lv' := [(5, .int (nI 0)), (0, .ref b), (1, .ref (ad 0)), (2, .ref (ad 60)), (3, .ref (ad 99)), (4, .int (nI i))]) hx hb dL_law_862 hl (by decide) rfl (fun ls hl => ?_)
        refine lv_aload_n hx hb dL_law_864 rfl (lv_at hl 3 rfl) ?_
        refine lv_aload_n hx hb dL_law_865 rfl (lv_at hl 1 rfl) ?_
        refine lv_iload hx hb dL_law_866 (lv_at hl 5 rfl) ?_
        refine lv_iconst (v := nI 1) hx hb dL_law_868 (by decide) ?_
        refine lv_iadd hx hb dL_law_869 ?_
        refine n_eq (nI_add i 1) ?_
        refine va_sld (A := fr z) hx hb hX hbl hbz hI.S (vp_in_nI (n := i + 1) (by omega) (by omega)) dL_law_870 ?_
        rw [nI_clamp (by omega)]
        refine n_eq (show _ = nI t1 from et1) ?_
        refine lv_aload_n hx hb dL_law_871 rfl (lv_at hl 1 rfl) ?_
        refine lv_iload hx hb dL_law_872 (lv_at hl 5 rfl) ?_
        refine lv_iconst (v := nI 2) hx hb dL_law_874 (by decide) ?_
        refine lv_iadd hx hb dL_law_875 ?_
        refine n_eq (nI_add i 2) ?_
        refine va_sld (A := fr z) hx hb hX hbl hbz hI.S (vp_in_nI (n := i + 2) (by omega) (by omega)) dL_law_876 ?_
        rw [nI_clamp (by omega)]
        refine n_eq (show _ = nI 0 from et2.trans (congrArg nI hc_327)) ?_
        refine k_Ni (va_runV (As := [.int (nI t1), .int (nI 0)]) (rest := []) ⟨hx, hb, hml, hown, hts⟩ (c_X10_look_0 l G z ad M_334 (th := tw) (on := jn) (ao := ao) (vr := vr) (sn := sn) (tp := len) (pt := pt) (zs := zs) (bg := bg) (fa := fw) (n := n) (kd := kd) (fm := fm) (to := to) (sz := sz) (rl := rl) (en := en) (mk := mk) (mf := mf) (mu := mu) (mz := mz) (rr := rr) (ee := ee) (q := t1) hm_380 hm_385 hm_386 hm_387 hm_388 w1 w2 ht1) (cwV 2 hts (gV (lwg_of t_1193 rfl) (lwg_of t_1194 rfl) (lwg_of t_1195 rfl) (lwg_of t_13 rfl) (lwg_of t_1196 rfl)) rfl rfl rfl (by decide +kernel) ⟨Nat.le_of_ble_eq_true rfl, Nat.le_of_ble_eq_true rfl⟩) (hI.preV hm_380 rfl) rfl rfl hl.1 rfl (lv_room (Nat.le_of_ble_eq_true rfl)) dL_law_877 ⟨(show _ ≤ (601024 : Nat) from by omega), (show _ ≤ (7293034 : Nat) from by omega)⟩) hI (fun r_411 M_413 H_414 locs_415 hp_412 hI => ?_)
        obtain ⟨hr_416, hm_417, hF_418⟩ := hp_412
        have hm_419 : M_413 0 = some (cStore ad qa qs fw) := by rw [hF_418 0 (by omega)]; exact hm_340
        have hm_420 : M_413 1 = some (cTape ad len) := by rw [hF_418 1 (by omega)]; exact hm_341
        have hm_421 : M_413 2 = some (aI G 400 (nF tb)) := by rw [hF_418 2 (by omega)]; exact hm_342
        have hm_422 : M_413 3 = some (cLaws ad ) := by rw [hF_418 3 (by omega)]; exact hm_343
        have hm_423 : M_413 4 = some (aI G 36 (nF le)) := by rw [hF_418 4 (by omega)]; exact hm_344
        have hm_424 : M_413 5 = some (aI G 36 (nF mo)) := by rw [hF_418 5 (by omega)]; exact hm_345
        have hm_425 : M_413 6 = some (aI G 36 (nF al)) := by rw [hF_418 6 (by omega)]; exact hm_346
        have hm_426 : M_413 7 = some (aZ G 6 (bF ho)) := by rw [hF_418 7 (by omega)]; exact hm_347
        have hm_427 : M_413 8 = some (cOnes ad jn) := by rw [hF_418 8 (by omega)]; exact hm_348
        have hm_428 : M_413 9 = some (aI G 40 (nF hg)) := by rw [hF_418 9 (by omega)]; exact hm_349
        have hm_429 : M_413 10 = some (aI G 40 (nF lst)) := by rw [hF_418 10 (by omega)]; exact hm_350
        have hm_430 : M_413 11 = some (aI G 40 (nF jd)) := by rw [hF_418 11 (by omega)]; exact hm_351
        have hm_431 : M_413 12 = some (cEnds ad 12 s0) := by rw [hF_418 12 (by omega)]; exact hm_352
        have hm_432 : M_413 13 = some (aI G 6 (nF r0)) := by rw [hF_418 13 (by omega)]; exact hm_353
        have hm_433 : M_413 14 = some (aI G 6 (oF th)) := by rw [hF_418 14 (by omega)]; exact hm_354
        have hm_434 : M_413 15 = some (aI G 6 (oF ol)) := by rw [hF_418 15 (by omega)]; exact hm_355
        have hm_435 : M_413 19 = some (aZ G 120 (bF mm9)) := by rw [hF_418 19 (by omega)]; exact hm_356
        have hm_436 : M_413 20 = some (aI G 120 ff) := by rw [hF_418 20 (by omega)]; exact hm_357
        have hm_437 : M_413 21 = some (aI G 120 lq) := by rw [hF_418 21 (by omega)]; exact hm_358
        have hm_438 : M_413 22 = some (cReader ad ra rb rt rv) := by rw [hF_418 22 (by omega)]; exact hm_359
        have hm_439 : M_413 23 = some (cMatcher ad qm pz) := by rw [hF_418 23 (by omega)]; exact hm_360
        have hm_440 : M_413 24 = some (aJ G 2160 sx) := by rw [hF_418 24 (by omega)]; exact hm_361
        have hm_441 : M_413 25 = some (aI G 6 (nF ft)) := by rw [hF_418 25 (by omega)]; exact hm_362
        have hm_442 : M_413 26 = some (aJ G 240 rx) := by rw [hF_418 26 (by omega)]; exact hm_363
        have hm_443 : M_413 27 = some (aJ G 3 dm) := by rw [hF_418 27 (by omega)]; exact hm_364
        have hm_444 : M_413 28 = some (aI G 3 rc) := by rw [hF_418 28 (by omega)]; exact hm_365
        have hm_445 : M_413 qa = some (cQuestion ad qa ao vr) := by rw [hF_418 qa (by omega)]; exact hm_366
        have hm_446 : M_413 (qa + 1) = some (aI G 6 (nF kn)) := by rw [hF_418 (qa + 1) (by omega)]; exact hm_367
        have hm_447 : M_413 (qa + 2) = some (aZ G 6 (bF nq)) := by rw [hF_418 (qa + 2) (by omega)]; exact hm_368
        have hm_448 : M_413 (qa + 3) = some (aI G 6 (nF pn)) := by rw [hF_418 (qa + 3) (by omega)]; exact hm_369
        have hm_449 : M_413 (qa + 4) = some (aI G 6 (nF av)) := by rw [hF_418 (qa + 4) (by omega)]; exact hm_370
        have hm_450 : M_413 (qa + 5) = some (aI G 24 (nF ro)) := by rw [hF_418 (qa + 5) (by omega)]; exact hm_371
        have hm_451 : M_413 (qa + 6) = some (aI G 24 (nF te)) := by rw [hF_418 (qa + 6) (by omega)]; exact hm_372
        have hm_452 : M_413 qs = some (cQuestion ad qs sq su) := by rw [hF_418 qs (by omega)]; exact hm_373
        have hm_453 : M_413 (qs + 1) = some (aI G 6 (nF kb)) := by rw [hF_418 (qs + 1) (by omega)]; exact hm_374
        have hm_454 : M_413 (qs + 2) = some (aZ G 6 (bF nb)) := by rw [hF_418 (qs + 2) (by omega)]; exact hm_375
        have hm_455 : M_413 (qs + 3) = some (aI G 6 (nF pb)) := by rw [hF_418 (qs + 3) (by omega)]; exact hm_376
        have hm_456 : M_413 (qs + 4) = some (aI G 6 (nF ab)) := by rw [hF_418 (qs + 4) (by omega)]; exact hm_377
        have hm_457 : M_413 (qs + 5) = some (aI G 24 (nF rbb)) := by rw [hF_418 (qs + 5) (by omega)]; exact hm_378
        have hm_458 : M_413 (qs + 6) = some (aI G 24 (nF tbb)) := by rw [hF_418 (qs + 6) (by omega)]; exact hm_379
        have hm_459 : M_413 61 = some (aI G 36 (nF le)) := by rw [hF_418 61 (by omega)]; exact hm_381
        have hm_460 : M_413 62 = some (aI G 36 (nF mo)) := by rw [hF_418 62 (by omega)]; exact hm_382
        have hm_461 : M_413 63 = some (aI G 36 (nF al)) := by rw [hF_418 63 (by omega)]; exact hm_383
        have hm_462 : M_413 64 = some (aZ G 6 (bF ho)) := by rw [hF_418 64 (by omega)]; exact hm_384
        have hm_463 : M_413 65 = some (aI G 120 (nF mk)) := by rw [hF_418 65 (by omega)]; exact hm_385
        have hm_464 : M_413 66 = some (aI G 120 mf) := by rw [hF_418 66 (by omega)]; exact hm_386
        have hm_465 : M_413 67 = some (aI G 120 mu) := by rw [hF_418 67 (by omega)]; exact hm_387
        have hm_466 : M_413 68 = some (aI G 121 (nF mz)) := by rw [hF_418 68 (by omega)]; exact hm_388
        have hm_467 : M_413 69 = some (aI G 726 (nF rr)) := by rw [hF_418 69 (by omega)]; exact hm_389
        have hm_468 : M_413 70 = some (aI G 726 (nF ee)) := by rw [hF_418 70 (by omega)]; exact hm_390
        have hm_469 : M_413 71 = some (aI G 40 (nF lst)) := by rw [hF_418 71 (by omega)]; exact hm_391
        have hm_470 : M_413 72 = some (aI G 40 (nF oa)) := by rw [hF_418 72 (by omega)]; exact hm_392
        have hm_471 : M_413 73 = some (aI G 40 (nF ob)) := by rw [hF_418 73 (by omega)]; exact hm_393
        have hm_472 : M_413 74 = some (aI G 120 s74) := by rw [hF_418 74 (by omega)]; exact hm_394
        have hm_473 : M_413 75 = some (aI G 12 ak) := by rw [hF_418 75 (by omega)]; exact hm_395
        have hm_474 : M_413 76 = some (aZ G 12 (bF nm)) := by rw [hF_418 76 (by omega)]; exact hm_396
        have hm_475 : M_413 77 = some (aI G 12 (nF ap)) := by rw [hF_418 77 (by omega)]; exact hm_397
        have hm_476 : M_413 78 = some (aI G 48 pr) := by rw [hF_418 78 (by omega)]; exact hm_398
        have hm_477 : M_413 79 = some (aI G 48 pf) := by rw [hF_418 79 (by omega)]; exact hm_399
        have hm_478 : M_413 80 = some (aB G 400 tf) := by rw [hF_418 80 (by omega)]; exact hm_400
        have hm_479 : M_413 81 = some (aI G 5 fv) := by rw [hF_418 81 (by omega)]; exact hm_401
        have hm_480 : M_413 82 = some (aZ G 384000 (bF tr)) := by rw [hF_418 82 (by omega)]; exact hm_402
        have hm_481 : M_413 83 = some (aI G 3 (oF gv)) := by rw [hF_418 83 (by omega)]; exact hm_403
        have hm_482 : M_413 84 = some (aI G 3 fo) := by rw [hF_418 84 (by omega)]; exact hm_404
        have hm_483 : M_413 85 = some (aZ G 40 (bF re)) := by rw [hF_418 85 (by omega)]; exact hm_405
        have hm_484 : M_413 86 = some (aZ G 120 (bF us)) := by rw [hF_418 86 (by omega)]; exact hm_406
        have hm_485 : M_413 87 = some (aZ G 120 (bF nx)) := by rw [hF_418 87 (by omega)]; exact hm_407
        have hm_486 : M_413 99 = some (aJ G 1 (vp_updL of 0 ((nI (kd t1)).toInt64))) := by rw [hF_418 99 (by omega)]; exact hm_338
        have hm_487 : M_413 16 = some (cLines ad ) := by rw [hF_418 16 (by omega)]; exact hm_408
        have hL_488 : LSm G ad M_413 n kd fm to sz rl en := hL_409.keep (fun j hj => hF_418 j (by omega))
        have hF_489 : ∀ j : Nat, j ≠ 99 → j ≠ 60 → M_413 j = M j := fun j q0 q1 => (hF_418 j q1).trans (hF_410 j q0)
        rw [hr_416]
        refine lv_istore (lv' := [(6, .int (nI (kd t1))), (5, .int (nI 0)), (0, .ref b), (1, .ref (ad 0)), (2, .ref (ad 60)), (3, .ref (ad 99)), (4, .int (nI i))]) hx hb dL_law_880 hl (by decide) rfl (fun ls hl => ?_)
        refine lv_aload_n hx hb dL_law_882 rfl (lv_at hl 4 rfl) ?_
        refine k_Ri (va_runV (As := []) (rest := []) ⟨hx, hb, hml, hown, hts⟩ (c_X10_thrown l G z ad M_413 (th := 0) (ln := n) (on := jn) (ao := ao) (vr := vr) (sn := sn) (tp := len) (pt := pt) (zs := zs) (bg := bg) (fa := fw) hm_417) (cwV 0 hts (gV (lwg_of t_997 rfl) (lwg_of t_998 rfl) (lwg_of t_999 rfl) (lwg_of t_13 rfl) (lwg_of t_1000 rfl)) rfl rfl rfl (by decide +kernel) ⟨Nat.le_of_ble_eq_true rfl, Nat.le_of_ble_eq_true rfl⟩) (hI.preV hm_417 rfl) rfl rfl hl.1 rfl (lv_room (Nat.le_of_ble_eq_true rfl)) dL_law_883 ⟨(show _ ≤ (601024 : Nat) from by omega), (show _ ≤ (7293034 : Nat) from by omega)⟩) (fun _ h => h) (fun r_490 hp_491 => ?_)
        rw [hp_491]
        refine lv_iload hx hb dL_law_886 (lv_at hl 1 rfl) ?_
        refine lv_icmp_eq (tgt := 893) hx hb dL_law_888 (by decide) (fun c_492 => ?_) (fun c_492 => ?_)
        · -- 888: nI 0 eq
          refine lv_iload hx hb dL_law_893 (lv_at hl 1 rfl) ?_
          refine lv_if_ne (tgt := 910) hx hb dL_law_895 (by decide) (fun c_493 => ?_) (fun c_493 => ?_)
          · -- 895: nI 0 ne
            exact absurd (by decide) c_493
          · -- 895: nI 0 eq
            refine lv_aload_n hx hb dL_law_898 rfl (lv_at hl 5 rfl) ?_
            refine lv_iconst (v := nI 0) hx hb dL_law_899 (by decide) ?_
            refine h_lald (i := 0) hx hb hI hm_486 (by omega) (by decide) dL_law_900 ?_
            refine n_eql (show _ = (nI (kd t1)).toInt64 from updL_0) ?_
            refine lv_iload hx hb dL_law_901 (lv_at hl 0 rfl) ?_
            refine lv_i2l (v := (nI (kd t1)).toInt64) hx hb dL_law_903 rfl ?_
            refine W.lcmp hx hb dL_law_904 ?_
            refine lv_if_eq (tgt := 910) hx hb dL_law_905 (by decide) (fun c_494 => ?_) (fun c_494 => ?_)
            · -- 905: lg_cmp ((nI (kd t1)).toInt64) ((nI (kd t1)).toInt64) eq
              have c_494 : (nI (kd t1)).toInt64 = (nI (kd t1)).toInt64 := (lg_cmp_eq _ _).mp c_494
              refine lv_goto (tgt := 1333) hx hb dL_law_910 (by decide) ?_
              refine W.widen (k := cz + 10) (n := sy + 300) (by omega) (by omega) ?_
              exact kk ad M_413 H_414 locs_415 ls n kd fm to sz rl en qa qs fw len tb le mo al ho jn hg lst jd s0 r0 th ol e0 mm9 ff lq ra rb rt rv qm pz sx ft rx dm rc ao vr kn nq pn av ro te sq su kb nb pb ab rbb tbb 0 sn pt zs bg mk mf mu mz rr ee oa ob s74 ak nm ap pr pf tf fv tr gv fo re us nx (vp_updL of 0 ((nI (kd t1)).toInt64)) hL_488 w1 w2 w3 w4 w5 w6 w7 w8 w9 w10 w11 w12 w13 w14 w15 w16 w17 w18 w19 w20 w21 w22 w23 w24 w25 w26 w27 w28 w29 (fun h9 => by rw [hF_489 17 (by omega) (by omega), hF_489 18 (by omega) (by omega)]; exact w30 h9) (by rw [hF_489 29 (by omega) (by omega)]; exact w31) (fun j9 h9 => by rw [hF_489 j9 (by omega) (by omega)]; exact w32 j9 h9) hm_419 hm_420 hm_421 hm_422 hm_423 hm_424 hm_425 hm_426 hm_427 hm_428 hm_429 hm_430 hm_431 hm_432 hm_433 hm_434 hm_435 hm_436 hm_437 hm_438 hm_439 hm_440 hm_441 hm_442 hm_443 hm_444 hm_445 hm_446 hm_447 hm_448 hm_449 hm_450 hm_451 hm_452 hm_453 hm_454 hm_455 hm_456 hm_457 hm_458 hm_417 hm_459 hm_460 hm_461 hm_462 hm_463 hm_464 hm_465 hm_466 hm_467 hm_468 hm_469 hm_470 hm_471 hm_472 hm_473 hm_474 hm_475 hm_476 hm_477 hm_478 hm_479 hm_480 hm_481 hm_482 hm_483 hm_484 hm_485 hm_486 hI (lv_sub hl [2, 3, 4, 5, 6] rfl)
            · -- 905: lg_cmp ((nI (kd t1)).toInt64) ((nI (kd t1)).toInt64) ne
              have c_494 : (nI (kd t1)).toInt64 ≠ (nI (kd t1)).toInt64 := (fun h => c_494 ((lg_cmp_eq _ _).mpr h))
              exact absurd rfl c_494
        · -- 888: nI 0 ne
          exact absurd (by decide) c_492
      · skip
        refine lv_iload hx hb dL_law_847 (lv_at hl 4 rfl) ?_
        refine lv_iconst (v := nI 1) hx hb dL_law_849 (by decide) ?_
        refine lv_iadd hx hb dL_law_850 ?_
        refine n_eq (nI_add i 1) ?_
        refine va_sld (A := fr z) hx hb hX hbl hbz hI.S (vp_in_nI (n := i + 1) (by omega) (by omega)) dL_law_851 ?_
        rw [nI_clamp (by omega)]
        refine n_eq (show _ = nI t1 from et1) ?_
        refine lv_aload_n hx hb dL_law_852 rfl (lv_at hl 0 rfl) ?_
        refine lv_iload hx hb dL_law_853 (lv_at hl 4 rfl) ?_
        refine lv_iconst (v := nI 2) hx hb dL_law_855 (by decide) ?_
        refine lv_iadd hx hb dL_law_856 ?_
        refine n_eq (nI_add i 2) ?_
        refine va_sld (A := fr z) hx hb hX hbl hbz hI.S (vp_in_nI (n := i + 2) (by omega) (by omega)) dL_law_857 ?_
        rw [nI_clamp (by omega)]
        refine n_eq (show _ = nI 1 from et2.trans (congrArg nI hc_328)) ?_
        refine lv_aload_n hx hb dL_law_858 rfl (lv_at hl 3 rfl) ?_
        refine k_Ni (vx_runSW (As := [.ref (ad 0), .int (nI t1), .int (nI 1), .ref (ad 99)]) (rest := []) ⟨hx, hb, hml, hown, hts⟩ (c_L_look_1 l hst G z ad M (n := n) (kd := kd) (fm := fm) (to := to) (sz := sz) (rl := rl) (en := en) (qa := qa) (qs := qs) (fw := fw) (q := t1) (of := of) fL f_0 f_99 w1 ht1) (vx_cwSW 4 hts (gSW (lwg_of t_855 rfl) (lwg_of t_856 rfl) (lwg_of t_0 rfl) (lwg_of t_857 rfl)) rfl rfl rfl (by decide +kernel) ⟨Nat.le_of_ble_eq_true rfl, Nat.le_of_ble_eq_true rfl⟩) hI.preS rfl rfl hl.1 rfl (lv_room (Nat.le_of_ble_eq_true rfl)) dL_law_859 ⟨(show _ ≤ (601024 : Nat) from by omega), (show _ ≤ (7293034 : Nat) from by omega)⟩) hI (fun r_495 M_497 H_498 locs_499 hp_496 hI => ?_)
        obtain ⟨hr_500, hm_501, hF_502⟩ := hp_496
        have hm_503 : M_497 0 = some (cStore ad qa qs fw) := by rw [hF_502 0 (by omega)]; exact f_0
        have hm_504 : M_497 1 = some (cTape ad len) := by rw [hF_502 1 (by omega)]; exact f_1
        have hm_505 : M_497 2 = some (aI G 400 (nF tb)) := by rw [hF_502 2 (by omega)]; exact f_2
        have hm_506 : M_497 3 = some (cLaws ad ) := by rw [hF_502 3 (by omega)]; exact f_3
        have hm_507 : M_497 4 = some (aI G 36 (nF le)) := by rw [hF_502 4 (by omega)]; exact f_4
        have hm_508 : M_497 5 = some (aI G 36 (nF mo)) := by rw [hF_502 5 (by omega)]; exact f_5
        have hm_509 : M_497 6 = some (aI G 36 (nF al)) := by rw [hF_502 6 (by omega)]; exact f_6
        have hm_510 : M_497 7 = some (aZ G 6 (bF ho)) := by rw [hF_502 7 (by omega)]; exact f_7
        have hm_511 : M_497 8 = some (cOnes ad jn) := by rw [hF_502 8 (by omega)]; exact f_8
        have hm_512 : M_497 9 = some (aI G 40 (nF hg)) := by rw [hF_502 9 (by omega)]; exact f_9
        have hm_513 : M_497 10 = some (aI G 40 (nF lst)) := by rw [hF_502 10 (by omega)]; exact f_10
        have hm_514 : M_497 11 = some (aI G 40 (nF jd)) := by rw [hF_502 11 (by omega)]; exact f_11
        have hm_515 : M_497 12 = some (cEnds ad 12 s0) := by rw [hF_502 12 (by omega)]; exact f_12
        have hm_516 : M_497 13 = some (aI G 6 (nF r0)) := by rw [hF_502 13 (by omega)]; exact f_13
        have hm_517 : M_497 14 = some (aI G 6 (oF th)) := by rw [hF_502 14 (by omega)]; exact f_14
        have hm_518 : M_497 15 = some (aI G 6 (oF ol)) := by rw [hF_502 15 (by omega)]; exact f_15
        have hm_519 : M_497 19 = some (aZ G 120 (bF mm9)) := by rw [hF_502 19 (by omega)]; exact f_19
        have hm_520 : M_497 20 = some (aI G 120 ff) := by rw [hF_502 20 (by omega)]; exact f_20
        have hm_521 : M_497 21 = some (aI G 120 lq) := by rw [hF_502 21 (by omega)]; exact f_21
        have hm_522 : M_497 22 = some (cReader ad ra rb rt rv) := by rw [hF_502 22 (by omega)]; exact f_22
        have hm_523 : M_497 23 = some (cMatcher ad qm pz) := by rw [hF_502 23 (by omega)]; exact f_23
        have hm_524 : M_497 24 = some (aJ G 2160 sx) := by rw [hF_502 24 (by omega)]; exact f_24
        have hm_525 : M_497 25 = some (aI G 6 (nF ft)) := by rw [hF_502 25 (by omega)]; exact f_25
        have hm_526 : M_497 26 = some (aJ G 240 rx) := by rw [hF_502 26 (by omega)]; exact f_26
        have hm_527 : M_497 27 = some (aJ G 3 dm) := by rw [hF_502 27 (by omega)]; exact f_27
        have hm_528 : M_497 28 = some (aI G 3 rc) := by rw [hF_502 28 (by omega)]; exact f_28
        have hm_529 : M_497 qa = some (cQuestion ad qa ao vr) := by rw [hF_502 qa (by omega)]; exact f_qa
        have hm_530 : M_497 (qa + 1) = some (aI G 6 (nF kn)) := by rw [hF_502 (qa + 1) (by omega)]; exact f_qa_1
        have hm_531 : M_497 (qa + 2) = some (aZ G 6 (bF nq)) := by rw [hF_502 (qa + 2) (by omega)]; exact f_qa_2
        have hm_532 : M_497 (qa + 3) = some (aI G 6 (nF pn)) := by rw [hF_502 (qa + 3) (by omega)]; exact f_qa_3
        have hm_533 : M_497 (qa + 4) = some (aI G 6 (nF av)) := by rw [hF_502 (qa + 4) (by omega)]; exact f_qa_4
        have hm_534 : M_497 (qa + 5) = some (aI G 24 (nF ro)) := by rw [hF_502 (qa + 5) (by omega)]; exact f_qa_5
        have hm_535 : M_497 (qa + 6) = some (aI G 24 (nF te)) := by rw [hF_502 (qa + 6) (by omega)]; exact f_qa_6
        have hm_536 : M_497 qs = some (cQuestion ad qs sq su) := by rw [hF_502 qs (by omega)]; exact f_qs
        have hm_537 : M_497 (qs + 1) = some (aI G 6 (nF kb)) := by rw [hF_502 (qs + 1) (by omega)]; exact f_qs_1
        have hm_538 : M_497 (qs + 2) = some (aZ G 6 (bF nb)) := by rw [hF_502 (qs + 2) (by omega)]; exact f_qs_2
        have hm_539 : M_497 (qs + 3) = some (aI G 6 (nF pb)) := by rw [hF_502 (qs + 3) (by omega)]; exact f_qs_3
        have hm_540 : M_497 (qs + 4) = some (aI G 6 (nF ab)) := by rw [hF_502 (qs + 4) (by omega)]; exact f_qs_4
        have hm_541 : M_497 (qs + 5) = some (aI G 24 (nF rbb)) := by rw [hF_502 (qs + 5) (by omega)]; exact f_qs_5
        have hm_542 : M_497 (qs + 6) = some (aI G 24 (nF tbb)) := by rw [hF_502 (qs + 6) (by omega)]; exact f_qs_6
        have hm_543 : M_497 60 = some (cModel ad tw n jn ao vr sn len pt zs bg fw) := by rw [hF_502 60 (by omega)]; exact f_60
        have hm_544 : M_497 61 = some (aI G 36 (nF le)) := by rw [hF_502 61 (by omega)]; exact f_61
        have hm_545 : M_497 62 = some (aI G 36 (nF mo)) := by rw [hF_502 62 (by omega)]; exact f_62
        have hm_546 : M_497 63 = some (aI G 36 (nF al)) := by rw [hF_502 63 (by omega)]; exact f_63
        have hm_547 : M_497 64 = some (aZ G 6 (bF ho)) := by rw [hF_502 64 (by omega)]; exact f_64
        have hm_548 : M_497 65 = some (aI G 120 (nF mk)) := by rw [hF_502 65 (by omega)]; exact f_65
        have hm_549 : M_497 66 = some (aI G 120 mf) := by rw [hF_502 66 (by omega)]; exact f_66
        have hm_550 : M_497 67 = some (aI G 120 mu) := by rw [hF_502 67 (by omega)]; exact f_67
        have hm_551 : M_497 68 = some (aI G 121 (nF mz)) := by rw [hF_502 68 (by omega)]; exact f_68
        have hm_552 : M_497 69 = some (aI G 726 (nF rr)) := by rw [hF_502 69 (by omega)]; exact f_69
        have hm_553 : M_497 70 = some (aI G 726 (nF ee)) := by rw [hF_502 70 (by omega)]; exact f_70
        have hm_554 : M_497 71 = some (aI G 40 (nF lst)) := by rw [hF_502 71 (by omega)]; exact f_71
        have hm_555 : M_497 72 = some (aI G 40 (nF oa)) := by rw [hF_502 72 (by omega)]; exact f_72
        have hm_556 : M_497 73 = some (aI G 40 (nF ob)) := by rw [hF_502 73 (by omega)]; exact f_73
        have hm_557 : M_497 74 = some (aI G 120 s74) := by rw [hF_502 74 (by omega)]; exact f_74
        have hm_558 : M_497 75 = some (aI G 12 ak) := by rw [hF_502 75 (by omega)]; exact f_75
        have hm_559 : M_497 76 = some (aZ G 12 (bF nm)) := by rw [hF_502 76 (by omega)]; exact f_76
        have hm_560 : M_497 77 = some (aI G 12 (nF ap)) := by rw [hF_502 77 (by omega)]; exact f_77
        have hm_561 : M_497 78 = some (aI G 48 pr) := by rw [hF_502 78 (by omega)]; exact f_78
        have hm_562 : M_497 79 = some (aI G 48 pf) := by rw [hF_502 79 (by omega)]; exact f_79
        have hm_563 : M_497 80 = some (aB G 400 tf) := by rw [hF_502 80 (by omega)]; exact f_80
        have hm_564 : M_497 81 = some (aI G 5 fv) := by rw [hF_502 81 (by omega)]; exact f_81
        have hm_565 : M_497 82 = some (aZ G 384000 (bF tr)) := by rw [hF_502 82 (by omega)]; exact f_82
        have hm_566 : M_497 83 = some (aI G 3 (oF gv)) := by rw [hF_502 83 (by omega)]; exact f_83
        have hm_567 : M_497 84 = some (aI G 3 fo) := by rw [hF_502 84 (by omega)]; exact f_84
        have hm_568 : M_497 85 = some (aZ G 40 (bF re)) := by rw [hF_502 85 (by omega)]; exact f_85
        have hm_569 : M_497 86 = some (aZ G 120 (bF us)) := by rw [hF_502 86 (by omega)]; exact f_86
        have hm_570 : M_497 87 = some (aZ G 120 (bF nx)) := by rw [hF_502 87 (by omega)]; exact f_87
        have hm_571 : M_497 16 = some (cLines ad ) := by rw [hF_502 16 (by omega)]; exact h16
        have hL_572 : LSm G ad M_497 n kd fm to sz rl en := fL.keep (fun j hj => hF_502 j (by omega))
        have hF_573 : ∀ j : Nat, j ≠ 99 → M_497 j = M j := fun j q0 => (hF_502 j q0)
        rw [hr_500]
        refine lv_istore (lv' := [(5, .int (nI 0)), (0, .ref b), (1, .ref (ad 0)), (2, .ref (ad 60)), (3, .ref (ad 99)), (4, .int (nI i))]) hx hb dL_law_862 hl (by decide) rfl (fun ls hl => ?_)
        refine lv_aload_n hx hb dL_law_864 rfl (lv_at hl 3 rfl) ?_
        refine lv_aload_n hx hb dL_law_865 rfl (lv_at hl 1 rfl) ?_
        refine lv_iload hx hb dL_law_866 (lv_at hl 5 rfl) ?_
        refine lv_iconst (v := nI 1) hx hb dL_law_868 (by decide) ?_
        refine lv_iadd hx hb dL_law_869 ?_
        refine n_eq (nI_add i 1) ?_
        refine va_sld (A := fr z) hx hb hX hbl hbz hI.S (vp_in_nI (n := i + 1) (by omega) (by omega)) dL_law_870 ?_
        rw [nI_clamp (by omega)]
        refine n_eq (show _ = nI t1 from et1) ?_
        refine lv_aload_n hx hb dL_law_871 rfl (lv_at hl 1 rfl) ?_
        refine lv_iload hx hb dL_law_872 (lv_at hl 5 rfl) ?_
        refine lv_iconst (v := nI 2) hx hb dL_law_874 (by decide) ?_
        refine lv_iadd hx hb dL_law_875 ?_
        refine n_eq (nI_add i 2) ?_
        refine va_sld (A := fr z) hx hb hX hbl hbz hI.S (vp_in_nI (n := i + 2) (by omega) (by omega)) dL_law_876 ?_
        rw [nI_clamp (by omega)]
        refine n_eq (show _ = nI 1 from et2.trans (congrArg nI hc_328)) ?_
        refine k_Ni (va_runV (As := [.int (nI t1), .int (nI 1)]) (rest := []) ⟨hx, hb, hml, hown, hts⟩ (c_X10_look_1 l G z ad M_497 (th := tw) (on := jn) (ao := ao) (vr := vr) (sn := sn) (tp := len) (pt := pt) (zs := zs) (bg := bg) (fa := fw) (n := n) (kd := kd) (fm := fm) (to := to) (sz := sz) (rl := rl) (en := en) (mk := mk) (mf := mf) (mu := mu) (mz := mz) (rr := rr) (ee := ee) (q := t1) hm_543 hm_548 hm_549 hm_550 hm_551 w1 w2 ht1) (cwV 2 hts (gV (lwg_of t_1193 rfl) (lwg_of t_1194 rfl) (lwg_of t_1195 rfl) (lwg_of t_13 rfl) (lwg_of t_1196 rfl)) rfl rfl rfl (by decide +kernel) ⟨Nat.le_of_ble_eq_true rfl, Nat.le_of_ble_eq_true rfl⟩) (hI.preV hm_543 rfl) rfl rfl hl.1 rfl (lv_room (Nat.le_of_ble_eq_true rfl)) dL_law_877 ⟨(show _ ≤ (601024 : Nat) from by omega), (show _ ≤ (7293034 : Nat) from by omega)⟩) hI (fun r_574 M_576 H_577 locs_578 hp_575 hI => ?_)
        obtain ⟨hr_579, hm_580, hF_581⟩ := hp_575
        have hm_582 : M_576 0 = some (cStore ad qa qs fw) := by rw [hF_581 0 (by omega)]; exact hm_503
        have hm_583 : M_576 1 = some (cTape ad len) := by rw [hF_581 1 (by omega)]; exact hm_504
        have hm_584 : M_576 2 = some (aI G 400 (nF tb)) := by rw [hF_581 2 (by omega)]; exact hm_505
        have hm_585 : M_576 3 = some (cLaws ad ) := by rw [hF_581 3 (by omega)]; exact hm_506
        have hm_586 : M_576 4 = some (aI G 36 (nF le)) := by rw [hF_581 4 (by omega)]; exact hm_507
        have hm_587 : M_576 5 = some (aI G 36 (nF mo)) := by rw [hF_581 5 (by omega)]; exact hm_508
        have hm_588 : M_576 6 = some (aI G 36 (nF al)) := by rw [hF_581 6 (by omega)]; exact hm_509
        have hm_589 : M_576 7 = some (aZ G 6 (bF ho)) := by rw [hF_581 7 (by omega)]; exact hm_510
        have hm_590 : M_576 8 = some (cOnes ad jn) := by rw [hF_581 8 (by omega)]; exact hm_511
        have hm_591 : M_576 9 = some (aI G 40 (nF hg)) := by rw [hF_581 9 (by omega)]; exact hm_512
        have hm_592 : M_576 10 = some (aI G 40 (nF lst)) := by rw [hF_581 10 (by omega)]; exact hm_513
        have hm_593 : M_576 11 = some (aI G 40 (nF jd)) := by rw [hF_581 11 (by omega)]; exact hm_514
        have hm_594 : M_576 12 = some (cEnds ad 12 s0) := by rw [hF_581 12 (by omega)]; exact hm_515
        have hm_595 : M_576 13 = some (aI G 6 (nF r0)) := by rw [hF_581 13 (by omega)]; exact hm_516
        have hm_596 : M_576 14 = some (aI G 6 (oF th)) := by rw [hF_581 14 (by omega)]; exact hm_517
        have hm_597 : M_576 15 = some (aI G 6 (oF ol)) := by rw [hF_581 15 (by omega)]; exact hm_518
        have hm_598 : M_576 19 = some (aZ G 120 (bF mm9)) := by rw [hF_581 19 (by omega)]; exact hm_519
        have hm_599 : M_576 20 = some (aI G 120 ff) := by rw [hF_581 20 (by omega)]; exact hm_520
        have hm_600 : M_576 21 = some (aI G 120 lq) := by rw [hF_581 21 (by omega)]; exact hm_521
        have hm_601 : M_576 22 = some (cReader ad ra rb rt rv) := by rw [hF_581 22 (by omega)]; exact hm_522
        have hm_602 : M_576 23 = some (cMatcher ad qm pz) := by rw [hF_581 23 (by omega)]; exact hm_523
        have hm_603 : M_576 24 = some (aJ G 2160 sx) := by rw [hF_581 24 (by omega)]; exact hm_524
        have hm_604 : M_576 25 = some (aI G 6 (nF ft)) := by rw [hF_581 25 (by omega)]; exact hm_525
        have hm_605 : M_576 26 = some (aJ G 240 rx) := by rw [hF_581 26 (by omega)]; exact hm_526
        have hm_606 : M_576 27 = some (aJ G 3 dm) := by rw [hF_581 27 (by omega)]; exact hm_527
        have hm_607 : M_576 28 = some (aI G 3 rc) := by rw [hF_581 28 (by omega)]; exact hm_528
        have hm_608 : M_576 qa = some (cQuestion ad qa ao vr) := by rw [hF_581 qa (by omega)]; exact hm_529
        have hm_609 : M_576 (qa + 1) = some (aI G 6 (nF kn)) := by rw [hF_581 (qa + 1) (by omega)]; exact hm_530
        have hm_610 : M_576 (qa + 2) = some (aZ G 6 (bF nq)) := by rw [hF_581 (qa + 2) (by omega)]; exact hm_531
        have hm_611 : M_576 (qa + 3) = some (aI G 6 (nF pn)) := by rw [hF_581 (qa + 3) (by omega)]; exact hm_532
        have hm_612 : M_576 (qa + 4) = some (aI G 6 (nF av)) := by rw [hF_581 (qa + 4) (by omega)]; exact hm_533
        have hm_613 : M_576 (qa + 5) = some (aI G 24 (nF ro)) := by rw [hF_581 (qa + 5) (by omega)]; exact hm_534
        have hm_614 : M_576 (qa + 6) = some (aI G 24 (nF te)) := by rw [hF_581 (qa + 6) (by omega)]; exact hm_535
        have hm_615 : M_576 qs = some (cQuestion ad qs sq su) := by rw [hF_581 qs (by omega)]; exact hm_536
        have hm_616 : M_576 (qs + 1) = some (aI G 6 (nF kb)) := by rw [hF_581 (qs + 1) (by omega)]; exact hm_537
        have hm_617 : M_576 (qs + 2) = some (aZ G 6 (bF nb)) := by rw [hF_581 (qs + 2) (by omega)]; exact hm_538
        have hm_618 : M_576 (qs + 3) = some (aI G 6 (nF pb)) := by rw [hF_581 (qs + 3) (by omega)]; exact hm_539
        have hm_619 : M_576 (qs + 4) = some (aI G 6 (nF ab)) := by rw [hF_581 (qs + 4) (by omega)]; exact hm_540
        have hm_620 : M_576 (qs + 5) = some (aI G 24 (nF rbb)) := by rw [hF_581 (qs + 5) (by omega)]; exact hm_541
        have hm_621 : M_576 (qs + 6) = some (aI G 24 (nF tbb)) := by rw [hF_581 (qs + 6) (by omega)]; exact hm_542
        have hm_622 : M_576 61 = some (aI G 36 (nF le)) := by rw [hF_581 61 (by omega)]; exact hm_544
        have hm_623 : M_576 62 = some (aI G 36 (nF mo)) := by rw [hF_581 62 (by omega)]; exact hm_545
        have hm_624 : M_576 63 = some (aI G 36 (nF al)) := by rw [hF_581 63 (by omega)]; exact hm_546
        have hm_625 : M_576 64 = some (aZ G 6 (bF ho)) := by rw [hF_581 64 (by omega)]; exact hm_547
        have hm_626 : M_576 65 = some (aI G 120 (nF mk)) := by rw [hF_581 65 (by omega)]; exact hm_548
        have hm_627 : M_576 66 = some (aI G 120 mf) := by rw [hF_581 66 (by omega)]; exact hm_549
        have hm_628 : M_576 67 = some (aI G 120 mu) := by rw [hF_581 67 (by omega)]; exact hm_550
        have hm_629 : M_576 68 = some (aI G 121 (nF mz)) := by rw [hF_581 68 (by omega)]; exact hm_551
        have hm_630 : M_576 69 = some (aI G 726 (nF rr)) := by rw [hF_581 69 (by omega)]; exact hm_552
        have hm_631 : M_576 70 = some (aI G 726 (nF ee)) := by rw [hF_581 70 (by omega)]; exact hm_553
        have hm_632 : M_576 71 = some (aI G 40 (nF lst)) := by rw [hF_581 71 (by omega)]; exact hm_554
        have hm_633 : M_576 72 = some (aI G 40 (nF oa)) := by rw [hF_581 72 (by omega)]; exact hm_555
        have hm_634 : M_576 73 = some (aI G 40 (nF ob)) := by rw [hF_581 73 (by omega)]; exact hm_556
        have hm_635 : M_576 74 = some (aI G 120 s74) := by rw [hF_581 74 (by omega)]; exact hm_557
        have hm_636 : M_576 75 = some (aI G 12 ak) := by rw [hF_581 75 (by omega)]; exact hm_558
        have hm_637 : M_576 76 = some (aZ G 12 (bF nm)) := by rw [hF_581 76 (by omega)]; exact hm_559
        have hm_638 : M_576 77 = some (aI G 12 (nF ap)) := by rw [hF_581 77 (by omega)]; exact hm_560
        have hm_639 : M_576 78 = some (aI G 48 pr) := by rw [hF_581 78 (by omega)]; exact hm_561
        have hm_640 : M_576 79 = some (aI G 48 pf) := by rw [hF_581 79 (by omega)]; exact hm_562
        have hm_641 : M_576 80 = some (aB G 400 tf) := by rw [hF_581 80 (by omega)]; exact hm_563
        have hm_642 : M_576 81 = some (aI G 5 fv) := by rw [hF_581 81 (by omega)]; exact hm_564
        have hm_643 : M_576 82 = some (aZ G 384000 (bF tr)) := by rw [hF_581 82 (by omega)]; exact hm_565
        have hm_644 : M_576 83 = some (aI G 3 (oF gv)) := by rw [hF_581 83 (by omega)]; exact hm_566
        have hm_645 : M_576 84 = some (aI G 3 fo) := by rw [hF_581 84 (by omega)]; exact hm_567
        have hm_646 : M_576 85 = some (aZ G 40 (bF re)) := by rw [hF_581 85 (by omega)]; exact hm_568
        have hm_647 : M_576 86 = some (aZ G 120 (bF us)) := by rw [hF_581 86 (by omega)]; exact hm_569
        have hm_648 : M_576 87 = some (aZ G 120 (bF nx)) := by rw [hF_581 87 (by omega)]; exact hm_570
        have hm_649 : M_576 99 = some (aJ G 1 (vp_updL of 0 ((fm t1).toInt64))) := by rw [hF_581 99 (by omega)]; exact hm_501
        have hm_650 : M_576 16 = some (cLines ad ) := by rw [hF_581 16 (by omega)]; exact hm_571
        have hL_651 : LSm G ad M_576 n kd fm to sz rl en := hL_572.keep (fun j hj => hF_581 j (by omega))
        have hF_652 : ∀ j : Nat, j ≠ 99 → j ≠ 60 → M_576 j = M j := fun j q0 q1 => (hF_581 j q1).trans (hF_573 j q0)
        rw [hr_579]
        refine lv_istore (lv' := [(6, .int (fm t1)), (5, .int (nI 0)), (0, .ref b), (1, .ref (ad 0)), (2, .ref (ad 60)), (3, .ref (ad 99)), (4, .int (nI i))]) hx hb dL_law_880 hl (by decide) rfl (fun ls hl => ?_)
        refine lv_aload_n hx hb dL_law_882 rfl (lv_at hl 4 rfl) ?_
        refine k_Ri (va_runV (As := []) (rest := []) ⟨hx, hb, hml, hown, hts⟩ (c_X10_thrown l G z ad M_576 (th := 0) (ln := n) (on := jn) (ao := ao) (vr := vr) (sn := sn) (tp := len) (pt := pt) (zs := zs) (bg := bg) (fa := fw) hm_580) (cwV 0 hts (gV (lwg_of t_997 rfl) (lwg_of t_998 rfl) (lwg_of t_999 rfl) (lwg_of t_13 rfl) (lwg_of t_1000 rfl)) rfl rfl rfl (by decide +kernel) ⟨Nat.le_of_ble_eq_true rfl, Nat.le_of_ble_eq_true rfl⟩) (hI.preV hm_580 rfl) rfl rfl hl.1 rfl (lv_room (Nat.le_of_ble_eq_true rfl)) dL_law_883 ⟨(show _ ≤ (601024 : Nat) from by omega), (show _ ≤ (7293034 : Nat) from by omega)⟩) (fun _ h => h) (fun r_653 hp_654 => ?_)
        rw [hp_654]
        refine lv_iload hx hb dL_law_886 (lv_at hl 1 rfl) ?_
        refine lv_icmp_eq (tgt := 893) hx hb dL_law_888 (by decide) (fun c_655 => ?_) (fun c_655 => ?_)
        · -- 888: nI 0 eq
          refine lv_iload hx hb dL_law_893 (lv_at hl 1 rfl) ?_
          refine lv_if_ne (tgt := 910) hx hb dL_law_895 (by decide) (fun c_656 => ?_) (fun c_656 => ?_)
          · -- 895: nI 0 ne
            exact absurd (by decide) c_656
          · -- 895: nI 0 eq
            refine lv_aload_n hx hb dL_law_898 rfl (lv_at hl 5 rfl) ?_
            refine lv_iconst (v := nI 0) hx hb dL_law_899 (by decide) ?_
            refine h_lald (i := 0) hx hb hI hm_649 (by omega) (by decide) dL_law_900 ?_
            refine n_eql (show _ = (fm t1).toInt64 from updL_0) ?_
            refine lv_iload hx hb dL_law_901 (lv_at hl 0 rfl) ?_
            refine lv_i2l (v := (fm t1).toInt64) hx hb dL_law_903 rfl ?_
            refine W.lcmp hx hb dL_law_904 ?_
            refine lv_if_eq (tgt := 910) hx hb dL_law_905 (by decide) (fun c_657 => ?_) (fun c_657 => ?_)
            · -- 905: lg_cmp ((fm t1).toInt64) ((fm t1).toInt64) eq
              have c_657 : (fm t1).toInt64 = (fm t1).toInt64 := (lg_cmp_eq _ _).mp c_657
              refine lv_goto (tgt := 1333) hx hb dL_law_910 (by decide) ?_
              refine W.widen (k := cz + 10) (n := sy + 300) (by omega) (by omega) ?_
              exact kk ad M_576 H_577 locs_578 ls n kd fm to sz rl en qa qs fw len tb le mo al ho jn hg lst jd s0 r0 th ol e0 mm9 ff lq ra rb rt rv qm pz sx ft rx dm rc ao vr kn nq pn av ro te sq su kb nb pb ab rbb tbb 0 sn pt zs bg mk mf mu mz rr ee oa ob s74 ak nm ap pr pf tf fv tr gv fo re us nx (vp_updL of 0 ((fm t1).toInt64)) hL_651 w1 w2 w3 w4 w5 w6 w7 w8 w9 w10 w11 w12 w13 w14 w15 w16 w17 w18 w19 w20 w21 w22 w23 w24 w25 w26 w27 w28 w29 (fun h9 => by rw [hF_652 17 (by omega) (by omega), hF_652 18 (by omega) (by omega)]; exact w30 h9) (by rw [hF_652 29 (by omega) (by omega)]; exact w31) (fun j9 h9 => by rw [hF_652 j9 (by omega) (by omega)]; exact w32 j9 h9) hm_582 hm_583 hm_584 hm_585 hm_586 hm_587 hm_588 hm_589 hm_590 hm_591 hm_592 hm_593 hm_594 hm_595 hm_596 hm_597 hm_598 hm_599 hm_600 hm_601 hm_602 hm_603 hm_604 hm_605 hm_606 hm_607 hm_608 hm_609 hm_610 hm_611 hm_612 hm_613 hm_614 hm_615 hm_616 hm_617 hm_618 hm_619 hm_620 hm_621 hm_580 hm_622 hm_623 hm_624 hm_625 hm_626 hm_627 hm_628 hm_629 hm_630 hm_631 hm_632 hm_633 hm_634 hm_635 hm_636 hm_637 hm_638 hm_639 hm_640 hm_641 hm_642 hm_643 hm_644 hm_645 hm_646 hm_647 hm_648 hm_649 hI (lv_sub hl [2, 3, 4, 5, 6] rfl)
            · -- 905: lg_cmp ((fm t1).toInt64) ((fm t1).toInt64) ne
              have c_657 : (fm t1).toInt64 ≠ (fm t1).toInt64 := (fun h => c_657 ((lg_cmp_eq _ _).mpr h))
              exact absurd rfl c_657
        · -- 888: nI 0 ne
          exact absurd (by decide) c_655
      · skip
        refine lv_iload hx hb dL_law_847 (lv_at hl 4 rfl) ?_
        refine lv_iconst (v := nI 1) hx hb dL_law_849 (by decide) ?_
        refine lv_iadd hx hb dL_law_850 ?_
        refine n_eq (nI_add i 1) ?_
        refine va_sld (A := fr z) hx hb hX hbl hbz hI.S (vp_in_nI (n := i + 1) (by omega) (by omega)) dL_law_851 ?_
        rw [nI_clamp (by omega)]
        refine n_eq (show _ = nI t1 from et1) ?_
        refine lv_aload_n hx hb dL_law_852 rfl (lv_at hl 0 rfl) ?_
        refine lv_iload hx hb dL_law_853 (lv_at hl 4 rfl) ?_
        refine lv_iconst (v := nI 2) hx hb dL_law_855 (by decide) ?_
        refine lv_iadd hx hb dL_law_856 ?_
        refine n_eq (nI_add i 2) ?_
        refine va_sld (A := fr z) hx hb hX hbl hbz hI.S (vp_in_nI (n := i + 2) (by omega) (by omega)) dL_law_857 ?_
        rw [nI_clamp (by omega)]
        refine n_eq (show _ = nI 2 from et2.trans (congrArg nI hc_329)) ?_
        refine lv_aload_n hx hb dL_law_858 rfl (lv_at hl 3 rfl) ?_
        refine k_Ni (vx_runSW (As := [.ref (ad 0), .int (nI t1), .int (nI 2), .ref (ad 99)]) (rest := []) ⟨hx, hb, hml, hown, hts⟩ (c_L_look_2 l hst G z ad M (n := n) (kd := kd) (fm := fm) (to := to) (sz := sz) (rl := rl) (en := en) (qa := qa) (qs := qs) (fw := fw) (q := t1) (of := of) fL f_0 f_99 w1 ht1) (vx_cwSW 4 hts (gSW (lwg_of t_855 rfl) (lwg_of t_856 rfl) (lwg_of t_0 rfl) (lwg_of t_857 rfl)) rfl rfl rfl (by decide +kernel) ⟨Nat.le_of_ble_eq_true rfl, Nat.le_of_ble_eq_true rfl⟩) hI.preS rfl rfl hl.1 rfl (lv_room (Nat.le_of_ble_eq_true rfl)) dL_law_859 ⟨(show _ ≤ (601024 : Nat) from by omega), (show _ ≤ (7293034 : Nat) from by omega)⟩) hI (fun r_658 M_660 H_661 locs_662 hp_659 hI => ?_)
        obtain ⟨hr_663, hm_664, hF_665⟩ := hp_659
        have hm_666 : M_660 0 = some (cStore ad qa qs fw) := by rw [hF_665 0 (by omega)]; exact f_0
        have hm_667 : M_660 1 = some (cTape ad len) := by rw [hF_665 1 (by omega)]; exact f_1
        have hm_668 : M_660 2 = some (aI G 400 (nF tb)) := by rw [hF_665 2 (by omega)]; exact f_2
        have hm_669 : M_660 3 = some (cLaws ad ) := by rw [hF_665 3 (by omega)]; exact f_3
        have hm_670 : M_660 4 = some (aI G 36 (nF le)) := by rw [hF_665 4 (by omega)]; exact f_4
        have hm_671 : M_660 5 = some (aI G 36 (nF mo)) := by rw [hF_665 5 (by omega)]; exact f_5
        have hm_672 : M_660 6 = some (aI G 36 (nF al)) := by rw [hF_665 6 (by omega)]; exact f_6
        have hm_673 : M_660 7 = some (aZ G 6 (bF ho)) := by rw [hF_665 7 (by omega)]; exact f_7
        have hm_674 : M_660 8 = some (cOnes ad jn) := by rw [hF_665 8 (by omega)]; exact f_8
        have hm_675 : M_660 9 = some (aI G 40 (nF hg)) := by rw [hF_665 9 (by omega)]; exact f_9
        have hm_676 : M_660 10 = some (aI G 40 (nF lst)) := by rw [hF_665 10 (by omega)]; exact f_10
        have hm_677 : M_660 11 = some (aI G 40 (nF jd)) := by rw [hF_665 11 (by omega)]; exact f_11
        have hm_678 : M_660 12 = some (cEnds ad 12 s0) := by rw [hF_665 12 (by omega)]; exact f_12
        have hm_679 : M_660 13 = some (aI G 6 (nF r0)) := by rw [hF_665 13 (by omega)]; exact f_13
        have hm_680 : M_660 14 = some (aI G 6 (oF th)) := by rw [hF_665 14 (by omega)]; exact f_14
        have hm_681 : M_660 15 = some (aI G 6 (oF ol)) := by rw [hF_665 15 (by omega)]; exact f_15
        have hm_682 : M_660 19 = some (aZ G 120 (bF mm9)) := by rw [hF_665 19 (by omega)]; exact f_19
        have hm_683 : M_660 20 = some (aI G 120 ff) := by rw [hF_665 20 (by omega)]; exact f_20
        have hm_684 : M_660 21 = some (aI G 120 lq) := by rw [hF_665 21 (by omega)]; exact f_21
        have hm_685 : M_660 22 = some (cReader ad ra rb rt rv) := by rw [hF_665 22 (by omega)]; exact f_22
        have hm_686 : M_660 23 = some (cMatcher ad qm pz) := by rw [hF_665 23 (by omega)]; exact f_23
        have hm_687 : M_660 24 = some (aJ G 2160 sx) := by rw [hF_665 24 (by omega)]; exact f_24
        have hm_688 : M_660 25 = some (aI G 6 (nF ft)) := by rw [hF_665 25 (by omega)]; exact f_25
        have hm_689 : M_660 26 = some (aJ G 240 rx) := by rw [hF_665 26 (by omega)]; exact f_26
        have hm_690 : M_660 27 = some (aJ G 3 dm) := by rw [hF_665 27 (by omega)]; exact f_27
        have hm_691 : M_660 28 = some (aI G 3 rc) := by rw [hF_665 28 (by omega)]; exact f_28
        have hm_692 : M_660 qa = some (cQuestion ad qa ao vr) := by rw [hF_665 qa (by omega)]; exact f_qa
        have hm_693 : M_660 (qa + 1) = some (aI G 6 (nF kn)) := by rw [hF_665 (qa + 1) (by omega)]; exact f_qa_1
        have hm_694 : M_660 (qa + 2) = some (aZ G 6 (bF nq)) := by rw [hF_665 (qa + 2) (by omega)]; exact f_qa_2
        have hm_695 : M_660 (qa + 3) = some (aI G 6 (nF pn)) := by rw [hF_665 (qa + 3) (by omega)]; exact f_qa_3
        have hm_696 : M_660 (qa + 4) = some (aI G 6 (nF av)) := by rw [hF_665 (qa + 4) (by omega)]; exact f_qa_4
        have hm_697 : M_660 (qa + 5) = some (aI G 24 (nF ro)) := by rw [hF_665 (qa + 5) (by omega)]; exact f_qa_5
        have hm_698 : M_660 (qa + 6) = some (aI G 24 (nF te)) := by rw [hF_665 (qa + 6) (by omega)]; exact f_qa_6
        have hm_699 : M_660 qs = some (cQuestion ad qs sq su) := by rw [hF_665 qs (by omega)]; exact f_qs
        have hm_700 : M_660 (qs + 1) = some (aI G 6 (nF kb)) := by rw [hF_665 (qs + 1) (by omega)]; exact f_qs_1
        have hm_701 : M_660 (qs + 2) = some (aZ G 6 (bF nb)) := by rw [hF_665 (qs + 2) (by omega)]; exact f_qs_2
        have hm_702 : M_660 (qs + 3) = some (aI G 6 (nF pb)) := by rw [hF_665 (qs + 3) (by omega)]; exact f_qs_3
        have hm_703 : M_660 (qs + 4) = some (aI G 6 (nF ab)) := by rw [hF_665 (qs + 4) (by omega)]; exact f_qs_4
        have hm_704 : M_660 (qs + 5) = some (aI G 24 (nF rbb)) := by rw [hF_665 (qs + 5) (by omega)]; exact f_qs_5
        have hm_705 : M_660 (qs + 6) = some (aI G 24 (nF tbb)) := by rw [hF_665 (qs + 6) (by omega)]; exact f_qs_6
        have hm_706 : M_660 60 = some (cModel ad tw n jn ao vr sn len pt zs bg fw) := by rw [hF_665 60 (by omega)]; exact f_60
        have hm_707 : M_660 61 = some (aI G 36 (nF le)) := by rw [hF_665 61 (by omega)]; exact f_61
        have hm_708 : M_660 62 = some (aI G 36 (nF mo)) := by rw [hF_665 62 (by omega)]; exact f_62
        have hm_709 : M_660 63 = some (aI G 36 (nF al)) := by rw [hF_665 63 (by omega)]; exact f_63
        have hm_710 : M_660 64 = some (aZ G 6 (bF ho)) := by rw [hF_665 64 (by omega)]; exact f_64
        have hm_711 : M_660 65 = some (aI G 120 (nF mk)) := by rw [hF_665 65 (by omega)]; exact f_65
        have hm_712 : M_660 66 = some (aI G 120 mf) := by rw [hF_665 66 (by omega)]; exact f_66
        have hm_713 : M_660 67 = some (aI G 120 mu) := by rw [hF_665 67 (by omega)]; exact f_67
        have hm_714 : M_660 68 = some (aI G 121 (nF mz)) := by rw [hF_665 68 (by omega)]; exact f_68
        have hm_715 : M_660 69 = some (aI G 726 (nF rr)) := by rw [hF_665 69 (by omega)]; exact f_69
        have hm_716 : M_660 70 = some (aI G 726 (nF ee)) := by rw [hF_665 70 (by omega)]; exact f_70
        have hm_717 : M_660 71 = some (aI G 40 (nF lst)) := by rw [hF_665 71 (by omega)]; exact f_71
        have hm_718 : M_660 72 = some (aI G 40 (nF oa)) := by rw [hF_665 72 (by omega)]; exact f_72
        have hm_719 : M_660 73 = some (aI G 40 (nF ob)) := by rw [hF_665 73 (by omega)]; exact f_73
        have hm_720 : M_660 74 = some (aI G 120 s74) := by rw [hF_665 74 (by omega)]; exact f_74
        have hm_721 : M_660 75 = some (aI G 12 ak) := by rw [hF_665 75 (by omega)]; exact f_75
        have hm_722 : M_660 76 = some (aZ G 12 (bF nm)) := by rw [hF_665 76 (by omega)]; exact f_76
        have hm_723 : M_660 77 = some (aI G 12 (nF ap)) := by rw [hF_665 77 (by omega)]; exact f_77
        have hm_724 : M_660 78 = some (aI G 48 pr) := by rw [hF_665 78 (by omega)]; exact f_78
        have hm_725 : M_660 79 = some (aI G 48 pf) := by rw [hF_665 79 (by omega)]; exact f_79
        have hm_726 : M_660 80 = some (aB G 400 tf) := by rw [hF_665 80 (by omega)]; exact f_80
        have hm_727 : M_660 81 = some (aI G 5 fv) := by rw [hF_665 81 (by omega)]; exact f_81
        have hm_728 : M_660 82 = some (aZ G 384000 (bF tr)) := by rw [hF_665 82 (by omega)]; exact f_82
        have hm_729 : M_660 83 = some (aI G 3 (oF gv)) := by rw [hF_665 83 (by omega)]; exact f_83
        have hm_730 : M_660 84 = some (aI G 3 fo) := by rw [hF_665 84 (by omega)]; exact f_84
        have hm_731 : M_660 85 = some (aZ G 40 (bF re)) := by rw [hF_665 85 (by omega)]; exact f_85
        have hm_732 : M_660 86 = some (aZ G 120 (bF us)) := by rw [hF_665 86 (by omega)]; exact f_86
        have hm_733 : M_660 87 = some (aZ G 120 (bF nx)) := by rw [hF_665 87 (by omega)]; exact f_87
        have hm_734 : M_660 16 = some (cLines ad ) := by rw [hF_665 16 (by omega)]; exact h16
        have hL_735 : LSm G ad M_660 n kd fm to sz rl en := fL.keep (fun j hj => hF_665 j (by omega))
        have hF_736 : ∀ j : Nat, j ≠ 99 → M_660 j = M j := fun j q0 => (hF_665 j q0)
        rw [hr_663]
        refine lv_istore (lv' := [(5, .int (nI 0)), (0, .ref b), (1, .ref (ad 0)), (2, .ref (ad 60)), (3, .ref (ad 99)), (4, .int (nI i))]) hx hb dL_law_862 hl (by decide) rfl (fun ls hl => ?_)
        refine lv_aload_n hx hb dL_law_864 rfl (lv_at hl 3 rfl) ?_
        refine lv_aload_n hx hb dL_law_865 rfl (lv_at hl 1 rfl) ?_
        refine lv_iload hx hb dL_law_866 (lv_at hl 5 rfl) ?_
        refine lv_iconst (v := nI 1) hx hb dL_law_868 (by decide) ?_
        refine lv_iadd hx hb dL_law_869 ?_
        refine n_eq (nI_add i 1) ?_
        refine va_sld (A := fr z) hx hb hX hbl hbz hI.S (vp_in_nI (n := i + 1) (by omega) (by omega)) dL_law_870 ?_
        rw [nI_clamp (by omega)]
        refine n_eq (show _ = nI t1 from et1) ?_
        refine lv_aload_n hx hb dL_law_871 rfl (lv_at hl 1 rfl) ?_
        refine lv_iload hx hb dL_law_872 (lv_at hl 5 rfl) ?_
        refine lv_iconst (v := nI 2) hx hb dL_law_874 (by decide) ?_
        refine lv_iadd hx hb dL_law_875 ?_
        refine n_eq (nI_add i 2) ?_
        refine va_sld (A := fr z) hx hb hX hbl hbz hI.S (vp_in_nI (n := i + 2) (by omega) (by omega)) dL_law_876 ?_
        rw [nI_clamp (by omega)]
        refine n_eq (show _ = nI 2 from et2.trans (congrArg nI hc_329)) ?_
        refine k_Ni (va_runV (As := [.int (nI t1), .int (nI 2)]) (rest := []) ⟨hx, hb, hml, hown, hts⟩ (c_X10_look_2 l G z ad M_660 (th := tw) (on := jn) (ao := ao) (vr := vr) (sn := sn) (tp := len) (pt := pt) (zs := zs) (bg := bg) (fa := fw) (n := n) (kd := kd) (fm := fm) (to := to) (sz := sz) (rl := rl) (en := en) (mk := mk) (mf := mf) (mu := mu) (mz := mz) (rr := rr) (ee := ee) (q := t1) hm_706 hm_711 hm_712 hm_713 hm_714 w1 w2 ht1) (cwV 2 hts (gV (lwg_of t_1193 rfl) (lwg_of t_1194 rfl) (lwg_of t_1195 rfl) (lwg_of t_13 rfl) (lwg_of t_1196 rfl)) rfl rfl rfl (by decide +kernel) ⟨Nat.le_of_ble_eq_true rfl, Nat.le_of_ble_eq_true rfl⟩) (hI.preV hm_706 rfl) rfl rfl hl.1 rfl (lv_room (Nat.le_of_ble_eq_true rfl)) dL_law_877 ⟨(show _ ≤ (601024 : Nat) from by omega), (show _ ≤ (7293034 : Nat) from by omega)⟩) hI (fun r_737 M_739 H_740 locs_741 hp_738 hI => ?_)
        obtain ⟨hr_742, hm_743, hF_744⟩ := hp_738
        have hm_745 : M_739 0 = some (cStore ad qa qs fw) := by rw [hF_744 0 (by omega)]; exact hm_666
        have hm_746 : M_739 1 = some (cTape ad len) := by rw [hF_744 1 (by omega)]; exact hm_667
        have hm_747 : M_739 2 = some (aI G 400 (nF tb)) := by rw [hF_744 2 (by omega)]; exact hm_668
        have hm_748 : M_739 3 = some (cLaws ad ) := by rw [hF_744 3 (by omega)]; exact hm_669
        have hm_749 : M_739 4 = some (aI G 36 (nF le)) := by rw [hF_744 4 (by omega)]; exact hm_670
        have hm_750 : M_739 5 = some (aI G 36 (nF mo)) := by rw [hF_744 5 (by omega)]; exact hm_671
        have hm_751 : M_739 6 = some (aI G 36 (nF al)) := by rw [hF_744 6 (by omega)]; exact hm_672
        have hm_752 : M_739 7 = some (aZ G 6 (bF ho)) := by rw [hF_744 7 (by omega)]; exact hm_673
        have hm_753 : M_739 8 = some (cOnes ad jn) := by rw [hF_744 8 (by omega)]; exact hm_674
        have hm_754 : M_739 9 = some (aI G 40 (nF hg)) := by rw [hF_744 9 (by omega)]; exact hm_675
        have hm_755 : M_739 10 = some (aI G 40 (nF lst)) := by rw [hF_744 10 (by omega)]; exact hm_676
        have hm_756 : M_739 11 = some (aI G 40 (nF jd)) := by rw [hF_744 11 (by omega)]; exact hm_677
        have hm_757 : M_739 12 = some (cEnds ad 12 s0) := by rw [hF_744 12 (by omega)]; exact hm_678
        have hm_758 : M_739 13 = some (aI G 6 (nF r0)) := by rw [hF_744 13 (by omega)]; exact hm_679
        have hm_759 : M_739 14 = some (aI G 6 (oF th)) := by rw [hF_744 14 (by omega)]; exact hm_680
        have hm_760 : M_739 15 = some (aI G 6 (oF ol)) := by rw [hF_744 15 (by omega)]; exact hm_681
        have hm_761 : M_739 19 = some (aZ G 120 (bF mm9)) := by rw [hF_744 19 (by omega)]; exact hm_682
        have hm_762 : M_739 20 = some (aI G 120 ff) := by rw [hF_744 20 (by omega)]; exact hm_683
        have hm_763 : M_739 21 = some (aI G 120 lq) := by rw [hF_744 21 (by omega)]; exact hm_684
        have hm_764 : M_739 22 = some (cReader ad ra rb rt rv) := by rw [hF_744 22 (by omega)]; exact hm_685
        have hm_765 : M_739 23 = some (cMatcher ad qm pz) := by rw [hF_744 23 (by omega)]; exact hm_686
        have hm_766 : M_739 24 = some (aJ G 2160 sx) := by rw [hF_744 24 (by omega)]; exact hm_687
        have hm_767 : M_739 25 = some (aI G 6 (nF ft)) := by rw [hF_744 25 (by omega)]; exact hm_688
        have hm_768 : M_739 26 = some (aJ G 240 rx) := by rw [hF_744 26 (by omega)]; exact hm_689
        have hm_769 : M_739 27 = some (aJ G 3 dm) := by rw [hF_744 27 (by omega)]; exact hm_690
        have hm_770 : M_739 28 = some (aI G 3 rc) := by rw [hF_744 28 (by omega)]; exact hm_691
        have hm_771 : M_739 qa = some (cQuestion ad qa ao vr) := by rw [hF_744 qa (by omega)]; exact hm_692
        have hm_772 : M_739 (qa + 1) = some (aI G 6 (nF kn)) := by rw [hF_744 (qa + 1) (by omega)]; exact hm_693
        have hm_773 : M_739 (qa + 2) = some (aZ G 6 (bF nq)) := by rw [hF_744 (qa + 2) (by omega)]; exact hm_694
        have hm_774 : M_739 (qa + 3) = some (aI G 6 (nF pn)) := by rw [hF_744 (qa + 3) (by omega)]; exact hm_695
        have hm_775 : M_739 (qa + 4) = some (aI G 6 (nF av)) := by rw [hF_744 (qa + 4) (by omega)]; exact hm_696
        have hm_776 : M_739 (qa + 5) = some (aI G 24 (nF ro)) := by rw [hF_744 (qa + 5) (by omega)]; exact hm_697
        have hm_777 : M_739 (qa + 6) = some (aI G 24 (nF te)) := by rw [hF_744 (qa + 6) (by omega)]; exact hm_698
        have hm_778 : M_739 qs = some (cQuestion ad qs sq su) := by rw [hF_744 qs (by omega)]; exact hm_699
        have hm_779 : M_739 (qs + 1) = some (aI G 6 (nF kb)) := by rw [hF_744 (qs + 1) (by omega)]; exact hm_700
        have hm_780 : M_739 (qs + 2) = some (aZ G 6 (bF nb)) := by rw [hF_744 (qs + 2) (by omega)]; exact hm_701
        have hm_781 : M_739 (qs + 3) = some (aI G 6 (nF pb)) := by rw [hF_744 (qs + 3) (by omega)]; exact hm_702
        have hm_782 : M_739 (qs + 4) = some (aI G 6 (nF ab)) := by rw [hF_744 (qs + 4) (by omega)]; exact hm_703
        have hm_783 : M_739 (qs + 5) = some (aI G 24 (nF rbb)) := by rw [hF_744 (qs + 5) (by omega)]; exact hm_704
        have hm_784 : M_739 (qs + 6) = some (aI G 24 (nF tbb)) := by rw [hF_744 (qs + 6) (by omega)]; exact hm_705
        have hm_785 : M_739 61 = some (aI G 36 (nF le)) := by rw [hF_744 61 (by omega)]; exact hm_707
        have hm_786 : M_739 62 = some (aI G 36 (nF mo)) := by rw [hF_744 62 (by omega)]; exact hm_708
        have hm_787 : M_739 63 = some (aI G 36 (nF al)) := by rw [hF_744 63 (by omega)]; exact hm_709
        have hm_788 : M_739 64 = some (aZ G 6 (bF ho)) := by rw [hF_744 64 (by omega)]; exact hm_710
        have hm_789 : M_739 65 = some (aI G 120 (nF mk)) := by rw [hF_744 65 (by omega)]; exact hm_711
        have hm_790 : M_739 66 = some (aI G 120 mf) := by rw [hF_744 66 (by omega)]; exact hm_712
        have hm_791 : M_739 67 = some (aI G 120 mu) := by rw [hF_744 67 (by omega)]; exact hm_713
        have hm_792 : M_739 68 = some (aI G 121 (nF mz)) := by rw [hF_744 68 (by omega)]; exact hm_714
        have hm_793 : M_739 69 = some (aI G 726 (nF rr)) := by rw [hF_744 69 (by omega)]; exact hm_715
        have hm_794 : M_739 70 = some (aI G 726 (nF ee)) := by rw [hF_744 70 (by omega)]; exact hm_716
        have hm_795 : M_739 71 = some (aI G 40 (nF lst)) := by rw [hF_744 71 (by omega)]; exact hm_717
        have hm_796 : M_739 72 = some (aI G 40 (nF oa)) := by rw [hF_744 72 (by omega)]; exact hm_718
        have hm_797 : M_739 73 = some (aI G 40 (nF ob)) := by rw [hF_744 73 (by omega)]; exact hm_719
        have hm_798 : M_739 74 = some (aI G 120 s74) := by rw [hF_744 74 (by omega)]; exact hm_720
        have hm_799 : M_739 75 = some (aI G 12 ak) := by rw [hF_744 75 (by omega)]; exact hm_721
        have hm_800 : M_739 76 = some (aZ G 12 (bF nm)) := by rw [hF_744 76 (by omega)]; exact hm_722
        have hm_801 : M_739 77 = some (aI G 12 (nF ap)) := by rw [hF_744 77 (by omega)]; exact hm_723
        have hm_802 : M_739 78 = some (aI G 48 pr) := by rw [hF_744 78 (by omega)]; exact hm_724
        have hm_803 : M_739 79 = some (aI G 48 pf) := by rw [hF_744 79 (by omega)]; exact hm_725
        have hm_804 : M_739 80 = some (aB G 400 tf) := by rw [hF_744 80 (by omega)]; exact hm_726
        have hm_805 : M_739 81 = some (aI G 5 fv) := by rw [hF_744 81 (by omega)]; exact hm_727
        have hm_806 : M_739 82 = some (aZ G 384000 (bF tr)) := by rw [hF_744 82 (by omega)]; exact hm_728
        have hm_807 : M_739 83 = some (aI G 3 (oF gv)) := by rw [hF_744 83 (by omega)]; exact hm_729
        have hm_808 : M_739 84 = some (aI G 3 fo) := by rw [hF_744 84 (by omega)]; exact hm_730
        have hm_809 : M_739 85 = some (aZ G 40 (bF re)) := by rw [hF_744 85 (by omega)]; exact hm_731
        have hm_810 : M_739 86 = some (aZ G 120 (bF us)) := by rw [hF_744 86 (by omega)]; exact hm_732
        have hm_811 : M_739 87 = some (aZ G 120 (bF nx)) := by rw [hF_744 87 (by omega)]; exact hm_733
        have hm_812 : M_739 99 = some (aJ G 1 (vp_updL of 0 ((to t1).toInt64))) := by rw [hF_744 99 (by omega)]; exact hm_664
        have hm_813 : M_739 16 = some (cLines ad ) := by rw [hF_744 16 (by omega)]; exact hm_734
        have hL_814 : LSm G ad M_739 n kd fm to sz rl en := hL_735.keep (fun j hj => hF_744 j (by omega))
        have hF_815 : ∀ j : Nat, j ≠ 99 → j ≠ 60 → M_739 j = M j := fun j q0 q1 => (hF_744 j q1).trans (hF_736 j q0)
        rw [hr_742]
        refine lv_istore (lv' := [(6, .int (to t1)), (5, .int (nI 0)), (0, .ref b), (1, .ref (ad 0)), (2, .ref (ad 60)), (3, .ref (ad 99)), (4, .int (nI i))]) hx hb dL_law_880 hl (by decide) rfl (fun ls hl => ?_)
        refine lv_aload_n hx hb dL_law_882 rfl (lv_at hl 4 rfl) ?_
        refine k_Ri (va_runV (As := []) (rest := []) ⟨hx, hb, hml, hown, hts⟩ (c_X10_thrown l G z ad M_739 (th := 0) (ln := n) (on := jn) (ao := ao) (vr := vr) (sn := sn) (tp := len) (pt := pt) (zs := zs) (bg := bg) (fa := fw) hm_743) (cwV 0 hts (gV (lwg_of t_997 rfl) (lwg_of t_998 rfl) (lwg_of t_999 rfl) (lwg_of t_13 rfl) (lwg_of t_1000 rfl)) rfl rfl rfl (by decide +kernel) ⟨Nat.le_of_ble_eq_true rfl, Nat.le_of_ble_eq_true rfl⟩) (hI.preV hm_743 rfl) rfl rfl hl.1 rfl (lv_room (Nat.le_of_ble_eq_true rfl)) dL_law_883 ⟨(show _ ≤ (601024 : Nat) from by omega), (show _ ≤ (7293034 : Nat) from by omega)⟩) (fun _ h => h) (fun r_816 hp_817 => ?_)
        rw [hp_817]
        refine lv_iload hx hb dL_law_886 (lv_at hl 1 rfl) ?_
        refine lv_icmp_eq (tgt := 893) hx hb dL_law_888 (by decide) (fun c_818 => ?_) (fun c_818 => ?_)
        · -- 888: nI 0 eq
          refine lv_iload hx hb dL_law_893 (lv_at hl 1 rfl) ?_
          refine lv_if_ne (tgt := 910) hx hb dL_law_895 (by decide) (fun c_819 => ?_) (fun c_819 => ?_)
          · -- 895: nI 0 ne
            exact absurd (by decide) c_819
          · -- 895: nI 0 eq
            refine lv_aload_n hx hb dL_law_898 rfl (lv_at hl 5 rfl) ?_
            refine lv_iconst (v := nI 0) hx hb dL_law_899 (by decide) ?_
            refine h_lald (i := 0) hx hb hI hm_812 (by omega) (by decide) dL_law_900 ?_
            refine n_eql (show _ = (to t1).toInt64 from updL_0) ?_
            refine lv_iload hx hb dL_law_901 (lv_at hl 0 rfl) ?_
            refine lv_i2l (v := (to t1).toInt64) hx hb dL_law_903 rfl ?_
            refine W.lcmp hx hb dL_law_904 ?_
            refine lv_if_eq (tgt := 910) hx hb dL_law_905 (by decide) (fun c_820 => ?_) (fun c_820 => ?_)
            · -- 905: lg_cmp ((to t1).toInt64) ((to t1).toInt64) eq
              have c_820 : (to t1).toInt64 = (to t1).toInt64 := (lg_cmp_eq _ _).mp c_820
              refine lv_goto (tgt := 1333) hx hb dL_law_910 (by decide) ?_
              refine W.widen (k := cz + 10) (n := sy + 300) (by omega) (by omega) ?_
              exact kk ad M_739 H_740 locs_741 ls n kd fm to sz rl en qa qs fw len tb le mo al ho jn hg lst jd s0 r0 th ol e0 mm9 ff lq ra rb rt rv qm pz sx ft rx dm rc ao vr kn nq pn av ro te sq su kb nb pb ab rbb tbb 0 sn pt zs bg mk mf mu mz rr ee oa ob s74 ak nm ap pr pf tf fv tr gv fo re us nx (vp_updL of 0 ((to t1).toInt64)) hL_814 w1 w2 w3 w4 w5 w6 w7 w8 w9 w10 w11 w12 w13 w14 w15 w16 w17 w18 w19 w20 w21 w22 w23 w24 w25 w26 w27 w28 w29 (fun h9 => by rw [hF_815 17 (by omega) (by omega), hF_815 18 (by omega) (by omega)]; exact w30 h9) (by rw [hF_815 29 (by omega) (by omega)]; exact w31) (fun j9 h9 => by rw [hF_815 j9 (by omega) (by omega)]; exact w32 j9 h9) hm_745 hm_746 hm_747 hm_748 hm_749 hm_750 hm_751 hm_752 hm_753 hm_754 hm_755 hm_756 hm_757 hm_758 hm_759 hm_760 hm_761 hm_762 hm_763 hm_764 hm_765 hm_766 hm_767 hm_768 hm_769 hm_770 hm_771 hm_772 hm_773 hm_774 hm_775 hm_776 hm_777 hm_778 hm_779 hm_780 hm_781 hm_782 hm_783 hm_784 hm_743 hm_785 hm_786 hm_787 hm_788 hm_789 hm_790 hm_791 hm_792 hm_793 hm_794 hm_795 hm_796 hm_797 hm_798 hm_799 hm_800 hm_801 hm_802 hm_803 hm_804 hm_805 hm_806 hm_807 hm_808 hm_809 hm_810 hm_811 hm_812 hI (lv_sub hl [2, 3, 4, 5, 6] rfl)
            · -- 905: lg_cmp ((to t1).toInt64) ((to t1).toInt64) ne
              have c_820 : (to t1).toInt64 ≠ (to t1).toInt64 := (fun h => c_820 ((lg_cmp_eq _ _).mpr h))
              exact absurd rfl c_820
        · -- 888: nI 0 ne
          exact absurd (by decide) c_818
      · skip
        refine lv_iload hx hb dL_law_847 (lv_at hl 4 rfl) ?_
        refine lv_iconst (v := nI 1) hx hb dL_law_849 (by decide) ?_
        refine lv_iadd hx hb dL_law_850 ?_
        refine n_eq (nI_add i 1) ?_
        refine va_sld (A := fr z) hx hb hX hbl hbz hI.S (vp_in_nI (n := i + 1) (by omega) (by omega)) dL_law_851 ?_
        rw [nI_clamp (by omega)]
        refine n_eq (show _ = nI t1 from et1) ?_
        refine lv_aload_n hx hb dL_law_852 rfl (lv_at hl 0 rfl) ?_
        refine lv_iload hx hb dL_law_853 (lv_at hl 4 rfl) ?_
        refine lv_iconst (v := nI 2) hx hb dL_law_855 (by decide) ?_
        refine lv_iadd hx hb dL_law_856 ?_
        refine n_eq (nI_add i 2) ?_
        refine va_sld (A := fr z) hx hb hX hbl hbz hI.S (vp_in_nI (n := i + 2) (by omega) (by omega)) dL_law_857 ?_
        rw [nI_clamp (by omega)]
        refine n_eq (show _ = nI 3 from et2.trans (congrArg nI hc_330)) ?_
        refine lv_aload_n hx hb dL_law_858 rfl (lv_at hl 3 rfl) ?_
        refine k_Ni (vx_runSW (As := [.ref (ad 0), .int (nI t1), .int (nI 3), .ref (ad 99)]) (rest := []) ⟨hx, hb, hml, hown, hts⟩ (c_L_look_3 l hst G z ad M (n := n) (kd := kd) (fm := fm) (to := to) (sz := sz) (rl := rl) (en := en) (qa := qa) (qs := qs) (fw := fw) (q := t1) (of := of) fL f_0 f_99 w1 ht1) (vx_cwSW 4 hts (gSW (lwg_of t_855 rfl) (lwg_of t_856 rfl) (lwg_of t_0 rfl) (lwg_of t_857 rfl)) rfl rfl rfl (by decide +kernel) ⟨Nat.le_of_ble_eq_true rfl, Nat.le_of_ble_eq_true rfl⟩) hI.preS rfl rfl hl.1 rfl (lv_room (Nat.le_of_ble_eq_true rfl)) dL_law_859 ⟨(show _ ≤ (601024 : Nat) from by omega), (show _ ≤ (7293034 : Nat) from by omega)⟩) hI (fun r_821 M_823 H_824 locs_825 hp_822 hI => ?_)
        obtain ⟨hr_826, hm_827, hF_828⟩ := hp_822
        have hm_829 : M_823 0 = some (cStore ad qa qs fw) := by rw [hF_828 0 (by omega)]; exact f_0
        have hm_830 : M_823 1 = some (cTape ad len) := by rw [hF_828 1 (by omega)]; exact f_1
        have hm_831 : M_823 2 = some (aI G 400 (nF tb)) := by rw [hF_828 2 (by omega)]; exact f_2
        have hm_832 : M_823 3 = some (cLaws ad ) := by rw [hF_828 3 (by omega)]; exact f_3
        have hm_833 : M_823 4 = some (aI G 36 (nF le)) := by rw [hF_828 4 (by omega)]; exact f_4
        have hm_834 : M_823 5 = some (aI G 36 (nF mo)) := by rw [hF_828 5 (by omega)]; exact f_5
        have hm_835 : M_823 6 = some (aI G 36 (nF al)) := by rw [hF_828 6 (by omega)]; exact f_6
        have hm_836 : M_823 7 = some (aZ G 6 (bF ho)) := by rw [hF_828 7 (by omega)]; exact f_7
        have hm_837 : M_823 8 = some (cOnes ad jn) := by rw [hF_828 8 (by omega)]; exact f_8
        have hm_838 : M_823 9 = some (aI G 40 (nF hg)) := by rw [hF_828 9 (by omega)]; exact f_9
        have hm_839 : M_823 10 = some (aI G 40 (nF lst)) := by rw [hF_828 10 (by omega)]; exact f_10
        have hm_840 : M_823 11 = some (aI G 40 (nF jd)) := by rw [hF_828 11 (by omega)]; exact f_11
        have hm_841 : M_823 12 = some (cEnds ad 12 s0) := by rw [hF_828 12 (by omega)]; exact f_12
        have hm_842 : M_823 13 = some (aI G 6 (nF r0)) := by rw [hF_828 13 (by omega)]; exact f_13
        have hm_843 : M_823 14 = some (aI G 6 (oF th)) := by rw [hF_828 14 (by omega)]; exact f_14
        have hm_844 : M_823 15 = some (aI G 6 (oF ol)) := by rw [hF_828 15 (by omega)]; exact f_15
        have hm_845 : M_823 19 = some (aZ G 120 (bF mm9)) := by rw [hF_828 19 (by omega)]; exact f_19
        have hm_846 : M_823 20 = some (aI G 120 ff) := by rw [hF_828 20 (by omega)]; exact f_20
        have hm_847 : M_823 21 = some (aI G 120 lq) := by rw [hF_828 21 (by omega)]; exact f_21
        have hm_848 : M_823 22 = some (cReader ad ra rb rt rv) := by rw [hF_828 22 (by omega)]; exact f_22
        have hm_849 : M_823 23 = some (cMatcher ad qm pz) := by rw [hF_828 23 (by omega)]; exact f_23
        have hm_850 : M_823 24 = some (aJ G 2160 sx) := by rw [hF_828 24 (by omega)]; exact f_24
        have hm_851 : M_823 25 = some (aI G 6 (nF ft)) := by rw [hF_828 25 (by omega)]; exact f_25
        have hm_852 : M_823 26 = some (aJ G 240 rx) := by rw [hF_828 26 (by omega)]; exact f_26
        have hm_853 : M_823 27 = some (aJ G 3 dm) := by rw [hF_828 27 (by omega)]; exact f_27
        have hm_854 : M_823 28 = some (aI G 3 rc) := by rw [hF_828 28 (by omega)]; exact f_28
        have hm_855 : M_823 qa = some (cQuestion ad qa ao vr) := by rw [hF_828 qa (by omega)]; exact f_qa
        have hm_856 : M_823 (qa + 1) = some (aI G 6 (nF kn)) := by rw [hF_828 (qa + 1) (by omega)]; exact f_qa_1
        have hm_857 : M_823 (qa + 2) = some (aZ G 6 (bF nq)) := by rw [hF_828 (qa + 2) (by omega)]; exact f_qa_2
        have hm_858 : M_823 (qa + 3) = some (aI G 6 (nF pn)) := by rw [hF_828 (qa + 3) (by omega)]; exact f_qa_3
        have hm_859 : M_823 (qa + 4) = some (aI G 6 (nF av)) := by rw [hF_828 (qa + 4) (by omega)]; exact f_qa_4
        have hm_860 : M_823 (qa + 5) = some (aI G 24 (nF ro)) := by rw [hF_828 (qa + 5) (by omega)]; exact f_qa_5
        have hm_861 : M_823 (qa + 6) = some (aI G 24 (nF te)) := by rw [hF_828 (qa + 6) (by omega)]; exact f_qa_6
        have hm_862 : M_823 qs = some (cQuestion ad qs sq su) := by rw [hF_828 qs (by omega)]; exact f_qs
        have hm_863 : M_823 (qs + 1) = some (aI G 6 (nF kb)) := by rw [hF_828 (qs + 1) (by omega)]; exact f_qs_1
        have hm_864 : M_823 (qs + 2) = some (aZ G 6 (bF nb)) := by rw [hF_828 (qs + 2) (by omega)]; exact f_qs_2
        have hm_865 : M_823 (qs + 3) = some (aI G 6 (nF pb)) := by rw [hF_828 (qs + 3) (by omega)]; exact f_qs_3
        have hm_866 : M_823 (qs + 4) = some (aI G 6 (nF ab)) := by rw [hF_828 (qs + 4) (by omega)]; exact f_qs_4
        have hm_867 : M_823 (qs + 5) = some (aI G 24 (nF rbb)) := by rw [hF_828 (qs + 5) (by omega)]; exact f_qs_5
        have hm_868 : M_823 (qs + 6) = some (aI G 24 (nF tbb)) := by rw [hF_828 (qs + 6) (by omega)]; exact f_qs_6
        have hm_869 : M_823 60 = some (cModel ad tw n jn ao vr sn len pt zs bg fw) := by rw [hF_828 60 (by omega)]; exact f_60
        have hm_870 : M_823 61 = some (aI G 36 (nF le)) := by rw [hF_828 61 (by omega)]; exact f_61
        have hm_871 : M_823 62 = some (aI G 36 (nF mo)) := by rw [hF_828 62 (by omega)]; exact f_62
        have hm_872 : M_823 63 = some (aI G 36 (nF al)) := by rw [hF_828 63 (by omega)]; exact f_63
        have hm_873 : M_823 64 = some (aZ G 6 (bF ho)) := by rw [hF_828 64 (by omega)]; exact f_64
        have hm_874 : M_823 65 = some (aI G 120 (nF mk)) := by rw [hF_828 65 (by omega)]; exact f_65
        have hm_875 : M_823 66 = some (aI G 120 mf) := by rw [hF_828 66 (by omega)]; exact f_66
        have hm_876 : M_823 67 = some (aI G 120 mu) := by rw [hF_828 67 (by omega)]; exact f_67
        have hm_877 : M_823 68 = some (aI G 121 (nF mz)) := by rw [hF_828 68 (by omega)]; exact f_68
        have hm_878 : M_823 69 = some (aI G 726 (nF rr)) := by rw [hF_828 69 (by omega)]; exact f_69
        have hm_879 : M_823 70 = some (aI G 726 (nF ee)) := by rw [hF_828 70 (by omega)]; exact f_70
        have hm_880 : M_823 71 = some (aI G 40 (nF lst)) := by rw [hF_828 71 (by omega)]; exact f_71
        have hm_881 : M_823 72 = some (aI G 40 (nF oa)) := by rw [hF_828 72 (by omega)]; exact f_72
        have hm_882 : M_823 73 = some (aI G 40 (nF ob)) := by rw [hF_828 73 (by omega)]; exact f_73
        have hm_883 : M_823 74 = some (aI G 120 s74) := by rw [hF_828 74 (by omega)]; exact f_74
        have hm_884 : M_823 75 = some (aI G 12 ak) := by rw [hF_828 75 (by omega)]; exact f_75
        have hm_885 : M_823 76 = some (aZ G 12 (bF nm)) := by rw [hF_828 76 (by omega)]; exact f_76
        have hm_886 : M_823 77 = some (aI G 12 (nF ap)) := by rw [hF_828 77 (by omega)]; exact f_77
        have hm_887 : M_823 78 = some (aI G 48 pr) := by rw [hF_828 78 (by omega)]; exact f_78
        have hm_888 : M_823 79 = some (aI G 48 pf) := by rw [hF_828 79 (by omega)]; exact f_79
        have hm_889 : M_823 80 = some (aB G 400 tf) := by rw [hF_828 80 (by omega)]; exact f_80
        have hm_890 : M_823 81 = some (aI G 5 fv) := by rw [hF_828 81 (by omega)]; exact f_81
        have hm_891 : M_823 82 = some (aZ G 384000 (bF tr)) := by rw [hF_828 82 (by omega)]; exact f_82
        have hm_892 : M_823 83 = some (aI G 3 (oF gv)) := by rw [hF_828 83 (by omega)]; exact f_83
        have hm_893 : M_823 84 = some (aI G 3 fo) := by rw [hF_828 84 (by omega)]; exact f_84
        have hm_894 : M_823 85 = some (aZ G 40 (bF re)) := by rw [hF_828 85 (by omega)]; exact f_85
        have hm_895 : M_823 86 = some (aZ G 120 (bF us)) := by rw [hF_828 86 (by omega)]; exact f_86
        have hm_896 : M_823 87 = some (aZ G 120 (bF nx)) := by rw [hF_828 87 (by omega)]; exact f_87
        have hm_897 : M_823 16 = some (cLines ad ) := by rw [hF_828 16 (by omega)]; exact h16
        have hL_898 : LSm G ad M_823 n kd fm to sz rl en := fL.keep (fun j hj => hF_828 j (by omega))
        have hF_899 : ∀ j : Nat, j ≠ 99 → M_823 j = M j := fun j q0 => (hF_828 j q0)
        rw [hr_826]
        refine lv_istore (lv' := [(5, .int (nI 0)), (0, .ref b), (1, .ref (ad 0)), (2, .ref (ad 60)), (3, .ref (ad 99)), (4, .int (nI i))]) hx hb dL_law_862 hl (by decide) rfl (fun ls hl => ?_)
        refine lv_aload_n hx hb dL_law_864 rfl (lv_at hl 3 rfl) ?_
        refine lv_aload_n hx hb dL_law_865 rfl (lv_at hl 1 rfl) ?_
        refine lv_iload hx hb dL_law_866 (lv_at hl 5 rfl) ?_
        refine lv_iconst (v := nI 1) hx hb dL_law_868 (by decide) ?_
        refine lv_iadd hx hb dL_law_869 ?_
        refine n_eq (nI_add i 1) ?_
        refine va_sld (A := fr z) hx hb hX hbl hbz hI.S (vp_in_nI (n := i + 1) (by omega) (by omega)) dL_law_870 ?_
        rw [nI_clamp (by omega)]
        refine n_eq (show _ = nI t1 from et1) ?_
        refine lv_aload_n hx hb dL_law_871 rfl (lv_at hl 1 rfl) ?_
        refine lv_iload hx hb dL_law_872 (lv_at hl 5 rfl) ?_
        refine lv_iconst (v := nI 2) hx hb dL_law_874 (by decide) ?_
        refine lv_iadd hx hb dL_law_875 ?_
        refine n_eq (nI_add i 2) ?_
        refine va_sld (A := fr z) hx hb hX hbl hbz hI.S (vp_in_nI (n := i + 2) (by omega) (by omega)) dL_law_876 ?_
        rw [nI_clamp (by omega)]
        refine n_eq (show _ = nI 3 from et2.trans (congrArg nI hc_330)) ?_
        refine k_Ni (va_runV (As := [.int (nI t1), .int (nI 3)]) (rest := []) ⟨hx, hb, hml, hown, hts⟩ (c_X10_look_3 l G z ad M_823 (th := tw) (on := jn) (ao := ao) (vr := vr) (sn := sn) (tp := len) (pt := pt) (zs := zs) (bg := bg) (fa := fw) (n := n) (kd := kd) (fm := fm) (to := to) (sz := sz) (rl := rl) (en := en) (mk := mk) (mf := mf) (mu := mu) (mz := mz) (rr := rr) (ee := ee) (q := t1) hm_869 hm_874 hm_875 hm_876 hm_877 w1 w2 ht1) (cwV 2 hts (gV (lwg_of t_1193 rfl) (lwg_of t_1194 rfl) (lwg_of t_1195 rfl) (lwg_of t_13 rfl) (lwg_of t_1196 rfl)) rfl rfl rfl (by decide +kernel) ⟨Nat.le_of_ble_eq_true rfl, Nat.le_of_ble_eq_true rfl⟩) (hI.preV hm_869 rfl) rfl rfl hl.1 rfl (lv_room (Nat.le_of_ble_eq_true rfl)) dL_law_877 ⟨(show _ ≤ (601024 : Nat) from by omega), (show _ ≤ (7293034 : Nat) from by omega)⟩) hI (fun r_900 M_902 H_903 locs_904 hp_901 hI => ?_)
        obtain ⟨hr_905, hm_906, hF_907⟩ := hp_901
        have hm_908 : M_902 0 = some (cStore ad qa qs fw) := by rw [hF_907 0 (by omega)]; exact hm_829
        have hm_909 : M_902 1 = some (cTape ad len) := by rw [hF_907 1 (by omega)]; exact hm_830
        have hm_910 : M_902 2 = some (aI G 400 (nF tb)) := by rw [hF_907 2 (by omega)]; exact hm_831
        have hm_911 : M_902 3 = some (cLaws ad ) := by rw [hF_907 3 (by omega)]; exact hm_832
        have hm_912 : M_902 4 = some (aI G 36 (nF le)) := by rw [hF_907 4 (by omega)]; exact hm_833
        have hm_913 : M_902 5 = some (aI G 36 (nF mo)) := by rw [hF_907 5 (by omega)]; exact hm_834
        have hm_914 : M_902 6 = some (aI G 36 (nF al)) := by rw [hF_907 6 (by omega)]; exact hm_835
        have hm_915 : M_902 7 = some (aZ G 6 (bF ho)) := by rw [hF_907 7 (by omega)]; exact hm_836
        have hm_916 : M_902 8 = some (cOnes ad jn) := by rw [hF_907 8 (by omega)]; exact hm_837
        have hm_917 : M_902 9 = some (aI G 40 (nF hg)) := by rw [hF_907 9 (by omega)]; exact hm_838
        have hm_918 : M_902 10 = some (aI G 40 (nF lst)) := by rw [hF_907 10 (by omega)]; exact hm_839
        have hm_919 : M_902 11 = some (aI G 40 (nF jd)) := by rw [hF_907 11 (by omega)]; exact hm_840
        have hm_920 : M_902 12 = some (cEnds ad 12 s0) := by rw [hF_907 12 (by omega)]; exact hm_841
        have hm_921 : M_902 13 = some (aI G 6 (nF r0)) := by rw [hF_907 13 (by omega)]; exact hm_842
        have hm_922 : M_902 14 = some (aI G 6 (oF th)) := by rw [hF_907 14 (by omega)]; exact hm_843
        have hm_923 : M_902 15 = some (aI G 6 (oF ol)) := by rw [hF_907 15 (by omega)]; exact hm_844
        have hm_924 : M_902 19 = some (aZ G 120 (bF mm9)) := by rw [hF_907 19 (by omega)]; exact hm_845
        have hm_925 : M_902 20 = some (aI G 120 ff) := by rw [hF_907 20 (by omega)]; exact hm_846
        have hm_926 : M_902 21 = some (aI G 120 lq) := by rw [hF_907 21 (by omega)]; exact hm_847
        have hm_927 : M_902 22 = some (cReader ad ra rb rt rv) := by rw [hF_907 22 (by omega)]; exact hm_848
        have hm_928 : M_902 23 = some (cMatcher ad qm pz) := by rw [hF_907 23 (by omega)]; exact hm_849
        have hm_929 : M_902 24 = some (aJ G 2160 sx) := by rw [hF_907 24 (by omega)]; exact hm_850
        have hm_930 : M_902 25 = some (aI G 6 (nF ft)) := by rw [hF_907 25 (by omega)]; exact hm_851
        have hm_931 : M_902 26 = some (aJ G 240 rx) := by rw [hF_907 26 (by omega)]; exact hm_852
        have hm_932 : M_902 27 = some (aJ G 3 dm) := by rw [hF_907 27 (by omega)]; exact hm_853
        have hm_933 : M_902 28 = some (aI G 3 rc) := by rw [hF_907 28 (by omega)]; exact hm_854
        have hm_934 : M_902 qa = some (cQuestion ad qa ao vr) := by rw [hF_907 qa (by omega)]; exact hm_855
        have hm_935 : M_902 (qa + 1) = some (aI G 6 (nF kn)) := by rw [hF_907 (qa + 1) (by omega)]; exact hm_856
        have hm_936 : M_902 (qa + 2) = some (aZ G 6 (bF nq)) := by rw [hF_907 (qa + 2) (by omega)]; exact hm_857
        have hm_937 : M_902 (qa + 3) = some (aI G 6 (nF pn)) := by rw [hF_907 (qa + 3) (by omega)]; exact hm_858
        have hm_938 : M_902 (qa + 4) = some (aI G 6 (nF av)) := by rw [hF_907 (qa + 4) (by omega)]; exact hm_859
        have hm_939 : M_902 (qa + 5) = some (aI G 24 (nF ro)) := by rw [hF_907 (qa + 5) (by omega)]; exact hm_860
        have hm_940 : M_902 (qa + 6) = some (aI G 24 (nF te)) := by rw [hF_907 (qa + 6) (by omega)]; exact hm_861
        have hm_941 : M_902 qs = some (cQuestion ad qs sq su) := by rw [hF_907 qs (by omega)]; exact hm_862
        have hm_942 : M_902 (qs + 1) = some (aI G 6 (nF kb)) := by rw [hF_907 (qs + 1) (by omega)]; exact hm_863
        have hm_943 : M_902 (qs + 2) = some (aZ G 6 (bF nb)) := by rw [hF_907 (qs + 2) (by omega)]; exact hm_864
        have hm_944 : M_902 (qs + 3) = some (aI G 6 (nF pb)) := by rw [hF_907 (qs + 3) (by omega)]; exact hm_865
        have hm_945 : M_902 (qs + 4) = some (aI G 6 (nF ab)) := by rw [hF_907 (qs + 4) (by omega)]; exact hm_866
        have hm_946 : M_902 (qs + 5) = some (aI G 24 (nF rbb)) := by rw [hF_907 (qs + 5) (by omega)]; exact hm_867
        have hm_947 : M_902 (qs + 6) = some (aI G 24 (nF tbb)) := by rw [hF_907 (qs + 6) (by omega)]; exact hm_868
        have hm_948 : M_902 61 = some (aI G 36 (nF le)) := by rw [hF_907 61 (by omega)]; exact hm_870
        have hm_949 : M_902 62 = some (aI G 36 (nF mo)) := by rw [hF_907 62 (by omega)]; exact hm_871
        have hm_950 : M_902 63 = some (aI G 36 (nF al)) := by rw [hF_907 63 (by omega)]; exact hm_872
        have hm_951 : M_902 64 = some (aZ G 6 (bF ho)) := by rw [hF_907 64 (by omega)]; exact hm_873
        have hm_952 : M_902 65 = some (aI G 120 (nF mk)) := by rw [hF_907 65 (by omega)]; exact hm_874
        have hm_953 : M_902 66 = some (aI G 120 mf) := by rw [hF_907 66 (by omega)]; exact hm_875
        have hm_954 : M_902 67 = some (aI G 120 mu) := by rw [hF_907 67 (by omega)]; exact hm_876
        have hm_955 : M_902 68 = some (aI G 121 (nF mz)) := by rw [hF_907 68 (by omega)]; exact hm_877
        have hm_956 : M_902 69 = some (aI G 726 (nF rr)) := by rw [hF_907 69 (by omega)]; exact hm_878
        have hm_957 : M_902 70 = some (aI G 726 (nF ee)) := by rw [hF_907 70 (by omega)]; exact hm_879
        have hm_958 : M_902 71 = some (aI G 40 (nF lst)) := by rw [hF_907 71 (by omega)]; exact hm_880
        have hm_959 : M_902 72 = some (aI G 40 (nF oa)) := by rw [hF_907 72 (by omega)]; exact hm_881
        have hm_960 : M_902 73 = some (aI G 40 (nF ob)) := by rw [hF_907 73 (by omega)]; exact hm_882
        have hm_961 : M_902 74 = some (aI G 120 s74) := by rw [hF_907 74 (by omega)]; exact hm_883
        have hm_962 : M_902 75 = some (aI G 12 ak) := by rw [hF_907 75 (by omega)]; exact hm_884
        have hm_963 : M_902 76 = some (aZ G 12 (bF nm)) := by rw [hF_907 76 (by omega)]; exact hm_885
        have hm_964 : M_902 77 = some (aI G 12 (nF ap)) := by rw [hF_907 77 (by omega)]; exact hm_886
        have hm_965 : M_902 78 = some (aI G 48 pr) := by rw [hF_907 78 (by omega)]; exact hm_887
        have hm_966 : M_902 79 = some (aI G 48 pf) := by rw [hF_907 79 (by omega)]; exact hm_888
        have hm_967 : M_902 80 = some (aB G 400 tf) := by rw [hF_907 80 (by omega)]; exact hm_889
        have hm_968 : M_902 81 = some (aI G 5 fv) := by rw [hF_907 81 (by omega)]; exact hm_890
        have hm_969 : M_902 82 = some (aZ G 384000 (bF tr)) := by rw [hF_907 82 (by omega)]; exact hm_891
        have hm_970 : M_902 83 = some (aI G 3 (oF gv)) := by rw [hF_907 83 (by omega)]; exact hm_892
        have hm_971 : M_902 84 = some (aI G 3 fo) := by rw [hF_907 84 (by omega)]; exact hm_893
        have hm_972 : M_902 85 = some (aZ G 40 (bF re)) := by rw [hF_907 85 (by omega)]; exact hm_894
        have hm_973 : M_902 86 = some (aZ G 120 (bF us)) := by rw [hF_907 86 (by omega)]; exact hm_895
        have hm_974 : M_902 87 = some (aZ G 120 (bF nx)) := by rw [hF_907 87 (by omega)]; exact hm_896
        have hm_975 : M_902 99 = some (aJ G 1 (vp_updL of 0 ((nI (sz t1)).toInt64))) := by rw [hF_907 99 (by omega)]; exact hm_827
        have hm_976 : M_902 16 = some (cLines ad ) := by rw [hF_907 16 (by omega)]; exact hm_897
        have hL_977 : LSm G ad M_902 n kd fm to sz rl en := hL_898.keep (fun j hj => hF_907 j (by omega))
        have hF_978 : ∀ j : Nat, j ≠ 99 → j ≠ 60 → M_902 j = M j := fun j q0 q1 => (hF_907 j q1).trans (hF_899 j q0)
        rw [hr_905]
        refine lv_istore (lv' := [(6, .int (nI (sz t1))), (5, .int (nI 0)), (0, .ref b), (1, .ref (ad 0)), (2, .ref (ad 60)), (3, .ref (ad 99)), (4, .int (nI i))]) hx hb dL_law_880 hl (by decide) rfl (fun ls hl => ?_)
        refine lv_aload_n hx hb dL_law_882 rfl (lv_at hl 4 rfl) ?_
        refine k_Ri (va_runV (As := []) (rest := []) ⟨hx, hb, hml, hown, hts⟩ (c_X10_thrown l G z ad M_902 (th := 0) (ln := n) (on := jn) (ao := ao) (vr := vr) (sn := sn) (tp := len) (pt := pt) (zs := zs) (bg := bg) (fa := fw) hm_906) (cwV 0 hts (gV (lwg_of t_997 rfl) (lwg_of t_998 rfl) (lwg_of t_999 rfl) (lwg_of t_13 rfl) (lwg_of t_1000 rfl)) rfl rfl rfl (by decide +kernel) ⟨Nat.le_of_ble_eq_true rfl, Nat.le_of_ble_eq_true rfl⟩) (hI.preV hm_906 rfl) rfl rfl hl.1 rfl (lv_room (Nat.le_of_ble_eq_true rfl)) dL_law_883 ⟨(show _ ≤ (601024 : Nat) from by omega), (show _ ≤ (7293034 : Nat) from by omega)⟩) (fun _ h => h) (fun r_979 hp_980 => ?_)
        rw [hp_980]
        refine lv_iload hx hb dL_law_886 (lv_at hl 1 rfl) ?_
        refine lv_icmp_eq (tgt := 893) hx hb dL_law_888 (by decide) (fun c_981 => ?_) (fun c_981 => ?_)
        · -- 888: nI 0 eq
          refine lv_iload hx hb dL_law_893 (lv_at hl 1 rfl) ?_
          refine lv_if_ne (tgt := 910) hx hb dL_law_895 (by decide) (fun c_982 => ?_) (fun c_982 => ?_)
          · -- 895: nI 0 ne
            exact absurd (by decide) c_982
          · -- 895: nI 0 eq
            refine lv_aload_n hx hb dL_law_898 rfl (lv_at hl 5 rfl) ?_
            refine lv_iconst (v := nI 0) hx hb dL_law_899 (by decide) ?_
            refine h_lald (i := 0) hx hb hI hm_975 (by omega) (by decide) dL_law_900 ?_
            refine n_eql (show _ = (nI (sz t1)).toInt64 from updL_0) ?_
            refine lv_iload hx hb dL_law_901 (lv_at hl 0 rfl) ?_
            refine lv_i2l (v := (nI (sz t1)).toInt64) hx hb dL_law_903 rfl ?_
            refine W.lcmp hx hb dL_law_904 ?_
            refine lv_if_eq (tgt := 910) hx hb dL_law_905 (by decide) (fun c_983 => ?_) (fun c_983 => ?_)
            · -- 905: lg_cmp ((nI (sz t1)).toInt64) ((nI (sz t1)).toInt64) eq
              have c_983 : (nI (sz t1)).toInt64 = (nI (sz t1)).toInt64 := (lg_cmp_eq _ _).mp c_983
              refine lv_goto (tgt := 1333) hx hb dL_law_910 (by decide) ?_
              refine W.widen (k := cz + 10) (n := sy + 300) (by omega) (by omega) ?_
              exact kk ad M_902 H_903 locs_904 ls n kd fm to sz rl en qa qs fw len tb le mo al ho jn hg lst jd s0 r0 th ol e0 mm9 ff lq ra rb rt rv qm pz sx ft rx dm rc ao vr kn nq pn av ro te sq su kb nb pb ab rbb tbb 0 sn pt zs bg mk mf mu mz rr ee oa ob s74 ak nm ap pr pf tf fv tr gv fo re us nx (vp_updL of 0 ((nI (sz t1)).toInt64)) hL_977 w1 w2 w3 w4 w5 w6 w7 w8 w9 w10 w11 w12 w13 w14 w15 w16 w17 w18 w19 w20 w21 w22 w23 w24 w25 w26 w27 w28 w29 (fun h9 => by rw [hF_978 17 (by omega) (by omega), hF_978 18 (by omega) (by omega)]; exact w30 h9) (by rw [hF_978 29 (by omega) (by omega)]; exact w31) (fun j9 h9 => by rw [hF_978 j9 (by omega) (by omega)]; exact w32 j9 h9) hm_908 hm_909 hm_910 hm_911 hm_912 hm_913 hm_914 hm_915 hm_916 hm_917 hm_918 hm_919 hm_920 hm_921 hm_922 hm_923 hm_924 hm_925 hm_926 hm_927 hm_928 hm_929 hm_930 hm_931 hm_932 hm_933 hm_934 hm_935 hm_936 hm_937 hm_938 hm_939 hm_940 hm_941 hm_942 hm_943 hm_944 hm_945 hm_946 hm_947 hm_906 hm_948 hm_949 hm_950 hm_951 hm_952 hm_953 hm_954 hm_955 hm_956 hm_957 hm_958 hm_959 hm_960 hm_961 hm_962 hm_963 hm_964 hm_965 hm_966 hm_967 hm_968 hm_969 hm_970 hm_971 hm_972 hm_973 hm_974 hm_975 hI (lv_sub hl [2, 3, 4, 5, 6] rfl)
            · -- 905: lg_cmp ((nI (sz t1)).toInt64) ((nI (sz t1)).toInt64) ne
              have c_983 : (nI (sz t1)).toInt64 ≠ (nI (sz t1)).toInt64 := (fun h => c_983 ((lg_cmp_eq _ _).mpr h))
              exact absurd rfl c_983
        · -- 888: nI 0 ne
          exact absurd (by decide) c_981
      · skip
        refine lv_iload hx hb dL_law_847 (lv_at hl 4 rfl) ?_
        refine lv_iconst (v := nI 1) hx hb dL_law_849 (by decide) ?_
        refine lv_iadd hx hb dL_law_850 ?_
        refine n_eq (nI_add i 1) ?_
        refine va_sld (A := fr z) hx hb hX hbl hbz hI.S (vp_in_nI (n := i + 1) (by omega) (by omega)) dL_law_851 ?_
        rw [nI_clamp (by omega)]
        refine n_eq (show _ = nI t1 from et1) ?_
        refine lv_aload_n hx hb dL_law_852 rfl (lv_at hl 0 rfl) ?_
        refine lv_iload hx hb dL_law_853 (lv_at hl 4 rfl) ?_
        refine lv_iconst (v := nI 2) hx hb dL_law_855 (by decide) ?_
        refine lv_iadd hx hb dL_law_856 ?_
        refine n_eq (nI_add i 2) ?_
        refine va_sld (A := fr z) hx hb hX hbl hbz hI.S (vp_in_nI (n := i + 2) (by omega) (by omega)) dL_law_857 ?_
        rw [nI_clamp (by omega)]
        refine n_eq (show _ = nI 4 from et2.trans (congrArg nI hc_331)) ?_
        refine lv_aload_n hx hb dL_law_858 rfl (lv_at hl 3 rfl) ?_
        refine k_Ni (vx_runSW (As := [.ref (ad 0), .int (nI t1), .int (nI 4), .ref (ad 99)]) (rest := []) ⟨hx, hb, hml, hown, hts⟩ (c_L_look_4 l hst G z ad M (n := n) (kd := kd) (fm := fm) (to := to) (sz := sz) (rl := rl) (en := en) (qa := qa) (qs := qs) (fw := fw) (q := t1) (of := of) fL f_0 f_99 w1 ht1) (vx_cwSW 4 hts (gSW (lwg_of t_855 rfl) (lwg_of t_856 rfl) (lwg_of t_0 rfl) (lwg_of t_857 rfl)) rfl rfl rfl (by decide +kernel) ⟨Nat.le_of_ble_eq_true rfl, Nat.le_of_ble_eq_true rfl⟩) hI.preS rfl rfl hl.1 rfl (lv_room (Nat.le_of_ble_eq_true rfl)) dL_law_859 ⟨(show _ ≤ (601024 : Nat) from by omega), (show _ ≤ (7293034 : Nat) from by omega)⟩) hI (fun r_984 M_986 H_987 locs_988 hp_985 hI => ?_)
        obtain ⟨hr_989, hm_990, hF_991⟩ := hp_985
        have hm_992 : M_986 0 = some (cStore ad qa qs fw) := by rw [hF_991 0 (by omega)]; exact f_0
        have hm_993 : M_986 1 = some (cTape ad len) := by rw [hF_991 1 (by omega)]; exact f_1
        have hm_994 : M_986 2 = some (aI G 400 (nF tb)) := by rw [hF_991 2 (by omega)]; exact f_2
        have hm_995 : M_986 3 = some (cLaws ad ) := by rw [hF_991 3 (by omega)]; exact f_3
        have hm_996 : M_986 4 = some (aI G 36 (nF le)) := by rw [hF_991 4 (by omega)]; exact f_4
        have hm_997 : M_986 5 = some (aI G 36 (nF mo)) := by rw [hF_991 5 (by omega)]; exact f_5
        have hm_998 : M_986 6 = some (aI G 36 (nF al)) := by rw [hF_991 6 (by omega)]; exact f_6
        have hm_999 : M_986 7 = some (aZ G 6 (bF ho)) := by rw [hF_991 7 (by omega)]; exact f_7
        have hm_1000 : M_986 8 = some (cOnes ad jn) := by rw [hF_991 8 (by omega)]; exact f_8
        have hm_1001 : M_986 9 = some (aI G 40 (nF hg)) := by rw [hF_991 9 (by omega)]; exact f_9
        have hm_1002 : M_986 10 = some (aI G 40 (nF lst)) := by rw [hF_991 10 (by omega)]; exact f_10
        have hm_1003 : M_986 11 = some (aI G 40 (nF jd)) := by rw [hF_991 11 (by omega)]; exact f_11
        have hm_1004 : M_986 12 = some (cEnds ad 12 s0) := by rw [hF_991 12 (by omega)]; exact f_12
        have hm_1005 : M_986 13 = some (aI G 6 (nF r0)) := by rw [hF_991 13 (by omega)]; exact f_13
        have hm_1006 : M_986 14 = some (aI G 6 (oF th)) := by rw [hF_991 14 (by omega)]; exact f_14
        have hm_1007 : M_986 15 = some (aI G 6 (oF ol)) := by rw [hF_991 15 (by omega)]; exact f_15
        have hm_1008 : M_986 19 = some (aZ G 120 (bF mm9)) := by rw [hF_991 19 (by omega)]; exact f_19
        have hm_1009 : M_986 20 = some (aI G 120 ff) := by rw [hF_991 20 (by omega)]; exact f_20
        have hm_1010 : M_986 21 = some (aI G 120 lq) := by rw [hF_991 21 (by omega)]; exact f_21
        have hm_1011 : M_986 22 = some (cReader ad ra rb rt rv) := by rw [hF_991 22 (by omega)]; exact f_22
        have hm_1012 : M_986 23 = some (cMatcher ad qm pz) := by rw [hF_991 23 (by omega)]; exact f_23
        have hm_1013 : M_986 24 = some (aJ G 2160 sx) := by rw [hF_991 24 (by omega)]; exact f_24
        have hm_1014 : M_986 25 = some (aI G 6 (nF ft)) := by rw [hF_991 25 (by omega)]; exact f_25
        have hm_1015 : M_986 26 = some (aJ G 240 rx) := by rw [hF_991 26 (by omega)]; exact f_26
        have hm_1016 : M_986 27 = some (aJ G 3 dm) := by rw [hF_991 27 (by omega)]; exact f_27
        have hm_1017 : M_986 28 = some (aI G 3 rc) := by rw [hF_991 28 (by omega)]; exact f_28
        have hm_1018 : M_986 qa = some (cQuestion ad qa ao vr) := by rw [hF_991 qa (by omega)]; exact f_qa
        have hm_1019 : M_986 (qa + 1) = some (aI G 6 (nF kn)) := by rw [hF_991 (qa + 1) (by omega)]; exact f_qa_1
        have hm_1020 : M_986 (qa + 2) = some (aZ G 6 (bF nq)) := by rw [hF_991 (qa + 2) (by omega)]; exact f_qa_2
        have hm_1021 : M_986 (qa + 3) = some (aI G 6 (nF pn)) := by rw [hF_991 (qa + 3) (by omega)]; exact f_qa_3
        have hm_1022 : M_986 (qa + 4) = some (aI G 6 (nF av)) := by rw [hF_991 (qa + 4) (by omega)]; exact f_qa_4
        have hm_1023 : M_986 (qa + 5) = some (aI G 24 (nF ro)) := by rw [hF_991 (qa + 5) (by omega)]; exact f_qa_5
        have hm_1024 : M_986 (qa + 6) = some (aI G 24 (nF te)) := by rw [hF_991 (qa + 6) (by omega)]; exact f_qa_6
        have hm_1025 : M_986 qs = some (cQuestion ad qs sq su) := by rw [hF_991 qs (by omega)]; exact f_qs
        have hm_1026 : M_986 (qs + 1) = some (aI G 6 (nF kb)) := by rw [hF_991 (qs + 1) (by omega)]; exact f_qs_1
        have hm_1027 : M_986 (qs + 2) = some (aZ G 6 (bF nb)) := by rw [hF_991 (qs + 2) (by omega)]; exact f_qs_2
        have hm_1028 : M_986 (qs + 3) = some (aI G 6 (nF pb)) := by rw [hF_991 (qs + 3) (by omega)]; exact f_qs_3
        have hm_1029 : M_986 (qs + 4) = some (aI G 6 (nF ab)) := by rw [hF_991 (qs + 4) (by omega)]; exact f_qs_4
        have hm_1030 : M_986 (qs + 5) = some (aI G 24 (nF rbb)) := by rw [hF_991 (qs + 5) (by omega)]; exact f_qs_5
        have hm_1031 : M_986 (qs + 6) = some (aI G 24 (nF tbb)) := by rw [hF_991 (qs + 6) (by omega)]; exact f_qs_6
        have hm_1032 : M_986 60 = some (cModel ad tw n jn ao vr sn len pt zs bg fw) := by rw [hF_991 60 (by omega)]; exact f_60
        have hm_1033 : M_986 61 = some (aI G 36 (nF le)) := by rw [hF_991 61 (by omega)]; exact f_61
        have hm_1034 : M_986 62 = some (aI G 36 (nF mo)) := by rw [hF_991 62 (by omega)]; exact f_62
        have hm_1035 : M_986 63 = some (aI G 36 (nF al)) := by rw [hF_991 63 (by omega)]; exact f_63
        have hm_1036 : M_986 64 = some (aZ G 6 (bF ho)) := by rw [hF_991 64 (by omega)]; exact f_64
        have hm_1037 : M_986 65 = some (aI G 120 (nF mk)) := by rw [hF_991 65 (by omega)]; exact f_65
        have hm_1038 : M_986 66 = some (aI G 120 mf) := by rw [hF_991 66 (by omega)]; exact f_66
        have hm_1039 : M_986 67 = some (aI G 120 mu) := by rw [hF_991 67 (by omega)]; exact f_67
        have hm_1040 : M_986 68 = some (aI G 121 (nF mz)) := by rw [hF_991 68 (by omega)]; exact f_68
        have hm_1041 : M_986 69 = some (aI G 726 (nF rr)) := by rw [hF_991 69 (by omega)]; exact f_69
        have hm_1042 : M_986 70 = some (aI G 726 (nF ee)) := by rw [hF_991 70 (by omega)]; exact f_70
        have hm_1043 : M_986 71 = some (aI G 40 (nF lst)) := by rw [hF_991 71 (by omega)]; exact f_71
        have hm_1044 : M_986 72 = some (aI G 40 (nF oa)) := by rw [hF_991 72 (by omega)]; exact f_72
        have hm_1045 : M_986 73 = some (aI G 40 (nF ob)) := by rw [hF_991 73 (by omega)]; exact f_73
        have hm_1046 : M_986 74 = some (aI G 120 s74) := by rw [hF_991 74 (by omega)]; exact f_74
        have hm_1047 : M_986 75 = some (aI G 12 ak) := by rw [hF_991 75 (by omega)]; exact f_75
        have hm_1048 : M_986 76 = some (aZ G 12 (bF nm)) := by rw [hF_991 76 (by omega)]; exact f_76
        have hm_1049 : M_986 77 = some (aI G 12 (nF ap)) := by rw [hF_991 77 (by omega)]; exact f_77
        have hm_1050 : M_986 78 = some (aI G 48 pr) := by rw [hF_991 78 (by omega)]; exact f_78
        have hm_1051 : M_986 79 = some (aI G 48 pf) := by rw [hF_991 79 (by omega)]; exact f_79
        have hm_1052 : M_986 80 = some (aB G 400 tf) := by rw [hF_991 80 (by omega)]; exact f_80
        have hm_1053 : M_986 81 = some (aI G 5 fv) := by rw [hF_991 81 (by omega)]; exact f_81
        have hm_1054 : M_986 82 = some (aZ G 384000 (bF tr)) := by rw [hF_991 82 (by omega)]; exact f_82
        have hm_1055 : M_986 83 = some (aI G 3 (oF gv)) := by rw [hF_991 83 (by omega)]; exact f_83
        have hm_1056 : M_986 84 = some (aI G 3 fo) := by rw [hF_991 84 (by omega)]; exact f_84
        have hm_1057 : M_986 85 = some (aZ G 40 (bF re)) := by rw [hF_991 85 (by omega)]; exact f_85
        have hm_1058 : M_986 86 = some (aZ G 120 (bF us)) := by rw [hF_991 86 (by omega)]; exact f_86
        have hm_1059 : M_986 87 = some (aZ G 120 (bF nx)) := by rw [hF_991 87 (by omega)]; exact f_87
        have hm_1060 : M_986 16 = some (cLines ad ) := by rw [hF_991 16 (by omega)]; exact h16
        have hL_1061 : LSm G ad M_986 n kd fm to sz rl en := fL.keep (fun j hj => hF_991 j (by omega))
        have hF_1062 : ∀ j : Nat, j ≠ 99 → M_986 j = M j := fun j q0 => (hF_991 j q0)
        rw [hr_989]
        refine lv_istore (lv' := [(5, .int (nI 0)), (0, .ref b), (1, .ref (ad 0)), (2, .ref (ad 60)), (3, .ref (ad 99)), (4, .int (nI i))]) hx hb dL_law_862 hl (by decide) rfl (fun ls hl => ?_)
        refine lv_aload_n hx hb dL_law_864 rfl (lv_at hl 3 rfl) ?_
        refine lv_aload_n hx hb dL_law_865 rfl (lv_at hl 1 rfl) ?_
        refine lv_iload hx hb dL_law_866 (lv_at hl 5 rfl) ?_
        refine lv_iconst (v := nI 1) hx hb dL_law_868 (by decide) ?_
        refine lv_iadd hx hb dL_law_869 ?_
        refine n_eq (nI_add i 1) ?_
        refine va_sld (A := fr z) hx hb hX hbl hbz hI.S (vp_in_nI (n := i + 1) (by omega) (by omega)) dL_law_870 ?_
        rw [nI_clamp (by omega)]
        refine n_eq (show _ = nI t1 from et1) ?_
        refine lv_aload_n hx hb dL_law_871 rfl (lv_at hl 1 rfl) ?_
        refine lv_iload hx hb dL_law_872 (lv_at hl 5 rfl) ?_
        refine lv_iconst (v := nI 2) hx hb dL_law_874 (by decide) ?_
        refine lv_iadd hx hb dL_law_875 ?_
        refine n_eq (nI_add i 2) ?_
        refine va_sld (A := fr z) hx hb hX hbl hbz hI.S (vp_in_nI (n := i + 2) (by omega) (by omega)) dL_law_876 ?_
        rw [nI_clamp (by omega)]
        refine n_eq (show _ = nI 4 from et2.trans (congrArg nI hc_331)) ?_
        refine k_Ni (va_runV (As := [.int (nI t1), .int (nI 4)]) (rest := []) ⟨hx, hb, hml, hown, hts⟩ (c_X10_look_4 l G z ad M_986 (th := tw) (on := jn) (ao := ao) (vr := vr) (sn := sn) (tp := len) (pt := pt) (zs := zs) (bg := bg) (fa := fw) (n := n) (kd := kd) (fm := fm) (to := to) (sz := sz) (rl := rl) (en := en) (mk := mk) (mf := mf) (mu := mu) (mz := mz) (rr := rr) (ee := ee) (q := t1) hm_1032 hm_1037 hm_1038 hm_1039 hm_1040 hm_1041 hm_1042 w1 w2 ht1) (cwV 2 hts (gV (lwg_of t_1193 rfl) (lwg_of t_1194 rfl) (lwg_of t_1195 rfl) (lwg_of t_13 rfl) (lwg_of t_1196 rfl)) rfl rfl rfl (by decide +kernel) ⟨Nat.le_of_ble_eq_true rfl, Nat.le_of_ble_eq_true rfl⟩) (hI.preV hm_1032 rfl) rfl rfl hl.1 rfl (lv_room (Nat.le_of_ble_eq_true rfl)) dL_law_877 ⟨(show _ ≤ (601024 : Nat) from by omega), (show _ ≤ (7293034 : Nat) from by omega)⟩) hI (fun r_1063 M_1065 H_1066 locs_1067 hp_1064 hI => ?_)
        obtain ⟨hr_1068, hm_1069, hF_1070⟩ := hp_1064
        have hm_1071 : M_1065 0 = some (cStore ad qa qs fw) := by rw [hF_1070 0 (by omega)]; exact hm_992
        have hm_1072 : M_1065 1 = some (cTape ad len) := by rw [hF_1070 1 (by omega)]; exact hm_993
        have hm_1073 : M_1065 2 = some (aI G 400 (nF tb)) := by rw [hF_1070 2 (by omega)]; exact hm_994
        have hm_1074 : M_1065 3 = some (cLaws ad ) := by rw [hF_1070 3 (by omega)]; exact hm_995
        have hm_1075 : M_1065 4 = some (aI G 36 (nF le)) := by rw [hF_1070 4 (by omega)]; exact hm_996
        have hm_1076 : M_1065 5 = some (aI G 36 (nF mo)) := by rw [hF_1070 5 (by omega)]; exact hm_997
        have hm_1077 : M_1065 6 = some (aI G 36 (nF al)) := by rw [hF_1070 6 (by omega)]; exact hm_998
        have hm_1078 : M_1065 7 = some (aZ G 6 (bF ho)) := by rw [hF_1070 7 (by omega)]; exact hm_999
        have hm_1079 : M_1065 8 = some (cOnes ad jn) := by rw [hF_1070 8 (by omega)]; exact hm_1000
        have hm_1080 : M_1065 9 = some (aI G 40 (nF hg)) := by rw [hF_1070 9 (by omega)]; exact hm_1001
        have hm_1081 : M_1065 10 = some (aI G 40 (nF lst)) := by rw [hF_1070 10 (by omega)]; exact hm_1002
        have hm_1082 : M_1065 11 = some (aI G 40 (nF jd)) := by rw [hF_1070 11 (by omega)]; exact hm_1003
        have hm_1083 : M_1065 12 = some (cEnds ad 12 s0) := by rw [hF_1070 12 (by omega)]; exact hm_1004
        have hm_1084 : M_1065 13 = some (aI G 6 (nF r0)) := by rw [hF_1070 13 (by omega)]; exact hm_1005
        have hm_1085 : M_1065 14 = some (aI G 6 (oF th)) := by rw [hF_1070 14 (by omega)]; exact hm_1006
        have hm_1086 : M_1065 15 = some (aI G 6 (oF ol)) := by rw [hF_1070 15 (by omega)]; exact hm_1007
        have hm_1087 : M_1065 19 = some (aZ G 120 (bF mm9)) := by rw [hF_1070 19 (by omega)]; exact hm_1008
        have hm_1088 : M_1065 20 = some (aI G 120 ff) := by rw [hF_1070 20 (by omega)]; exact hm_1009
        have hm_1089 : M_1065 21 = some (aI G 120 lq) := by rw [hF_1070 21 (by omega)]; exact hm_1010
        have hm_1090 : M_1065 22 = some (cReader ad ra rb rt rv) := by rw [hF_1070 22 (by omega)]; exact hm_1011
        have hm_1091 : M_1065 23 = some (cMatcher ad qm pz) := by rw [hF_1070 23 (by omega)]; exact hm_1012
        have hm_1092 : M_1065 24 = some (aJ G 2160 sx) := by rw [hF_1070 24 (by omega)]; exact hm_1013
        have hm_1093 : M_1065 25 = some (aI G 6 (nF ft)) := by rw [hF_1070 25 (by omega)]; exact hm_1014
        have hm_1094 : M_1065 26 = some (aJ G 240 rx) := by rw [hF_1070 26 (by omega)]; exact hm_1015
        have hm_1095 : M_1065 27 = some (aJ G 3 dm) := by rw [hF_1070 27 (by omega)]; exact hm_1016
        have hm_1096 : M_1065 28 = some (aI G 3 rc) := by rw [hF_1070 28 (by omega)]; exact hm_1017
        have hm_1097 : M_1065 qa = some (cQuestion ad qa ao vr) := by rw [hF_1070 qa (by omega)]; exact hm_1018
        have hm_1098 : M_1065 (qa + 1) = some (aI G 6 (nF kn)) := by rw [hF_1070 (qa + 1) (by omega)]; exact hm_1019
        have hm_1099 : M_1065 (qa + 2) = some (aZ G 6 (bF nq)) := by rw [hF_1070 (qa + 2) (by omega)]; exact hm_1020
        have hm_1100 : M_1065 (qa + 3) = some (aI G 6 (nF pn)) := by rw [hF_1070 (qa + 3) (by omega)]; exact hm_1021
        have hm_1101 : M_1065 (qa + 4) = some (aI G 6 (nF av)) := by rw [hF_1070 (qa + 4) (by omega)]; exact hm_1022
        have hm_1102 : M_1065 (qa + 5) = some (aI G 24 (nF ro)) := by rw [hF_1070 (qa + 5) (by omega)]; exact hm_1023
        have hm_1103 : M_1065 (qa + 6) = some (aI G 24 (nF te)) := by rw [hF_1070 (qa + 6) (by omega)]; exact hm_1024
        have hm_1104 : M_1065 qs = some (cQuestion ad qs sq su) := by rw [hF_1070 qs (by omega)]; exact hm_1025
        have hm_1105 : M_1065 (qs + 1) = some (aI G 6 (nF kb)) := by rw [hF_1070 (qs + 1) (by omega)]; exact hm_1026
        have hm_1106 : M_1065 (qs + 2) = some (aZ G 6 (bF nb)) := by rw [hF_1070 (qs + 2) (by omega)]; exact hm_1027
        have hm_1107 : M_1065 (qs + 3) = some (aI G 6 (nF pb)) := by rw [hF_1070 (qs + 3) (by omega)]; exact hm_1028
        have hm_1108 : M_1065 (qs + 4) = some (aI G 6 (nF ab)) := by rw [hF_1070 (qs + 4) (by omega)]; exact hm_1029
        have hm_1109 : M_1065 (qs + 5) = some (aI G 24 (nF rbb)) := by rw [hF_1070 (qs + 5) (by omega)]; exact hm_1030
        have hm_1110 : M_1065 (qs + 6) = some (aI G 24 (nF tbb)) := by rw [hF_1070 (qs + 6) (by omega)]; exact hm_1031
        have hm_1111 : M_1065 61 = some (aI G 36 (nF le)) := by rw [hF_1070 61 (by omega)]; exact hm_1033
        have hm_1112 : M_1065 62 = some (aI G 36 (nF mo)) := by rw [hF_1070 62 (by omega)]; exact hm_1034
        have hm_1113 : M_1065 63 = some (aI G 36 (nF al)) := by rw [hF_1070 63 (by omega)]; exact hm_1035
        have hm_1114 : M_1065 64 = some (aZ G 6 (bF ho)) := by rw [hF_1070 64 (by omega)]; exact hm_1036
        have hm_1115 : M_1065 65 = some (aI G 120 (nF mk)) := by rw [hF_1070 65 (by omega)]; exact hm_1037
        have hm_1116 : M_1065 66 = some (aI G 120 mf) := by rw [hF_1070 66 (by omega)]; exact hm_1038
        have hm_1117 : M_1065 67 = some (aI G 120 mu) := by rw [hF_1070 67 (by omega)]; exact hm_1039
        have hm_1118 : M_1065 68 = some (aI G 121 (nF mz)) := by rw [hF_1070 68 (by omega)]; exact hm_1040
        have hm_1119 : M_1065 69 = some (aI G 726 (nF rr)) := by rw [hF_1070 69 (by omega)]; exact hm_1041
        have hm_1120 : M_1065 70 = some (aI G 726 (nF ee)) := by rw [hF_1070 70 (by omega)]; exact hm_1042
        have hm_1121 : M_1065 71 = some (aI G 40 (nF lst)) := by rw [hF_1070 71 (by omega)]; exact hm_1043
        have hm_1122 : M_1065 72 = some (aI G 40 (nF oa)) := by rw [hF_1070 72 (by omega)]; exact hm_1044
        have hm_1123 : M_1065 73 = some (aI G 40 (nF ob)) := by rw [hF_1070 73 (by omega)]; exact hm_1045
        have hm_1124 : M_1065 74 = some (aI G 120 s74) := by rw [hF_1070 74 (by omega)]; exact hm_1046
        have hm_1125 : M_1065 75 = some (aI G 12 ak) := by rw [hF_1070 75 (by omega)]; exact hm_1047
        have hm_1126 : M_1065 76 = some (aZ G 12 (bF nm)) := by rw [hF_1070 76 (by omega)]; exact hm_1048
        have hm_1127 : M_1065 77 = some (aI G 12 (nF ap)) := by rw [hF_1070 77 (by omega)]; exact hm_1049
        have hm_1128 : M_1065 78 = some (aI G 48 pr) := by rw [hF_1070 78 (by omega)]; exact hm_1050
        have hm_1129 : M_1065 79 = some (aI G 48 pf) := by rw [hF_1070 79 (by omega)]; exact hm_1051
        have hm_1130 : M_1065 80 = some (aB G 400 tf) := by rw [hF_1070 80 (by omega)]; exact hm_1052
        have hm_1131 : M_1065 81 = some (aI G 5 fv) := by rw [hF_1070 81 (by omega)]; exact hm_1053
        have hm_1132 : M_1065 82 = some (aZ G 384000 (bF tr)) := by rw [hF_1070 82 (by omega)]; exact hm_1054
        have hm_1133 : M_1065 83 = some (aI G 3 (oF gv)) := by rw [hF_1070 83 (by omega)]; exact hm_1055
        have hm_1134 : M_1065 84 = some (aI G 3 fo) := by rw [hF_1070 84 (by omega)]; exact hm_1056
        have hm_1135 : M_1065 85 = some (aZ G 40 (bF re)) := by rw [hF_1070 85 (by omega)]; exact hm_1057
        have hm_1136 : M_1065 86 = some (aZ G 120 (bF us)) := by rw [hF_1070 86 (by omega)]; exact hm_1058
        have hm_1137 : M_1065 87 = some (aZ G 120 (bF nx)) := by rw [hF_1070 87 (by omega)]; exact hm_1059
        have hm_1138 : M_1065 99 = some (aJ G 1 (vp_updL of 0 ((nI (cntB (hgO sz en t1) n)).toInt64))) := by rw [hF_1070 99 (by omega)]; exact hm_990
        have hm_1139 : M_1065 16 = some (cLines ad ) := by rw [hF_1070 16 (by omega)]; exact hm_1060
        have hL_1140 : LSm G ad M_1065 n kd fm to sz rl en := hL_1061.keep (fun j hj => hF_1070 j (by omega))
        have hF_1141 : ∀ j : Nat, j ≠ 99 → j ≠ 60 → M_1065 j = M j := fun j q0 q1 => (hF_1070 j q1).trans (hF_1062 j q0)
        rw [hr_1068]
        refine lv_istore (lv' := [(6, .int (nI (cntB (hgO sz en t1) n))), (5, .int (nI 0)), (0, .ref b), (1, .ref (ad 0)), (2, .ref (ad 60)), (3, .ref (ad 99)), (4, .int (nI i))]) hx hb dL_law_880 hl (by decide) rfl (fun ls hl => ?_)
        refine lv_aload_n hx hb dL_law_882 rfl (lv_at hl 4 rfl) ?_
        refine k_Ri (va_runV (As := []) (rest := []) ⟨hx, hb, hml, hown, hts⟩ (c_X10_thrown l G z ad M_1065 (th := 0) (ln := n) (on := jn) (ao := ao) (vr := vr) (sn := sn) (tp := len) (pt := pt) (zs := zs) (bg := bg) (fa := fw) hm_1069) (cwV 0 hts (gV (lwg_of t_997 rfl) (lwg_of t_998 rfl) (lwg_of t_999 rfl) (lwg_of t_13 rfl) (lwg_of t_1000 rfl)) rfl rfl rfl (by decide +kernel) ⟨Nat.le_of_ble_eq_true rfl, Nat.le_of_ble_eq_true rfl⟩) (hI.preV hm_1069 rfl) rfl rfl hl.1 rfl (lv_room (Nat.le_of_ble_eq_true rfl)) dL_law_883 ⟨(show _ ≤ (601024 : Nat) from by omega), (show _ ≤ (7293034 : Nat) from by omega)⟩) (fun _ h => h) (fun r_1142 hp_1143 => ?_)
        rw [hp_1143]
        refine lv_iload hx hb dL_law_886 (lv_at hl 1 rfl) ?_
        refine lv_icmp_eq (tgt := 893) hx hb dL_law_888 (by decide) (fun c_1144 => ?_) (fun c_1144 => ?_)
        · -- 888: nI 0 eq
          refine lv_iload hx hb dL_law_893 (lv_at hl 1 rfl) ?_
          refine lv_if_ne (tgt := 910) hx hb dL_law_895 (by decide) (fun c_1145 => ?_) (fun c_1145 => ?_)
          · -- 895: nI 0 ne
            exact absurd (by decide) c_1145
          · -- 895: nI 0 eq
            refine lv_aload_n hx hb dL_law_898 rfl (lv_at hl 5 rfl) ?_
            refine lv_iconst (v := nI 0) hx hb dL_law_899 (by decide) ?_
            refine h_lald (i := 0) hx hb hI hm_1138 (by omega) (by decide) dL_law_900 ?_
            refine n_eql (show _ = (nI (cntB (hgO sz en t1) n)).toInt64 from updL_0) ?_
            refine lv_iload hx hb dL_law_901 (lv_at hl 0 rfl) ?_
            refine lv_i2l (v := (nI (cntB (hgO sz en t1) n)).toInt64) hx hb dL_law_903 rfl ?_
            refine W.lcmp hx hb dL_law_904 ?_
            refine lv_if_eq (tgt := 910) hx hb dL_law_905 (by decide) (fun c_1146 => ?_) (fun c_1146 => ?_)
            · -- 905: lg_cmp ((nI (cntB (hgO sz en t1) n)).toInt64) ((nI (cntB (hg eq
              have c_1146 : (nI (cntB (hgO sz en t1) n)).toInt64 = (nI (cntB (hgO sz en t1) n)).toInt64 := (lg_cmp_eq _ _).mp c_1146
              refine lv_goto (tgt := 1333) hx hb dL_law_910 (by decide) ?_
              refine W.widen (k := cz + 10) (n := sy + 300) (by omega) (by omega) ?_
              exact kk ad M_1065 H_1066 locs_1067 ls n kd fm to sz rl en qa qs fw len tb le mo al ho jn hg lst jd s0 r0 th ol e0 mm9 ff lq ra rb rt rv qm pz sx ft rx dm rc ao vr kn nq pn av ro te sq su kb nb pb ab rbb tbb 0 sn pt zs bg mk mf mu mz rr ee oa ob s74 ak nm ap pr pf tf fv tr gv fo re us nx (vp_updL of 0 ((nI (cntB (hgO sz en t1) n)).toInt64)) hL_1140 w1 w2 w3 w4 w5 w6 w7 w8 w9 w10 w11 w12 w13 w14 w15 w16 w17 w18 w19 w20 w21 w22 w23 w24 w25 w26 w27 w28 w29 (fun h9 => by rw [hF_1141 17 (by omega) (by omega), hF_1141 18 (by omega) (by omega)]; exact w30 h9) (by rw [hF_1141 29 (by omega) (by omega)]; exact w31) (fun j9 h9 => by rw [hF_1141 j9 (by omega) (by omega)]; exact w32 j9 h9) hm_1071 hm_1072 hm_1073 hm_1074 hm_1075 hm_1076 hm_1077 hm_1078 hm_1079 hm_1080 hm_1081 hm_1082 hm_1083 hm_1084 hm_1085 hm_1086 hm_1087 hm_1088 hm_1089 hm_1090 hm_1091 hm_1092 hm_1093 hm_1094 hm_1095 hm_1096 hm_1097 hm_1098 hm_1099 hm_1100 hm_1101 hm_1102 hm_1103 hm_1104 hm_1105 hm_1106 hm_1107 hm_1108 hm_1109 hm_1110 hm_1069 hm_1111 hm_1112 hm_1113 hm_1114 hm_1115 hm_1116 hm_1117 hm_1118 hm_1119 hm_1120 hm_1121 hm_1122 hm_1123 hm_1124 hm_1125 hm_1126 hm_1127 hm_1128 hm_1129 hm_1130 hm_1131 hm_1132 hm_1133 hm_1134 hm_1135 hm_1136 hm_1137 hm_1138 hI (lv_sub hl [2, 3, 4, 5, 6] rfl)
            · -- 905: lg_cmp ((nI (cntB (hgO sz en t1) n)).toInt64) ((nI (cntB (hg ne
              have c_1146 : (nI (cntB (hgO sz en t1) n)).toInt64 ≠ (nI (cntB (hgO sz en t1) n)).toInt64 := (fun h => c_1146 ((lg_cmp_eq _ _).mpr h))
              exact absurd rfl c_1146
        · -- 888: nI 0 ne
          exact absurd (by decide) c_1144
