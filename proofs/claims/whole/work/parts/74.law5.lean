theorem shr_toInt (x y : Int32) (s : Nat) (hs : (y.toBitVec.smod 32).toNat = s) : (x >>> y).toInt = x.toInt / 2 ^ s := by
  subst hs
  show (BitVec.sshiftRight x.toBitVec (y.toBitVec.smod 32).toNat).toInt = _
  rw [BitVec.toInt_sshiftRight, Int.shiftRight_eq_div_pow]
  rfl
theorem by8_md (x : Int32) (s : Nat) (hs : s = 0 ∨ s = 8 ∨ s = 16 ∨ s = 24) : (x.toInt / 2 ^ s) % 256 = ((by8 x s : Nat) : Int) := by
  have h1 : x.toInt = x.toBitVec.toInt := rfl
  rw [h1, BitVec.toInt_eq_toNat_cond]
  unfold by8
  have h2 := x.toBitVec.isLt
  generalize x.toBitVec.toNat = X at *
  rcases hs with rfl | rfl | rfl | rfl <;> split <;> simp <;> omega
theorem fy_by (x y : Int32) (s : Nat) (hs : (y.toBitVec.smod 32).toNat = s) (h4 : s = 0 ∨ s = 8 ∨ s = 16 ∨ s = 24) : (x >>> y).toInt8.toInt32 = sB (by8 x s) := by
  unfold sB
  refine congrArg Int8.toInt32 (Int8.toInt_inj.mp ?_)
  have hb := by8_lt x s
  rw [Int32.toInt_toInt8, Int32.toInt_toInt8, nI_toInt (by omega), shr_toInt x y s hs, ← by8_md x s h4]
  exact (Int.emod_bmod _ 256).symm
theorem ad20_at (tb : Nat → Nat) (len : Nat) (h : Nat → Int32) (x1 x2 x3 x4 x5 : Int32) (k : Nat) (hk : k < 20) : ad20 tb len x1 x2 x3 x4 x5 (len + k) = by8 ((upd (upd (upd (upd (upd h 0 x1) 1 x2) 2 x3) 3 x4) 4 x5) (k / 4)) (24 - 8 * (k % 4)) := by
  have e : k = 0 ∨ k = 1 ∨ k = 2 ∨ k = 3 ∨ k = 4 ∨ k = 5 ∨ k = 6 ∨ k = 7 ∨ k = 8 ∨ k = 9 ∨ k = 10 ∨ k = 11 ∨ k = 12 ∨ k = 13 ∨ k = 14 ∨ k = 15 ∨ k = 16 ∨ k = 17 ∨ k = 18 ∨ k = 19 := by omega
  rcases e with rfl | rfl | rfl | rfl | rfl | rfl | rfl | rfl | rfl | rfl | rfl | rfl | rfl | rfl | rfl | rfl | rfl | rfl | rfl | rfl <;> first | (simp [ad20, ad4, va_up, upd]; done) | simp [ad20, ad4, va_up, upd, Nat.add_assoc]
theorem fyB_sB (tb : Nat → Nat) (len : Nat) (h : Nat → Int32) (x1 x2 x3 x4 x5 : Int32) (k : Nat) (hk : k < 20) : fyB (upd (upd (upd (upd (upd h 0 x1) 1 x2) 2 x3) 3 x4) 4 x5) k = sB (ad20 tb len x1 x2 x3 x4 x5 (len + k)) := by
  rw [ad20_at tb len h x1 x2 x3 x4 x5 k hk]
  have e : k % 4 = 0 ∨ k % 4 = 1 ∨ k % 4 = 2 ∨ k % 4 = 3 := by omega
  unfold fyB
  rcases e with e | e | e | e <;> rw [e] <;> exact fy_by _ _ _ (by decide) (by decide)
theorem ad20_lo (tb : Nat → Nat) (len : Nat) (x1 x2 x3 x4 x5 : Int32) (j : Nat) (hj : j < len) : ad20 tb len x1 x2 x3 x4 x5 j = tb j := by
  unfold ad20 ad4
  rw [va_up_ne _ _ (by omega), va_up_ne _ _ (by omega), va_up_ne _ _ (by omega), va_up_ne _ _ (by omega), va_up_ne _ _ (by omega), va_up_ne _ _ (by omega), va_up_ne _ _ (by omega), va_up_ne _ _ (by omega), va_up_ne _ _ (by omega), va_up_ne _ _ (by omega), va_up_ne _ _ (by omega), va_up_ne _ _ (by omega), va_up_ne _ _ (by omega), va_up_ne _ _ (by omega), va_up_ne _ _ (by omega), va_up_ne _ _ (by omega), va_up_ne _ _ (by omega), va_up_ne _ _ (by omega), va_up_ne _ _ (by omega), va_up_ne _ _ (by omega)]
theorem ad20_256 (tb : Nat → Nat) (len : Nat) (x1 x2 x3 x4 x5 : Int32) (h : ∀ j, j < len → tb j < 256) (j : Nat) (hj : j < len + 20) : ad20 tb len x1 x2 x3 x4 x5 j < 256 := by
  by_cases e : j < len
  · rw [ad20_lo _ _ _ _ _ _ _ _ e]; exact h j e
  · obtain ⟨k, rfl⟩ : ∃ k, j = len + k := ⟨j - len, by omega⟩
    rw [ad20_at tb len (fun _ => 0) x1 x2 x3 x4 x5 k (by omega)]
    exact by8_lt _ _
theorem ad20_sB {tb : Nat → Nat} {len : Nat} {h tf f2 : Nat → Int32} {x1 x2 x3 x4 x5 : Int32} (hf : ∀ j, j < len → tf j = sB (tb j)) (hp : (∀ j, j < len → f2 j = tf j) ∧ ∀ k, k < 20 → f2 (len + k) = fyB (upd (upd (upd (upd (upd h 0 x1) 1 x2) 2 x3) 3 x4) 4 x5) k) (j : Nat) (hj : j < len + 20) : f2 j = sB (ad20 tb len x1 x2 x3 x4 x5 j) := by
  by_cases e : j < len
  · rw [ad20_lo _ _ _ _ _ _ _ _ e, hp.1 j e]; exact hf j e
  · obtain ⟨k, rfl⟩ : ∃ k, j = len + k := ⟨j - len, by omega⟩
    rw [hp.2 k (by omega)]
    exact fyB_sB tb len h x1 x2 x3 x4 x5 k (by omega)
theorem endL_le (x : Int32) (len : Nat) (hl : len ≤ 400) : (if ¬ x < nI 0 ∧ x ≤ nI len then x.toNatClampNeg else len) ≤ len := by
  split
  · next h =>
    obtain ⟨t, ht, rfl⟩ := nI_of (show ¬ nI 0 > x from h.1)
    have h2 := h.2
    rw [Int32.le_iff_toInt_le, nI_toInt ht, nI_toInt (by omega)] at h2
    show (nI t).toInt.toNat ≤ len
    rw [nI_toInt ht]
    omega
  · exact Nat.le_refl _

set_option maxHeartbeats 8000000 in
set_option maxRecDepth 100000 in
theorem law_0 {p : Program} {l : Launch} {e : Env} {s : State} {m : MethodId} {below : List Frame} {meth : Method} {c : Code} {b L : Nat} {xs : Nat → Int32} {Q : State → Prop} {G : GG} {z : Nat} {ad : Nat → Nat} {M : Mem} {H : Heap} {locs : List Loc} {ls : Array Slot} {i cz sy : Nat} (hst : l.stackTraces = false) (hx : p.tables.exec = Jvm.exec) (hb : c.code = code) (hml : c.maxLocals = 7) (hown : s.vm.findClass RL = some m.cls) {cx : Cond} (hts : ∀ w ∈ cx :: lwg, w.before #[Value.ref b] s = true) (hX : va_X b L xs s s.heap) (hbl : b < s.heap.size) (hbz : ¬ z ≤ b) (hI : Iv G z ad M s H locs) (hl : lv_has ls 7 [(0, .ref b), (1, .ref (ad 0)), (2, .ref (ad 60)), (3, .ref (ad 99)), (4, .int (nI i))]) (hiL : i + 6 ≤ L) (hL : L ≤ 3072) (hcz : cz + 10 ≤ 601024) (hsy : sy + 300 ≤ 7293034) {n : Nat} {kd : Nat → Nat} {fm : Nat → Int32} {to : Nat → Int32} {sz : Nat → Nat} {rl : Nat → Nat → Nat} {en : Nat → Nat → Nat} {qa : Nat} {qs : Nat} {fw : Int32} {len : Nat} {tb : Nat → Nat} {le : Nat → Nat} {mo : Nat → Nat} {al : Nat → Nat} {ho : Nat → Bool} {jn : Nat} {hg : Nat → Nat} {lst : Nat → Nat} {jd : Nat → Nat} {s0 : Nat} {r0 : Nat → Nat} {th : Nat → Option Nat} {ol : Nat → Option Nat} {e0 : Nat → Nat} {mm9 : Nat → Bool} {ff : Nat → Int32} {lq : Nat → Int32} {ra : Nat} {rb : Nat} {rt : Int32} {rv : Int32} {qm : Nat} {pz : Nat} {sx : Nat → Int64} {ft : Nat → Nat} {rx : Nat → Int64} {dm : Nat → Int64} {rc : Nat → Int32} {ao : Nat} {vr : Nat} {kn : Nat → Nat} {nq : Nat → Bool} {pn : Nat → Nat} {av : Nat → Nat} {ro : Nat → Nat} {te : Nat → Nat} {sq : Nat} {su : Nat} {kb : Nat → Nat} {nb : Nat → Bool} {pb : Nat → Nat} {ab : Nat → Nat} {rbb : Nat → Nat} {tbb : Nat → Nat} {tw : Nat} {sn : Nat} {pt : Nat} {zs : Nat} {bg : Nat} {mk : Nat → Nat} {mf : Nat → Int32} {mu : Nat → Int32} {mz : Nat → Nat} {rr : Nat → Nat} {ee : Nat → Nat} {oa : Nat → Nat} {ob : Nat → Nat} {s74 : Nat → Int32} {ak : Nat → Int32} {nm : Nat → Bool} {ap : Nat → Nat} {pr : Nat → Int32} {pf : Nat → Int32} {tf : Nat → Int32} {fv : Nat → Int32} {tr : Nat → Bool} {gv : Nat → Option Nat} {fo : Nat → Int32} {re : Nat → Bool} {us : Nat → Bool} {nx : Nat → Bool} {of : Nat → Int64} (fL : LSm G ad M n kd fm to sz rl en) (w1 : LSw n kd sz rl en) (w2 : MRel n kd fm to sz rl en mk mf mu mz rr ee) (w3 : JI jn hg lst jd oa ob) (w4 : len ≤ 400) (w5 : ∀ j, j < len → tb j < 256) (w6 : ∀ j, j < len → tf j = sB (tb j)) (w7 : s0 ≤ 6) (w8 : mz 120 = s0) (w9 : ∀ j, j < s0 → rr (720 + j) = r0 j ∧ ee (720 + j) = e0 j) (w10 : ∀ j, j < s0 → r0 j < 6) (w11 : ∀ j, j < s0 → e0 j < 40 + n) (w12 : ∀ j, j < s0 → th j = thE e0 j) (w13 : ∀ j, j < s0 → ol j = olE e0 j) (w14 : ∀ j, j < 36 → le j < 100) (w15 : ∀ j, j < 36 → mo j < 100) (w16 : ∀ j, j < 36 → al j ≤ 100) (w17 : ∀ i, i < n → (0 : Int32) ≤ fm i) (w18 : ∀ i, i < n → ∀ k, hgs sz en i k = true → fm k ≤ fm i) (w19 : ao ≤ 6) (w20 : vr < 8) (w21 : ∀ i, i < ao → ap i ≤ 4 ∧ (ak i = nI (kn i) ∧ kn i < 6) ∧ ∀ p8, p8 < ap i → (pr (4 * i + p8) = nI (ro (i * 4 + p8)) ∧ ro (i * 4 + p8) < 6) ∧ te (i * 4 + p8) < 43 ∧ pf (4 * i + p8) = tmI (te (i * 4 + p8))) (w22 : ∀ i, i < ao → nm i = nq i ∧ ap i = pn i) (w23 : ∀ i, i < ao → av i < 8) (w24 : ∀ i, i < ao → (av i).testBit 0 = false → ∀ p9, p9 < pn i → te (i * 4 + p9) ≠ 40) (w25 : ∀ v, v < 3 → vr.testBit v = true → ∃ i, i < ao ∧ nq i = false ∧ ∃ k, k < pn i ∧ te (i * 4 + k) = 40 + v) (w26 : 29 < qa ∧ qa < 38) (w27 : 29 < qs ∧ qs < 38) (w28 : qa + 7 ≤ qs ∨ qs + 7 ≤ qa) (w29 : 29 < qm ∧ qm < 51) (w30 : n = 0 → (∃ mcn : Int32, M 17 = some (cList ad mcn G.2.2.2.2 0)) ∧ M 18 = none) (w31 : M 29 = none) (w32 : ∀ j, 100 + 5 * n ≤ j → M j = none) (f_0 : M 0 = some (cStore ad qa qs fw)) (f_1 : M 1 = some (cTape ad len)) (f_2 : M 2 = some (aI G 400 (nF tb))) (f_3 : M 3 = some (cLaws ad )) (f_4 : M 4 = some (aI G 36 (nF le))) (f_5 : M 5 = some (aI G 36 (nF mo))) (f_6 : M 6 = some (aI G 36 (nF al))) (f_7 : M 7 = some (aZ G 6 (bF ho))) (f_8 : M 8 = some (cOnes ad jn)) (f_9 : M 9 = some (aI G 40 (nF hg))) (f_10 : M 10 = some (aI G 40 (nF lst))) (f_11 : M 11 = some (aI G 40 (nF jd))) (f_12 : M 12 = some (cEnds ad 12 s0)) (f_13 : M 13 = some (aI G 6 (nF r0))) (f_14 : M 14 = some (aI G 6 (oF th))) (f_15 : M 15 = some (aI G 6 (oF ol))) (f_19 : M 19 = some (aZ G 120 (bF mm9))) (f_20 : M 20 = some (aI G 120 ff)) (f_21 : M 21 = some (aI G 120 lq)) (f_22 : M 22 = some (cReader ad ra rb rt rv)) (f_23 : M 23 = some (cMatcher ad qm pz)) (f_24 : M 24 = some (aJ G 2160 sx)) (f_25 : M 25 = some (aI G 6 (nF ft))) (f_26 : M 26 = some (aJ G 240 rx)) (f_27 : M 27 = some (aJ G 3 dm)) (f_28 : M 28 = some (aI G 3 rc)) (f_qa : M qa = some (cQuestion ad qa ao vr)) (f_qa_1 : M (qa + 1) = some (aI G 6 (nF kn))) (f_qa_2 : M (qa + 2) = some (aZ G 6 (bF nq))) (f_qa_3 : M (qa + 3) = some (aI G 6 (nF pn))) (f_qa_4 : M (qa + 4) = some (aI G 6 (nF av))) (f_qa_5 : M (qa + 5) = some (aI G 24 (nF ro))) (f_qa_6 : M (qa + 6) = some (aI G 24 (nF te))) (f_qs : M qs = some (cQuestion ad qs sq su)) (f_qs_1 : M (qs + 1) = some (aI G 6 (nF kb))) (f_qs_2 : M (qs + 2) = some (aZ G 6 (bF nb))) (f_qs_3 : M (qs + 3) = some (aI G 6 (nF pb))) (f_qs_4 : M (qs + 4) = some (aI G 6 (nF ab))) (f_qs_5 : M (qs + 5) = some (aI G 24 (nF rbb))) (f_qs_6 : M (qs + 6) = some (aI G 24 (nF tbb))) (f_60 : M 60 = some (cModel ad tw n jn ao vr sn len pt zs bg fw)) (f_61 : M 61 = some (aI G 36 (nF le))) (f_62 : M 62 = some (aI G 36 (nF mo))) (f_63 : M 63 = some (aI G 36 (nF al))) (f_64 : M 64 = some (aZ G 6 (bF ho))) (f_65 : M 65 = some (aI G 120 (nF mk))) (f_66 : M 66 = some (aI G 120 mf)) (f_67 : M 67 = some (aI G 120 mu)) (f_68 : M 68 = some (aI G 121 (nF mz))) (f_69 : M 69 = some (aI G 726 (nF rr))) (f_70 : M 70 = some (aI G 726 (nF ee))) (f_71 : M 71 = some (aI G 40 (nF lst))) (f_72 : M 72 = some (aI G 40 (nF oa))) (f_73 : M 73 = some (aI G 40 (nF ob))) (f_74 : M 74 = some (aI G 120 s74)) (f_75 : M 75 = some (aI G 12 ak)) (f_76 : M 76 = some (aZ G 12 (bF nm))) (f_77 : M 77 = some (aI G 12 (nF ap))) (f_78 : M 78 = some (aI G 48 pr)) (f_79 : M 79 = some (aI G 48 pf)) (f_80 : M 80 = some (aB G 400 tf)) (f_81 : M 81 = some (aI G 5 fv)) (f_82 : M 82 = some (aZ G 384000 (bF tr))) (f_83 : M 83 = some (aI G 3 (oF gv))) (f_84 : M 84 = some (aI G 3 fo)) (f_85 : M 85 = some (aZ G 40 (bF re))) (f_86 : M 86 = some (aZ G 120 (bF us))) (f_87 : M 87 = some (aZ G 120 (bF nx))) (f_99 : M 99 = some (aJ G 1 of)) (kk : ∀ (ad1 : Nat → Nat) (M1 : Mem) (H1 : Heap) (locs1 : List Loc) (ls1 : Array Slot) (n : Nat) (kd : Nat → Nat) (fm : Nat → Int32) (to : Nat → Int32) (sz : Nat → Nat) (rl : Nat → Nat → Nat) (en : Nat → Nat → Nat) (qa : Nat) (qs : Nat) (fw : Int32) (len : Nat) (tb : Nat → Nat) (le : Nat → Nat) (mo : Nat → Nat) (al : Nat → Nat) (ho : Nat → Bool) (jn : Nat) (hg : Nat → Nat) (lst : Nat → Nat) (jd : Nat → Nat) (s0 : Nat) (r0 : Nat → Nat) (th : Nat → Option Nat) (ol : Nat → Option Nat) (e0 : Nat → Nat) (mm9 : Nat → Bool) (ff : Nat → Int32) (lq : Nat → Int32) (ra : Nat) (rb : Nat) (rt : Int32) (rv : Int32) (qm : Nat) (pz : Nat) (sx : Nat → Int64) (ft : Nat → Nat) (rx : Nat → Int64) (dm : Nat → Int64) (rc : Nat → Int32) (ao : Nat) (vr : Nat) (kn : Nat → Nat) (nq : Nat → Bool) (pn : Nat → Nat) (av : Nat → Nat) (ro : Nat → Nat) (te : Nat → Nat) (sq : Nat) (su : Nat) (kb : Nat → Nat) (nb : Nat → Bool) (pb : Nat → Nat) (ab : Nat → Nat) (rbb : Nat → Nat) (tbb : Nat → Nat) (tw : Nat) (sn : Nat) (pt : Nat) (zs : Nat) (bg : Nat) (mk : Nat → Nat) (mf : Nat → Int32) (mu : Nat → Int32) (mz : Nat → Nat) (rr : Nat → Nat) (ee : Nat → Nat) (oa : Nat → Nat) (ob : Nat → Nat) (s74 : Nat → Int32) (ak : Nat → Int32) (nm : Nat → Bool) (ap : Nat → Nat) (pr : Nat → Int32) (pf : Nat → Int32) (tf : Nat → Int32) (fv : Nat → Int32) (tr : Nat → Bool) (gv : Nat → Option Nat) (fo : Nat → Int32) (re : Nat → Bool) (us : Nat → Bool) (nx : Nat → Bool) (of : Nat → Int64), (LSm G ad1 M1 n kd fm to sz rl en) → (LSw n kd sz rl en) → (MRel n kd fm to sz rl en mk mf mu mz rr ee) → (JI jn hg lst jd oa ob) → (len ≤ 400) → (∀ j, j < len → tb j < 256) → (∀ j, j < len → tf j = sB (tb j)) → (s0 ≤ 6) → (mz 120 = s0) → (∀ j, j < s0 → rr (720 + j) = r0 j ∧ ee (720 + j) = e0 j) → (∀ j, j < s0 → r0 j < 6) → (∀ j, j < s0 → e0 j < 40 + n) → (∀ j, j < s0 → th j = thE e0 j) → (∀ j, j < s0 → ol j = olE e0 j) → (∀ j, j < 36 → le j < 100) → (∀ j, j < 36 → mo j < 100) → (∀ j, j < 36 → al j ≤ 100) → (∀ i, i < n → (0 : Int32) ≤ fm i) → (∀ i, i < n → ∀ k, hgs sz en i k = true → fm k ≤ fm i) → (ao ≤ 6) → (vr < 8) → (∀ i, i < ao → ap i ≤ 4 ∧ (ak i = nI (kn i) ∧ kn i < 6) ∧ ∀ p8, p8 < ap i → (pr (4 * i + p8) = nI (ro (i * 4 + p8)) ∧ ro (i * 4 + p8) < 6) ∧ te (i * 4 + p8) < 43 ∧ pf (4 * i + p8) = tmI (te (i * 4 + p8))) → (∀ i, i < ao → nm i = nq i ∧ ap i = pn i) → (∀ i, i < ao → av i < 8) → (∀ i, i < ao → (av i).testBit 0 = false → ∀ p9, p9 < pn i → te (i * 4 + p9) ≠ 40) → (∀ v, v < 3 → vr.testBit v = true → ∃ i, i < ao ∧ nq i = false ∧ ∃ k, k < pn i ∧ te (i * 4 + k) = 40 + v) → (29 < qa ∧ qa < 38) → (29 < qs ∧ qs < 38) → (qa + 7 ≤ qs ∨ qs + 7 ≤ qa) → (29 < qm ∧ qm < 51) → (n = 0 → (∃ mcn : Int32, M1 17 = some (cList ad1 mcn G.2.2.2.2 0)) ∧ M1 18 = none) → (M1 29 = none) → (∀ j, 100 + 5 * n ≤ j → M1 j = none) → (M1 0 = some (cStore ad1 qa qs fw)) → (M1 1 = some (cTape ad1 len)) → (M1 2 = some (aI G 400 (nF tb))) → (M1 3 = some (cLaws ad1 )) → (M1 4 = some (aI G 36 (nF le))) → (M1 5 = some (aI G 36 (nF mo))) → (M1 6 = some (aI G 36 (nF al))) → (M1 7 = some (aZ G 6 (bF ho))) → (M1 8 = some (cOnes ad1 jn)) → (M1 9 = some (aI G 40 (nF hg))) → (M1 10 = some (aI G 40 (nF lst))) → (M1 11 = some (aI G 40 (nF jd))) → (M1 12 = some (cEnds ad1 12 s0)) → (M1 13 = some (aI G 6 (nF r0))) → (M1 14 = some (aI G 6 (oF th))) → (M1 15 = some (aI G 6 (oF ol))) → (M1 19 = some (aZ G 120 (bF mm9))) → (M1 20 = some (aI G 120 ff)) → (M1 21 = some (aI G 120 lq)) → (M1 22 = some (cReader ad1 ra rb rt rv)) → (M1 23 = some (cMatcher ad1 qm pz)) → (M1 24 = some (aJ G 2160 sx)) → (M1 25 = some (aI G 6 (nF ft))) → (M1 26 = some (aJ G 240 rx)) → (M1 27 = some (aJ G 3 dm)) → (M1 28 = some (aI G 3 rc)) → (M1 qa = some (cQuestion ad1 qa ao vr)) → (M1 (qa + 1) = some (aI G 6 (nF kn))) → (M1 (qa + 2) = some (aZ G 6 (bF nq))) → (M1 (qa + 3) = some (aI G 6 (nF pn))) → (M1 (qa + 4) = some (aI G 6 (nF av))) → (M1 (qa + 5) = some (aI G 24 (nF ro))) → (M1 (qa + 6) = some (aI G 24 (nF te))) → (M1 qs = some (cQuestion ad1 qs sq su)) → (M1 (qs + 1) = some (aI G 6 (nF kb))) → (M1 (qs + 2) = some (aZ G 6 (bF nb))) → (M1 (qs + 3) = some (aI G 6 (nF pb))) → (M1 (qs + 4) = some (aI G 6 (nF ab))) → (M1 (qs + 5) = some (aI G 24 (nF rbb))) → (M1 (qs + 6) = some (aI G 24 (nF tbb))) → (M1 60 = some (cModel ad1 tw n jn ao vr sn len pt zs bg fw)) → (M1 61 = some (aI G 36 (nF le))) → (M1 62 = some (aI G 36 (nF mo))) → (M1 63 = some (aI G 36 (nF al))) → (M1 64 = some (aZ G 6 (bF ho))) → (M1 65 = some (aI G 120 (nF mk))) → (M1 66 = some (aI G 120 mf)) → (M1 67 = some (aI G 120 mu)) → (M1 68 = some (aI G 121 (nF mz))) → (M1 69 = some (aI G 726 (nF rr))) → (M1 70 = some (aI G 726 (nF ee))) → (M1 71 = some (aI G 40 (nF lst))) → (M1 72 = some (aI G 40 (nF oa))) → (M1 73 = some (aI G 40 (nF ob))) → (M1 74 = some (aI G 120 s74)) → (M1 75 = some (aI G 12 ak)) → (M1 76 = some (aZ G 12 (bF nm))) → (M1 77 = some (aI G 12 (nF ap))) → (M1 78 = some (aI G 48 pr)) → (M1 79 = some (aI G 48 pf)) → (M1 80 = some (aB G 400 tf)) → (M1 81 = some (aI G 5 fv)) → (M1 82 = some (aZ G 384000 (bF tr))) → (M1 83 = some (aI G 3 (oF gv))) → (M1 84 = some (aI G 3 fo)) → (M1 85 = some (aZ G 40 (bF re))) → (M1 86 = some (aZ G 120 (bF us))) → (M1 87 = some (aZ G 120 (bF nx))) → (M1 99 = some (aJ G 1 of)) → Iv G z ad1 M1 s H1 locs1 → lv_has ls1 7 [(0, .ref b), (1, .ref (ad1 0)), (2, .ref (ad1 60)), (3, .ref (ad1 99)), (4, .int (nI i))] → W p l e room_1 s m #[Value.ref b] below meth c H1 locs1 (cz + 10) (sy + 300) Q (F0 m 1333 ls1 [])) : W p l e room_1 s m #[Value.ref b] below meth c H locs cz sy Q (F0 m 136 ls []) := by
  have h16 := fL.1
  have hw1 := w1.1
  have hlst := ji_lst w3
  rcases (by omega : len + 20 ≤ 400 ∨ 400 < len + 20) with hc_1 | hc_2
  · skip
    refine lv_aload_n hx hb dL_law_136 rfl (lv_at hl 1 rfl) ?_
    refine lv_aload_n hx hb dL_law_137 rfl (lv_at hl 0 rfl) ?_
    have hrm := hc_1
    refine lv_iload hx hb dL_law_138 (lv_at hl 4 rfl) ?_
    refine lv_iconst (v := nI 1) hx hb dL_law_140 (by decide) ?_
    refine lv_iadd hx hb dL_law_141 ?_
    refine n_eq (nI_add i 1) ?_
    refine va_sld (A := fr z) hx hb hX hbl hbz hI.S (vp_in_nI (n := i + 1) (by omega) (by omega)) dL_law_142 ?_
    rw [nI_clamp (by omega)]
    refine lv_aload_n hx hb dL_law_143 rfl (lv_at hl 0 rfl) ?_
    refine lv_iload hx hb dL_law_144 (lv_at hl 4 rfl) ?_
    refine lv_iconst (v := nI 2) hx hb dL_law_146 (by decide) ?_
    refine lv_iadd hx hb dL_law_147 ?_
    refine n_eq (nI_add i 2) ?_
    refine va_sld (A := fr z) hx hb hX hbl hbz hI.S (vp_in_nI (n := i + 2) (by omega) (by omega)) dL_law_148 ?_
    rw [nI_clamp (by omega)]
    refine lv_aload_n hx hb dL_law_149 rfl (lv_at hl 0 rfl) ?_
    refine lv_iload hx hb dL_law_150 (lv_at hl 4 rfl) ?_
    refine lv_iconst (v := nI 3) hx hb dL_law_152 (by decide) ?_
    refine lv_iadd hx hb dL_law_153 ?_
    refine n_eq (nI_add i 3) ?_
    refine va_sld (A := fr z) hx hb hX hbl hbz hI.S (vp_in_nI (n := i + 3) (by omega) (by omega)) dL_law_154 ?_
    rw [nI_clamp (by omega)]
    refine lv_aload_n hx hb dL_law_155 rfl (lv_at hl 0 rfl) ?_
    refine lv_iload hx hb dL_law_156 (lv_at hl 4 rfl) ?_
    refine lv_iconst (v := nI 4) hx hb dL_law_158 (by decide) ?_
    refine lv_iadd hx hb dL_law_159 ?_
    refine n_eq (nI_add i 4) ?_
    refine va_sld (A := fr z) hx hb hX hbl hbz hI.S (vp_in_nI (n := i + 4) (by omega) (by omega)) dL_law_160 ?_
    rw [nI_clamp (by omega)]
    refine lv_aload_n hx hb dL_law_161 rfl (lv_at hl 0 rfl) ?_
    refine lv_iload hx hb dL_law_162 (lv_at hl 4 rfl) ?_
    refine lv_iconst (v := nI 5) hx hb dL_law_164 (by decide) ?_
    refine lv_iadd hx hb dL_law_165 ?_
    refine n_eq (nI_add i 5) ?_
    refine va_sld (A := fr z) hx hb hX hbl hbz hI.S (vp_in_nI (n := i + 5) (by omega) (by omega)) dL_law_166 ?_
    rw [nI_clamp (by omega)]
    refine k_Ni (va_runV (As := [.int (xs (i + 1)), .int (xs (i + 2)), .int (xs (i + 3)), .int (xs (i + 4)), .int (xs (i + 5))]) (rest := []) ⟨hx, hb, hml, hown, hts⟩ (c_X9_feed l G z ad M (qa := qa) (qs := qs) (fw := fw) (len := len) (tb := tb) (x1 := xs (i + 1)) (x2 := xs (i + 2)) (x3 := xs (i + 3)) (x4 := xs (i + 4)) (x5 := xs (i + 5)) f_0 f_1 f_2 hrm) (cwV 5 hts (gV (lwg_of t_270 rfl) (lwg_of t_271 rfl) (lwg_of t_272 rfl) (lwg_of t_1 rfl) (lwg_of t_273 rfl)) rfl rfl rfl (by decide +kernel) ⟨Nat.le_of_ble_eq_true rfl, Nat.le_of_ble_eq_true rfl⟩) (hI.preV f_0 rfl) rfl rfl hl.1 rfl (lv_room (Nat.le_of_ble_eq_true rfl)) dL_law_167 ⟨(show _ ≤ (601024 : Nat) from by omega), (show _ ≤ (7293034 : Nat) from by omega)⟩) hI (fun r_3 M_5 H_6 locs_7 hp_4 hI => ?_)
    obtain ⟨hr_8, hm_9, hm_10, hF_11⟩ := hp_4
    have hm_12 : M_5 0 = some (cStore ad qa qs fw) := by rw [hF_11 0 (by omega) (by omega)]; exact f_0
    have hm_13 : M_5 3 = some (cLaws ad ) := by rw [hF_11 3 (by omega) (by omega)]; exact f_3
    have hm_14 : M_5 4 = some (aI G 36 (nF le)) := by rw [hF_11 4 (by omega) (by omega)]; exact f_4
    have hm_15 : M_5 5 = some (aI G 36 (nF mo)) := by rw [hF_11 5 (by omega) (by omega)]; exact f_5
    have hm_16 : M_5 6 = some (aI G 36 (nF al)) := by rw [hF_11 6 (by omega) (by omega)]; exact f_6
    have hm_17 : M_5 7 = some (aZ G 6 (bF ho)) := by rw [hF_11 7 (by omega) (by omega)]; exact f_7
    have hm_18 : M_5 8 = some (cOnes ad jn) := by rw [hF_11 8 (by omega) (by omega)]; exact f_8
    have hm_19 : M_5 9 = some (aI G 40 (nF hg)) := by rw [hF_11 9 (by omega) (by omega)]; exact f_9
    have hm_20 : M_5 10 = some (aI G 40 (nF lst)) := by rw [hF_11 10 (by omega) (by omega)]; exact f_10
    have hm_21 : M_5 11 = some (aI G 40 (nF jd)) := by rw [hF_11 11 (by omega) (by omega)]; exact f_11
    have hm_22 : M_5 12 = some (cEnds ad 12 s0) := by rw [hF_11 12 (by omega) (by omega)]; exact f_12
    have hm_23 : M_5 13 = some (aI G 6 (nF r0)) := by rw [hF_11 13 (by omega) (by omega)]; exact f_13
    have hm_24 : M_5 14 = some (aI G 6 (oF th)) := by rw [hF_11 14 (by omega) (by omega)]; exact f_14
    have hm_25 : M_5 15 = some (aI G 6 (oF ol)) := by rw [hF_11 15 (by omega) (by omega)]; exact f_15
    have hm_26 : M_5 19 = some (aZ G 120 (bF mm9)) := by rw [hF_11 19 (by omega) (by omega)]; exact f_19
    have hm_27 : M_5 20 = some (aI G 120 ff) := by rw [hF_11 20 (by omega) (by omega)]; exact f_20
    have hm_28 : M_5 21 = some (aI G 120 lq) := by rw [hF_11 21 (by omega) (by omega)]; exact f_21
    have hm_29 : M_5 22 = some (cReader ad ra rb rt rv) := by rw [hF_11 22 (by omega) (by omega)]; exact f_22
    have hm_30 : M_5 23 = some (cMatcher ad qm pz) := by rw [hF_11 23 (by omega) (by omega)]; exact f_23
    have hm_31 : M_5 24 = some (aJ G 2160 sx) := by rw [hF_11 24 (by omega) (by omega)]; exact f_24
    have hm_32 : M_5 25 = some (aI G 6 (nF ft)) := by rw [hF_11 25 (by omega) (by omega)]; exact f_25
    have hm_33 : M_5 26 = some (aJ G 240 rx) := by rw [hF_11 26 (by omega) (by omega)]; exact f_26
    have hm_34 : M_5 27 = some (aJ G 3 dm) := by rw [hF_11 27 (by omega) (by omega)]; exact f_27
    have hm_35 : M_5 28 = some (aI G 3 rc) := by rw [hF_11 28 (by omega) (by omega)]; exact f_28
    have hm_36 : M_5 qa = some (cQuestion ad qa ao vr) := by rw [hF_11 qa (by omega) (by omega)]; exact f_qa
    have hm_37 : M_5 (qa + 1) = some (aI G 6 (nF kn)) := by rw [hF_11 (qa + 1) (by omega) (by omega)]; exact f_qa_1
    have hm_38 : M_5 (qa + 2) = some (aZ G 6 (bF nq)) := by rw [hF_11 (qa + 2) (by omega) (by omega)]; exact f_qa_2
    have hm_39 : M_5 (qa + 3) = some (aI G 6 (nF pn)) := by rw [hF_11 (qa + 3) (by omega) (by omega)]; exact f_qa_3
    have hm_40 : M_5 (qa + 4) = some (aI G 6 (nF av)) := by rw [hF_11 (qa + 4) (by omega) (by omega)]; exact f_qa_4
    have hm_41 : M_5 (qa + 5) = some (aI G 24 (nF ro)) := by rw [hF_11 (qa + 5) (by omega) (by omega)]; exact f_qa_5
    have hm_42 : M_5 (qa + 6) = some (aI G 24 (nF te)) := by rw [hF_11 (qa + 6) (by omega) (by omega)]; exact f_qa_6
    have hm_43 : M_5 qs = some (cQuestion ad qs sq su) := by rw [hF_11 qs (by omega) (by omega)]; exact f_qs
    have hm_44 : M_5 (qs + 1) = some (aI G 6 (nF kb)) := by rw [hF_11 (qs + 1) (by omega) (by omega)]; exact f_qs_1
    have hm_45 : M_5 (qs + 2) = some (aZ G 6 (bF nb)) := by rw [hF_11 (qs + 2) (by omega) (by omega)]; exact f_qs_2
    have hm_46 : M_5 (qs + 3) = some (aI G 6 (nF pb)) := by rw [hF_11 (qs + 3) (by omega) (by omega)]; exact f_qs_3
    have hm_47 : M_5 (qs + 4) = some (aI G 6 (nF ab)) := by rw [hF_11 (qs + 4) (by omega) (by omega)]; exact f_qs_4
    have hm_48 : M_5 (qs + 5) = some (aI G 24 (nF rbb)) := by rw [hF_11 (qs + 5) (by omega) (by omega)]; exact f_qs_5
    have hm_49 : M_5 (qs + 6) = some (aI G 24 (nF tbb)) := by rw [hF_11 (qs + 6) (by omega) (by omega)]; exact f_qs_6
    have hm_50 : M_5 60 = some (cModel ad tw n jn ao vr sn len pt zs bg fw) := by rw [hF_11 60 (by omega) (by omega)]; exact f_60
    have hm_51 : M_5 61 = some (aI G 36 (nF le)) := by rw [hF_11 61 (by omega) (by omega)]; exact f_61
    have hm_52 : M_5 62 = some (aI G 36 (nF mo)) := by rw [hF_11 62 (by omega) (by omega)]; exact f_62
    have hm_53 : M_5 63 = some (aI G 36 (nF al)) := by rw [hF_11 63 (by omega) (by omega)]; exact f_63
    have hm_54 : M_5 64 = some (aZ G 6 (bF ho)) := by rw [hF_11 64 (by omega) (by omega)]; exact f_64
    have hm_55 : M_5 65 = some (aI G 120 (nF mk)) := by rw [hF_11 65 (by omega) (by omega)]; exact f_65
    have hm_56 : M_5 66 = some (aI G 120 mf) := by rw [hF_11 66 (by omega) (by omega)]; exact f_66
    have hm_57 : M_5 67 = some (aI G 120 mu) := by rw [hF_11 67 (by omega) (by omega)]; exact f_67
    have hm_58 : M_5 68 = some (aI G 121 (nF mz)) := by rw [hF_11 68 (by omega) (by omega)]; exact f_68
    have hm_59 : M_5 69 = some (aI G 726 (nF rr)) := by rw [hF_11 69 (by omega) (by omega)]; exact f_69
    have hm_60 : M_5 70 = some (aI G 726 (nF ee)) := by rw [hF_11 70 (by omega) (by omega)]; exact f_70
    have hm_61 : M_5 71 = some (aI G 40 (nF lst)) := by rw [hF_11 71 (by omega) (by omega)]; exact f_71
    have hm_62 : M_5 72 = some (aI G 40 (nF oa)) := by rw [hF_11 72 (by omega) (by omega)]; exact f_72
    have hm_63 : M_5 73 = some (aI G 40 (nF ob)) := by rw [hF_11 73 (by omega) (by omega)]; exact f_73
    have hm_64 : M_5 74 = some (aI G 120 s74) := by rw [hF_11 74 (by omega) (by omega)]; exact f_74
    have hm_65 : M_5 75 = some (aI G 12 ak) := by rw [hF_11 75 (by omega) (by omega)]; exact f_75
    have hm_66 : M_5 76 = some (aZ G 12 (bF nm)) := by rw [hF_11 76 (by omega) (by omega)]; exact f_76
    have hm_67 : M_5 77 = some (aI G 12 (nF ap)) := by rw [hF_11 77 (by omega) (by omega)]; exact f_77
    have hm_68 : M_5 78 = some (aI G 48 pr) := by rw [hF_11 78 (by omega) (by omega)]; exact f_78
    have hm_69 : M_5 79 = some (aI G 48 pf) := by rw [hF_11 79 (by omega) (by omega)]; exact f_79
    have hm_70 : M_5 80 = some (aB G 400 tf) := by rw [hF_11 80 (by omega) (by omega)]; exact f_80
    have hm_71 : M_5 81 = some (aI G 5 fv) := by rw [hF_11 81 (by omega) (by omega)]; exact f_81
    have hm_72 : M_5 82 = some (aZ G 384000 (bF tr)) := by rw [hF_11 82 (by omega) (by omega)]; exact f_82
    have hm_73 : M_5 83 = some (aI G 3 (oF gv)) := by rw [hF_11 83 (by omega) (by omega)]; exact f_83
    have hm_74 : M_5 84 = some (aI G 3 fo) := by rw [hF_11 84 (by omega) (by omega)]; exact f_84
    have hm_75 : M_5 85 = some (aZ G 40 (bF re)) := by rw [hF_11 85 (by omega) (by omega)]; exact f_85
    have hm_76 : M_5 86 = some (aZ G 120 (bF us)) := by rw [hF_11 86 (by omega) (by omega)]; exact f_86
    have hm_77 : M_5 87 = some (aZ G 120 (bF nx)) := by rw [hF_11 87 (by omega) (by omega)]; exact f_87
    have hm_78 : M_5 99 = some (aJ G 1 of) := by rw [hF_11 99 (by omega) (by omega)]; exact f_99
    have hm_79 : M_5 16 = some (cLines ad ) := by rw [hF_11 16 (by omega) (by omega)]; exact h16
    have hL_80 : LSm G ad M_5 n kd fm to sz rl en := fL.keep (fun j hj => hF_11 j (by omega) (by omega))
    have hF_81 : ∀ j : Nat, j ≠ 1 → j ≠ 2 → M_5 j = M j := fun j q0 q1 => (hF_11 j q0 q1)
    rw [hr_8]
    refine lv_aload_n hx hb dL_law_170 rfl (lv_at hl 2 rfl) ?_
    refine lv_aload_n hx hb dL_law_171 rfl (lv_at hl 0 rfl) ?_
    refine lv_iload hx hb dL_law_172 (lv_at hl 4 rfl) ?_
    refine lv_iconst (v := nI 1) hx hb dL_law_174 (by decide) ?_
    refine lv_iadd hx hb dL_law_175 ?_
    refine n_eq (nI_add i 1) ?_
    refine va_sld (A := fr z) hx hb hX hbl hbz hI.S (vp_in_nI (n := i + 1) (by omega) (by omega)) dL_law_176 ?_
    rw [nI_clamp (by omega)]
    refine lv_aload_n hx hb dL_law_177 rfl (lv_at hl 0 rfl) ?_
    refine lv_iload hx hb dL_law_178 (lv_at hl 4 rfl) ?_
    refine lv_iconst (v := nI 2) hx hb dL_law_180 (by decide) ?_
    refine lv_iadd hx hb dL_law_181 ?_
    refine n_eq (nI_add i 2) ?_
    refine va_sld (A := fr z) hx hb hX hbl hbz hI.S (vp_in_nI (n := i + 2) (by omega) (by omega)) dL_law_182 ?_
    rw [nI_clamp (by omega)]
    refine lv_aload_n hx hb dL_law_183 rfl (lv_at hl 0 rfl) ?_
    refine lv_iload hx hb dL_law_184 (lv_at hl 4 rfl) ?_
    refine lv_iconst (v := nI 3) hx hb dL_law_186 (by decide) ?_
    refine lv_iadd hx hb dL_law_187 ?_
    refine n_eq (nI_add i 3) ?_
    refine va_sld (A := fr z) hx hb hX hbl hbz hI.S (vp_in_nI (n := i + 3) (by omega) (by omega)) dL_law_188 ?_
    rw [nI_clamp (by omega)]
    refine lv_aload_n hx hb dL_law_189 rfl (lv_at hl 0 rfl) ?_
    refine lv_iload hx hb dL_law_190 (lv_at hl 4 rfl) ?_
    refine lv_iconst (v := nI 4) hx hb dL_law_192 (by decide) ?_
    refine lv_iadd hx hb dL_law_193 ?_
    refine n_eq (nI_add i 4) ?_
    refine va_sld (A := fr z) hx hb hX hbl hbz hI.S (vp_in_nI (n := i + 4) (by omega) (by omega)) dL_law_194 ?_
    rw [nI_clamp (by omega)]
    refine lv_aload_n hx hb dL_law_195 rfl (lv_at hl 0 rfl) ?_
    refine lv_iload hx hb dL_law_196 (lv_at hl 4 rfl) ?_
    refine lv_iconst (v := nI 5) hx hb dL_law_198 (by decide) ?_
    refine lv_iadd hx hb dL_law_199 ?_
    refine n_eq (nI_add i 5) ?_
    refine va_sld (A := fr z) hx hb hX hbl hbz hI.S (vp_in_nI (n := i + 5) (by omega) (by omega)) dL_law_200 ?_
    rw [nI_clamp (by omega)]
    refine k_Ni (va_runV (As := [.int (xs (i + 1)), .int (xs (i + 2)), .int (xs (i + 3)), .int (xs (i + 4)), .int (xs (i + 5))]) (rest := [.int (nI (len + 4 + 4 + 4 + 4 + 4))]) ⟨hx, hb, hml, hown, hts⟩ (c_X10_feed l G z ad M_5 (th := tw) (ln := n) (on := jn) (ao := ao) (vr := vr) (sn := sn) (tp := len) (pt := pt) (zs := zs) (bg := bg) (fa := fw) (f := tf) (h := fv) (x1 := xs (i + 1)) (x2 := xs (i + 2)) (x3 := xs (i + 3)) (x4 := xs (i + 4)) (x5 := xs (i + 5)) hm_50 hm_70 hm_71 hrm) (cwV 5 hts (gV (lwg_of t_1213 rfl) (lwg_of t_1214 rfl) (lwg_of t_1215 rfl) (lwg_of t_13 rfl) (lwg_of t_1216 rfl)) rfl rfl rfl (by decide +kernel) ⟨Nat.le_of_ble_eq_true rfl, Nat.le_of_ble_eq_true rfl⟩) (hI.preV hm_50 rfl) rfl rfl hl.1 rfl (lv_room (Nat.le_of_ble_eq_true rfl)) dL_law_201 ⟨(show _ ≤ (601024 : Nat) from by omega), (show _ ≤ (7293034 : Nat) from by omega)⟩) hI (fun r_82 M_84 H_85 locs_86 hp_83 hI => ?_)
    obtain ⟨f2_93, hr_87, hm_88, hm_89, hm_90, hF_91, hP_92⟩ := hp_83
    have hm_94 : M_84 0 = some (cStore ad qa qs fw) := by rw [hF_91 0 (by omega) (by omega) (by omega)]; exact hm_12
    have hm_95 : M_84 1 = some (cTape ad (len + 4 + 4 + 4 + 4 + 4)) := by rw [hF_91 1 (by omega) (by omega) (by omega)]; exact hm_9
    have hm_96 : M_84 2 = some (aI G 400 (nF (ad20 tb len (xs (i + 1)) (xs (i + 2)) (xs (i + 3)) (xs (i + 4)) (xs (i + 5))))) := by rw [hF_91 2 (by omega) (by omega) (by omega)]; exact hm_10
    have hm_97 : M_84 3 = some (cLaws ad ) := by rw [hF_91 3 (by omega) (by omega) (by omega)]; exact hm_13
    have hm_98 : M_84 4 = some (aI G 36 (nF le)) := by rw [hF_91 4 (by omega) (by omega) (by omega)]; exact hm_14
    have hm_99 : M_84 5 = some (aI G 36 (nF mo)) := by rw [hF_91 5 (by omega) (by omega) (by omega)]; exact hm_15
    have hm_100 : M_84 6 = some (aI G 36 (nF al)) := by rw [hF_91 6 (by omega) (by omega) (by omega)]; exact hm_16
    have hm_101 : M_84 7 = some (aZ G 6 (bF ho)) := by rw [hF_91 7 (by omega) (by omega) (by omega)]; exact hm_17
    have hm_102 : M_84 8 = some (cOnes ad jn) := by rw [hF_91 8 (by omega) (by omega) (by omega)]; exact hm_18
    have hm_103 : M_84 9 = some (aI G 40 (nF hg)) := by rw [hF_91 9 (by omega) (by omega) (by omega)]; exact hm_19
    have hm_104 : M_84 10 = some (aI G 40 (nF lst)) := by rw [hF_91 10 (by omega) (by omega) (by omega)]; exact hm_20
    have hm_105 : M_84 11 = some (aI G 40 (nF jd)) := by rw [hF_91 11 (by omega) (by omega) (by omega)]; exact hm_21
    have hm_106 : M_84 12 = some (cEnds ad 12 s0) := by rw [hF_91 12 (by omega) (by omega) (by omega)]; exact hm_22
    have hm_107 : M_84 13 = some (aI G 6 (nF r0)) := by rw [hF_91 13 (by omega) (by omega) (by omega)]; exact hm_23
    have hm_108 : M_84 14 = some (aI G 6 (oF th)) := by rw [hF_91 14 (by omega) (by omega) (by omega)]; exact hm_24
    have hm_109 : M_84 15 = some (aI G 6 (oF ol)) := by rw [hF_91 15 (by omega) (by omega) (by omega)]; exact hm_25
    have hm_110 : M_84 19 = some (aZ G 120 (bF mm9)) := by rw [hF_91 19 (by omega) (by omega) (by omega)]; exact hm_26
    have hm_111 : M_84 20 = some (aI G 120 ff) := by rw [hF_91 20 (by omega) (by omega) (by omega)]; exact hm_27
    have hm_112 : M_84 21 = some (aI G 120 lq) := by rw [hF_91 21 (by omega) (by omega) (by omega)]; exact hm_28
    have hm_113 : M_84 22 = some (cReader ad ra rb rt rv) := by rw [hF_91 22 (by omega) (by omega) (by omega)]; exact hm_29
    have hm_114 : M_84 23 = some (cMatcher ad qm pz) := by rw [hF_91 23 (by omega) (by omega) (by omega)]; exact hm_30
    have hm_115 : M_84 24 = some (aJ G 2160 sx) := by rw [hF_91 24 (by omega) (by omega) (by omega)]; exact hm_31
    have hm_116 : M_84 25 = some (aI G 6 (nF ft)) := by rw [hF_91 25 (by omega) (by omega) (by omega)]; exact hm_32
    have hm_117 : M_84 26 = some (aJ G 240 rx) := by rw [hF_91 26 (by omega) (by omega) (by omega)]; exact hm_33
    have hm_118 : M_84 27 = some (aJ G 3 dm) := by rw [hF_91 27 (by omega) (by omega) (by omega)]; exact hm_34
    have hm_119 : M_84 28 = some (aI G 3 rc) := by rw [hF_91 28 (by omega) (by omega) (by omega)]; exact hm_35
    have hm_120 : M_84 qa = some (cQuestion ad qa ao vr) := by rw [hF_91 qa (by omega) (by omega) (by omega)]; exact hm_36
    have hm_121 : M_84 (qa + 1) = some (aI G 6 (nF kn)) := by rw [hF_91 (qa + 1) (by omega) (by omega) (by omega)]; exact hm_37
    have hm_122 : M_84 (qa + 2) = some (aZ G 6 (bF nq)) := by rw [hF_91 (qa + 2) (by omega) (by omega) (by omega)]; exact hm_38
    have hm_123 : M_84 (qa + 3) = some (aI G 6 (nF pn)) := by rw [hF_91 (qa + 3) (by omega) (by omega) (by omega)]; exact hm_39
    have hm_124 : M_84 (qa + 4) = some (aI G 6 (nF av)) := by rw [hF_91 (qa + 4) (by omega) (by omega) (by omega)]; exact hm_40
    have hm_125 : M_84 (qa + 5) = some (aI G 24 (nF ro)) := by rw [hF_91 (qa + 5) (by omega) (by omega) (by omega)]; exact hm_41
    have hm_126 : M_84 (qa + 6) = some (aI G 24 (nF te)) := by rw [hF_91 (qa + 6) (by omega) (by omega) (by omega)]; exact hm_42
    have hm_127 : M_84 qs = some (cQuestion ad qs sq su) := by rw [hF_91 qs (by omega) (by omega) (by omega)]; exact hm_43
    have hm_128 : M_84 (qs + 1) = some (aI G 6 (nF kb)) := by rw [hF_91 (qs + 1) (by omega) (by omega) (by omega)]; exact hm_44
    have hm_129 : M_84 (qs + 2) = some (aZ G 6 (bF nb)) := by rw [hF_91 (qs + 2) (by omega) (by omega) (by omega)]; exact hm_45
    have hm_130 : M_84 (qs + 3) = some (aI G 6 (nF pb)) := by rw [hF_91 (qs + 3) (by omega) (by omega) (by omega)]; exact hm_46
    have hm_131 : M_84 (qs + 4) = some (aI G 6 (nF ab)) := by rw [hF_91 (qs + 4) (by omega) (by omega) (by omega)]; exact hm_47
    have hm_132 : M_84 (qs + 5) = some (aI G 24 (nF rbb)) := by rw [hF_91 (qs + 5) (by omega) (by omega) (by omega)]; exact hm_48
    have hm_133 : M_84 (qs + 6) = some (aI G 24 (nF tbb)) := by rw [hF_91 (qs + 6) (by omega) (by omega) (by omega)]; exact hm_49
    have hm_134 : M_84 61 = some (aI G 36 (nF le)) := by rw [hF_91 61 (by omega) (by omega) (by omega)]; exact hm_51
    have hm_135 : M_84 62 = some (aI G 36 (nF mo)) := by rw [hF_91 62 (by omega) (by omega) (by omega)]; exact hm_52
    have hm_136 : M_84 63 = some (aI G 36 (nF al)) := by rw [hF_91 63 (by omega) (by omega) (by omega)]; exact hm_53
    have hm_137 : M_84 64 = some (aZ G 6 (bF ho)) := by rw [hF_91 64 (by omega) (by omega) (by omega)]; exact hm_54
    have hm_138 : M_84 65 = some (aI G 120 (nF mk)) := by rw [hF_91 65 (by omega) (by omega) (by omega)]; exact hm_55
    have hm_139 : M_84 66 = some (aI G 120 mf) := by rw [hF_91 66 (by omega) (by omega) (by omega)]; exact hm_56
    have hm_140 : M_84 67 = some (aI G 120 mu) := by rw [hF_91 67 (by omega) (by omega) (by omega)]; exact hm_57
    have hm_141 : M_84 68 = some (aI G 121 (nF mz)) := by rw [hF_91 68 (by omega) (by omega) (by omega)]; exact hm_58
    have hm_142 : M_84 69 = some (aI G 726 (nF rr)) := by rw [hF_91 69 (by omega) (by omega) (by omega)]; exact hm_59
    have hm_143 : M_84 70 = some (aI G 726 (nF ee)) := by rw [hF_91 70 (by omega) (by omega) (by omega)]; exact hm_60
    have hm_144 : M_84 71 = some (aI G 40 (nF lst)) := by rw [hF_91 71 (by omega) (by omega) (by omega)]; exact hm_61
    have hm_145 : M_84 72 = some (aI G 40 (nF oa)) := by rw [hF_91 72 (by omega) (by omega) (by omega)]; exact hm_62
    have hm_146 : M_84 73 = some (aI G 40 (nF ob)) := by rw [hF_91 73 (by omega) (by omega) (by omega)]; exact hm_63
    have hm_147 : M_84 74 = some (aI G 120 s74) := by rw [hF_91 74 (by omega) (by omega) (by omega)]; exact hm_64
    have hm_148 : M_84 75 = some (aI G 12 ak) := by rw [hF_91 75 (by omega) (by omega) (by omega)]; exact hm_65
    have hm_149 : M_84 76 = some (aZ G 12 (bF nm)) := by rw [hF_91 76 (by omega) (by omega) (by omega)]; exact hm_66
    have hm_150 : M_84 77 = some (aI G 12 (nF ap)) := by rw [hF_91 77 (by omega) (by omega) (by omega)]; exact hm_67
    have hm_151 : M_84 78 = some (aI G 48 pr) := by rw [hF_91 78 (by omega) (by omega) (by omega)]; exact hm_68
    have hm_152 : M_84 79 = some (aI G 48 pf) := by rw [hF_91 79 (by omega) (by omega) (by omega)]; exact hm_69
    have hm_153 : M_84 82 = some (aZ G 384000 (bF tr)) := by rw [hF_91 82 (by omega) (by omega) (by omega)]; exact hm_72
    have hm_154 : M_84 83 = some (aI G 3 (oF gv)) := by rw [hF_91 83 (by omega) (by omega) (by omega)]; exact hm_73
    have hm_155 : M_84 84 = some (aI G 3 fo) := by rw [hF_91 84 (by omega) (by omega) (by omega)]; exact hm_74
    have hm_156 : M_84 85 = some (aZ G 40 (bF re)) := by rw [hF_91 85 (by omega) (by omega) (by omega)]; exact hm_75
    have hm_157 : M_84 86 = some (aZ G 120 (bF us)) := by rw [hF_91 86 (by omega) (by omega) (by omega)]; exact hm_76
    have hm_158 : M_84 87 = some (aZ G 120 (bF nx)) := by rw [hF_91 87 (by omega) (by omega) (by omega)]; exact hm_77
    have hm_159 : M_84 99 = some (aJ G 1 of) := by rw [hF_91 99 (by omega) (by omega) (by omega)]; exact hm_78
    have hm_160 : M_84 16 = some (cLines ad ) := by rw [hF_91 16 (by omega) (by omega) (by omega)]; exact hm_79
    have hL_161 : LSm G ad M_84 n kd fm to sz rl en := hL_80.keep (fun j hj => hF_91 j (by omega) (by omega) (by omega))
    have hF_162 : ∀ j : Nat, j ≠ 1 → j ≠ 2 → j ≠ 60 → j ≠ 80 → j ≠ 81 → M_84 j = M j := fun j q0 q1 q2 q3 q4 => (hF_91 j q2 q3 q4).trans (hF_81 j q0 q1)
    rw [hr_87]
    refine lv_icmp_eq (tgt := 1333) hx hb dL_law_204 (by decide) (fun c_163 => ?_) (fun c_163 => ?_)
    · -- 204: nI (len + 4 + 4 + 4 + 4 + 4) eq
      have c_163 : len + 4 + 4 + 4 + 4 + 4 = len + 20 := (nI_eq (a := len + 4 + 4 + 4 + 4 + 4) (b := len + 20) (by omega) (by omega)).mp (c_163)
      refine W.widen (k := cz + 10) (n := sy + 300) (by omega) (by omega) ?_
      exact kk ad M_84 H_85 locs_86 ls n kd fm to sz rl en qa qs fw (len + 20) (ad20 tb len (xs (i + 1)) (xs (i + 2)) (xs (i + 3)) (xs (i + 4)) (xs (i + 5))) le mo al ho jn hg lst jd s0 r0 th ol e0 mm9 ff lq ra rb rt rv qm pz sx ft rx dm rc ao vr kn nq pn av ro te sq su kb nb pb ab rbb tbb 0 sn pt zs bg mk mf mu mz rr ee oa ob s74 ak nm ap pr pf f2_93 (upd (upd (upd (upd (upd fv 0 (xs (i + 1))) 1 (xs (i + 2))) 2 (xs (i + 3))) 3 (xs (i + 4))) 4 (xs (i + 5))) tr gv fo re us nx of hL_161 w1 w2 w3 hrm (ad20_256 _ _ _ _ _ _ _ w5) (ad20_sB w6 hP_92) w7 w8 w9 w10 w11 w12 w13 w14 w15 w16 w17 w18 w19 w20 w21 w22 w23 w24 w25 w26 w27 w28 w29 (fun h9 => by rw [hF_162 17 (by omega) (by omega) (by omega) (by omega) (by omega), hF_162 18 (by omega) (by omega) (by omega) (by omega) (by omega)]; exact w30 h9) (by rw [hF_162 29 (by omega) (by omega) (by omega) (by omega) (by omega)]; exact w31) (fun j9 h9 => by rw [hF_162 j9 (by omega) (by omega) (by omega) (by omega) (by omega)]; exact w32 j9 h9) hm_94 hm_95 hm_96 hm_97 hm_98 hm_99 hm_100 hm_101 hm_102 hm_103 hm_104 hm_105 hm_106 hm_107 hm_108 hm_109 hm_110 hm_111 hm_112 hm_113 hm_114 hm_115 hm_116 hm_117 hm_118 hm_119 hm_120 hm_121 hm_122 hm_123 hm_124 hm_125 hm_126 hm_127 hm_128 hm_129 hm_130 hm_131 hm_132 hm_133 hm_88 hm_134 hm_135 hm_136 hm_137 hm_138 hm_139 hm_140 hm_141 hm_142 hm_143 hm_144 hm_145 hm_146 hm_147 hm_148 hm_149 hm_150 hm_151 hm_152 hm_89 hm_90 hm_153 hm_154 hm_155 hm_156 hm_157 hm_158 hm_159 hI (lv_sub hl [0, 1, 2, 3, 4] rfl)
    · -- 204: nI (len + 4 + 4 + 4 + 4 + 4) ne
      have c_163 : len + 4 + 4 + 4 + 4 + 4 ≠ len + 20 := by have h := mt (nI_eq (a := len + 4 + 4 + 4 + 4 + 4) (b := len + 20) (by omega) (by omega)).mpr c_163; omega
      omega
  · skip
    refine lv_aload_n hx hb dL_law_136 rfl (lv_at hl 1 rfl) ?_
    refine lv_aload_n hx hb dL_law_137 rfl (lv_at hl 0 rfl) ?_
    have hrm := hc_2
    refine lv_iload hx hb dL_law_138 (lv_at hl 4 rfl) ?_
    refine lv_iconst (v := nI 1) hx hb dL_law_140 (by decide) ?_
    refine lv_iadd hx hb dL_law_141 ?_
    refine n_eq (nI_add i 1) ?_
    refine va_sld (A := fr z) hx hb hX hbl hbz hI.S (vp_in_nI (n := i + 1) (by omega) (by omega)) dL_law_142 ?_
    rw [nI_clamp (by omega)]
    refine lv_aload_n hx hb dL_law_143 rfl (lv_at hl 0 rfl) ?_
    refine lv_iload hx hb dL_law_144 (lv_at hl 4 rfl) ?_
    refine lv_iconst (v := nI 2) hx hb dL_law_146 (by decide) ?_
    refine lv_iadd hx hb dL_law_147 ?_
    refine n_eq (nI_add i 2) ?_
    refine va_sld (A := fr z) hx hb hX hbl hbz hI.S (vp_in_nI (n := i + 2) (by omega) (by omega)) dL_law_148 ?_
    rw [nI_clamp (by omega)]
    refine lv_aload_n hx hb dL_law_149 rfl (lv_at hl 0 rfl) ?_
    refine lv_iload hx hb dL_law_150 (lv_at hl 4 rfl) ?_
    refine lv_iconst (v := nI 3) hx hb dL_law_152 (by decide) ?_
    refine lv_iadd hx hb dL_law_153 ?_
    refine n_eq (nI_add i 3) ?_
    refine va_sld (A := fr z) hx hb hX hbl hbz hI.S (vp_in_nI (n := i + 3) (by omega) (by omega)) dL_law_154 ?_
    rw [nI_clamp (by omega)]
    refine lv_aload_n hx hb dL_law_155 rfl (lv_at hl 0 rfl) ?_
    refine lv_iload hx hb dL_law_156 (lv_at hl 4 rfl) ?_
    refine lv_iconst (v := nI 4) hx hb dL_law_158 (by decide) ?_
    refine lv_iadd hx hb dL_law_159 ?_
    refine n_eq (nI_add i 4) ?_
    refine va_sld (A := fr z) hx hb hX hbl hbz hI.S (vp_in_nI (n := i + 4) (by omega) (by omega)) dL_law_160 ?_
    rw [nI_clamp (by omega)]
    refine lv_aload_n hx hb dL_law_161 rfl (lv_at hl 0 rfl) ?_
    refine lv_iload hx hb dL_law_162 (lv_at hl 4 rfl) ?_
    refine lv_iconst (v := nI 5) hx hb dL_law_164 (by decide) ?_
    refine lv_iadd hx hb dL_law_165 ?_
    refine n_eq (nI_add i 5) ?_
    refine va_sld (A := fr z) hx hb hX hbl hbz hI.S (vp_in_nI (n := i + 5) (by omega) (by omega)) dL_law_166 ?_
    rw [nI_clamp (by omega)]
    refine k_Ri (va_runV (As := [.int (xs (i + 1)), .int (xs (i + 2)), .int (xs (i + 3)), .int (xs (i + 4)), .int (xs (i + 5))]) (rest := []) ⟨hx, hb, hml, hown, hts⟩ (c_X9_feed_full l G z ad M (qa := qa) (qs := qs) (fw := fw) (len := len) (x1 := xs (i + 1)) (x2 := xs (i + 2)) (x3 := xs (i + 3)) (x4 := xs (i + 4)) (x5 := xs (i + 5)) f_0 f_1 w4 hrm) (cwV 5 hts (gV (lwg_of t_270 rfl) (lwg_of t_271 rfl) (lwg_of t_272 rfl) (lwg_of t_1 rfl) (lwg_of t_273 rfl)) rfl rfl rfl (by decide +kernel) ⟨Nat.le_of_ble_eq_true rfl, Nat.le_of_ble_eq_true rfl⟩) (hI.preV f_0 rfl) rfl rfl hl.1 rfl (lv_room (Nat.le_of_ble_eq_true rfl)) dL_law_167 ⟨(show _ ≤ (601024 : Nat) from by omega), (show _ ≤ (7293034 : Nat) from by omega)⟩) (fun _ h => h) (fun r_164 hp_165 => ?_)
    rw [hp_165]
    refine lv_aload_n hx hb dL_law_170 rfl (lv_at hl 2 rfl) ?_
    refine lv_aload_n hx hb dL_law_171 rfl (lv_at hl 0 rfl) ?_
    refine lv_iload hx hb dL_law_172 (lv_at hl 4 rfl) ?_
    refine lv_iconst (v := nI 1) hx hb dL_law_174 (by decide) ?_
    refine lv_iadd hx hb dL_law_175 ?_
    refine n_eq (nI_add i 1) ?_
    refine va_sld (A := fr z) hx hb hX hbl hbz hI.S (vp_in_nI (n := i + 1) (by omega) (by omega)) dL_law_176 ?_
    rw [nI_clamp (by omega)]
    refine lv_aload_n hx hb dL_law_177 rfl (lv_at hl 0 rfl) ?_
    refine lv_iload hx hb dL_law_178 (lv_at hl 4 rfl) ?_
    refine lv_iconst (v := nI 2) hx hb dL_law_180 (by decide) ?_
    refine lv_iadd hx hb dL_law_181 ?_
    refine n_eq (nI_add i 2) ?_
    refine va_sld (A := fr z) hx hb hX hbl hbz hI.S (vp_in_nI (n := i + 2) (by omega) (by omega)) dL_law_182 ?_
    rw [nI_clamp (by omega)]
    refine lv_aload_n hx hb dL_law_183 rfl (lv_at hl 0 rfl) ?_
    refine lv_iload hx hb dL_law_184 (lv_at hl 4 rfl) ?_
    refine lv_iconst (v := nI 3) hx hb dL_law_186 (by decide) ?_
    refine lv_iadd hx hb dL_law_187 ?_
    refine n_eq (nI_add i 3) ?_
    refine va_sld (A := fr z) hx hb hX hbl hbz hI.S (vp_in_nI (n := i + 3) (by omega) (by omega)) dL_law_188 ?_
    rw [nI_clamp (by omega)]
    refine lv_aload_n hx hb dL_law_189 rfl (lv_at hl 0 rfl) ?_
    refine lv_iload hx hb dL_law_190 (lv_at hl 4 rfl) ?_
    refine lv_iconst (v := nI 4) hx hb dL_law_192 (by decide) ?_
    refine lv_iadd hx hb dL_law_193 ?_
    refine n_eq (nI_add i 4) ?_
    refine va_sld (A := fr z) hx hb hX hbl hbz hI.S (vp_in_nI (n := i + 4) (by omega) (by omega)) dL_law_194 ?_
    rw [nI_clamp (by omega)]
    refine lv_aload_n hx hb dL_law_195 rfl (lv_at hl 0 rfl) ?_
    refine lv_iload hx hb dL_law_196 (lv_at hl 4 rfl) ?_
    refine lv_iconst (v := nI 5) hx hb dL_law_198 (by decide) ?_
    refine lv_iadd hx hb dL_law_199 ?_
    refine n_eq (nI_add i 5) ?_
    refine va_sld (A := fr z) hx hb hX hbl hbz hI.S (vp_in_nI (n := i + 5) (by omega) (by omega)) dL_law_200 ?_
    rw [nI_clamp (by omega)]
    refine k_Ni (va_runV (As := [.int (xs (i + 1)), .int (xs (i + 2)), .int (xs (i + 3)), .int (xs (i + 4)), .int (xs (i + 5))]) (rest := [.int (-1)]) ⟨hx, hb, hml, hown, hts⟩ (c_X10_feed_full l G z ad M (th := tw) (ln := n) (on := jn) (ao := ao) (vr := vr) (sn := sn) (tp := len) (pt := pt) (zs := zs) (bg := bg) (fa := fw) (x1 := xs (i + 1)) (x2 := xs (i + 2)) (x3 := xs (i + 3)) (x4 := xs (i + 4)) (x5 := xs (i + 5)) f_60 w4 hrm) (cwV 5 hts (gV (lwg_of t_1213 rfl) (lwg_of t_1214 rfl) (lwg_of t_1215 rfl) (lwg_of t_13 rfl) (lwg_of t_1216 rfl)) rfl rfl rfl (by decide +kernel) ⟨Nat.le_of_ble_eq_true rfl, Nat.le_of_ble_eq_true rfl⟩) (hI.preV f_60 rfl) rfl rfl hl.1 rfl (lv_room (Nat.le_of_ble_eq_true rfl)) dL_law_201 ⟨(show _ ≤ (601024 : Nat) from by omega), (show _ ≤ (7293034 : Nat) from by omega)⟩) hI (fun r_166 M_168 H_169 locs_170 hp_167 hI => ?_)
    obtain ⟨hr_171, hm_172, hF_173⟩ := hp_167
    have hm_174 : M_168 0 = some (cStore ad qa qs fw) := by rw [hF_173 0 (by omega)]; exact f_0
    have hm_175 : M_168 1 = some (cTape ad len) := by rw [hF_173 1 (by omega)]; exact f_1
    have hm_176 : M_168 2 = some (aI G 400 (nF tb)) := by rw [hF_173 2 (by omega)]; exact f_2
    have hm_177 : M_168 3 = some (cLaws ad ) := by rw [hF_173 3 (by omega)]; exact f_3
    have hm_178 : M_168 4 = some (aI G 36 (nF le)) := by rw [hF_173 4 (by omega)]; exact f_4
    have hm_179 : M_168 5 = some (aI G 36 (nF mo)) := by rw [hF_173 5 (by omega)]; exact f_5
    have hm_180 : M_168 6 = some (aI G 36 (nF al)) := by rw [hF_173 6 (by omega)]; exact f_6
    have hm_181 : M_168 7 = some (aZ G 6 (bF ho)) := by rw [hF_173 7 (by omega)]; exact f_7
    have hm_182 : M_168 8 = some (cOnes ad jn) := by rw [hF_173 8 (by omega)]; exact f_8
    have hm_183 : M_168 9 = some (aI G 40 (nF hg)) := by rw [hF_173 9 (by omega)]; exact f_9
    have hm_184 : M_168 10 = some (aI G 40 (nF lst)) := by rw [hF_173 10 (by omega)]; exact f_10
    have hm_185 : M_168 11 = some (aI G 40 (nF jd)) := by rw [hF_173 11 (by omega)]; exact f_11
    have hm_186 : M_168 12 = some (cEnds ad 12 s0) := by rw [hF_173 12 (by omega)]; exact f_12
    have hm_187 : M_168 13 = some (aI G 6 (nF r0)) := by rw [hF_173 13 (by omega)]; exact f_13
    have hm_188 : M_168 14 = some (aI G 6 (oF th)) := by rw [hF_173 14 (by omega)]; exact f_14
    have hm_189 : M_168 15 = some (aI G 6 (oF ol)) := by rw [hF_173 15 (by omega)]; exact f_15
    have hm_190 : M_168 19 = some (aZ G 120 (bF mm9)) := by rw [hF_173 19 (by omega)]; exact f_19
    have hm_191 : M_168 20 = some (aI G 120 ff) := by rw [hF_173 20 (by omega)]; exact f_20
    have hm_192 : M_168 21 = some (aI G 120 lq) := by rw [hF_173 21 (by omega)]; exact f_21
    have hm_193 : M_168 22 = some (cReader ad ra rb rt rv) := by rw [hF_173 22 (by omega)]; exact f_22
    have hm_194 : M_168 23 = some (cMatcher ad qm pz) := by rw [hF_173 23 (by omega)]; exact f_23
    have hm_195 : M_168 24 = some (aJ G 2160 sx) := by rw [hF_173 24 (by omega)]; exact f_24
    have hm_196 : M_168 25 = some (aI G 6 (nF ft)) := by rw [hF_173 25 (by omega)]; exact f_25
    have hm_197 : M_168 26 = some (aJ G 240 rx) := by rw [hF_173 26 (by omega)]; exact f_26
    have hm_198 : M_168 27 = some (aJ G 3 dm) := by rw [hF_173 27 (by omega)]; exact f_27
    have hm_199 : M_168 28 = some (aI G 3 rc) := by rw [hF_173 28 (by omega)]; exact f_28
    have hm_200 : M_168 qa = some (cQuestion ad qa ao vr) := by rw [hF_173 qa (by omega)]; exact f_qa
    have hm_201 : M_168 (qa + 1) = some (aI G 6 (nF kn)) := by rw [hF_173 (qa + 1) (by omega)]; exact f_qa_1
    have hm_202 : M_168 (qa + 2) = some (aZ G 6 (bF nq)) := by rw [hF_173 (qa + 2) (by omega)]; exact f_qa_2
    have hm_203 : M_168 (qa + 3) = some (aI G 6 (nF pn)) := by rw [hF_173 (qa + 3) (by omega)]; exact f_qa_3
    have hm_204 : M_168 (qa + 4) = some (aI G 6 (nF av)) := by rw [hF_173 (qa + 4) (by omega)]; exact f_qa_4
    have hm_205 : M_168 (qa + 5) = some (aI G 24 (nF ro)) := by rw [hF_173 (qa + 5) (by omega)]; exact f_qa_5
    have hm_206 : M_168 (qa + 6) = some (aI G 24 (nF te)) := by rw [hF_173 (qa + 6) (by omega)]; exact f_qa_6
    have hm_207 : M_168 qs = some (cQuestion ad qs sq su) := by rw [hF_173 qs (by omega)]; exact f_qs
    have hm_208 : M_168 (qs + 1) = some (aI G 6 (nF kb)) := by rw [hF_173 (qs + 1) (by omega)]; exact f_qs_1
    have hm_209 : M_168 (qs + 2) = some (aZ G 6 (bF nb)) := by rw [hF_173 (qs + 2) (by omega)]; exact f_qs_2
    have hm_210 : M_168 (qs + 3) = some (aI G 6 (nF pb)) := by rw [hF_173 (qs + 3) (by omega)]; exact f_qs_3
    have hm_211 : M_168 (qs + 4) = some (aI G 6 (nF ab)) := by rw [hF_173 (qs + 4) (by omega)]; exact f_qs_4
    have hm_212 : M_168 (qs + 5) = some (aI G 24 (nF rbb)) := by rw [hF_173 (qs + 5) (by omega)]; exact f_qs_5
    have hm_213 : M_168 (qs + 6) = some (aI G 24 (nF tbb)) := by rw [hF_173 (qs + 6) (by omega)]; exact f_qs_6
    have hm_214 : M_168 61 = some (aI G 36 (nF le)) := by rw [hF_173 61 (by omega)]; exact f_61
    have hm_215 : M_168 62 = some (aI G 36 (nF mo)) := by rw [hF_173 62 (by omega)]; exact f_62
    have hm_216 : M_168 63 = some (aI G 36 (nF al)) := by rw [hF_173 63 (by omega)]; exact f_63
    have hm_217 : M_168 64 = some (aZ G 6 (bF ho)) := by rw [hF_173 64 (by omega)]; exact f_64
    have hm_218 : M_168 65 = some (aI G 120 (nF mk)) := by rw [hF_173 65 (by omega)]; exact f_65
    have hm_219 : M_168 66 = some (aI G 120 mf) := by rw [hF_173 66 (by omega)]; exact f_66
    have hm_220 : M_168 67 = some (aI G 120 mu) := by rw [hF_173 67 (by omega)]; exact f_67
    have hm_221 : M_168 68 = some (aI G 121 (nF mz)) := by rw [hF_173 68 (by omega)]; exact f_68
    have hm_222 : M_168 69 = some (aI G 726 (nF rr)) := by rw [hF_173 69 (by omega)]; exact f_69
    have hm_223 : M_168 70 = some (aI G 726 (nF ee)) := by rw [hF_173 70 (by omega)]; exact f_70
    have hm_224 : M_168 71 = some (aI G 40 (nF lst)) := by rw [hF_173 71 (by omega)]; exact f_71
    have hm_225 : M_168 72 = some (aI G 40 (nF oa)) := by rw [hF_173 72 (by omega)]; exact f_72
    have hm_226 : M_168 73 = some (aI G 40 (nF ob)) := by rw [hF_173 73 (by omega)]; exact f_73
    have hm_227 : M_168 74 = some (aI G 120 s74) := by rw [hF_173 74 (by omega)]; exact f_74
    have hm_228 : M_168 75 = some (aI G 12 ak) := by rw [hF_173 75 (by omega)]; exact f_75
    have hm_229 : M_168 76 = some (aZ G 12 (bF nm)) := by rw [hF_173 76 (by omega)]; exact f_76
    have hm_230 : M_168 77 = some (aI G 12 (nF ap)) := by rw [hF_173 77 (by omega)]; exact f_77
    have hm_231 : M_168 78 = some (aI G 48 pr) := by rw [hF_173 78 (by omega)]; exact f_78
    have hm_232 : M_168 79 = some (aI G 48 pf) := by rw [hF_173 79 (by omega)]; exact f_79
    have hm_233 : M_168 80 = some (aB G 400 tf) := by rw [hF_173 80 (by omega)]; exact f_80
    have hm_234 : M_168 81 = some (aI G 5 fv) := by rw [hF_173 81 (by omega)]; exact f_81
    have hm_235 : M_168 82 = some (aZ G 384000 (bF tr)) := by rw [hF_173 82 (by omega)]; exact f_82
    have hm_236 : M_168 83 = some (aI G 3 (oF gv)) := by rw [hF_173 83 (by omega)]; exact f_83
    have hm_237 : M_168 84 = some (aI G 3 fo) := by rw [hF_173 84 (by omega)]; exact f_84
    have hm_238 : M_168 85 = some (aZ G 40 (bF re)) := by rw [hF_173 85 (by omega)]; exact f_85
    have hm_239 : M_168 86 = some (aZ G 120 (bF us)) := by rw [hF_173 86 (by omega)]; exact f_86
    have hm_240 : M_168 87 = some (aZ G 120 (bF nx)) := by rw [hF_173 87 (by omega)]; exact f_87
    have hm_241 : M_168 99 = some (aJ G 1 of) := by rw [hF_173 99 (by omega)]; exact f_99
    have hm_242 : M_168 16 = some (cLines ad ) := by rw [hF_173 16 (by omega)]; exact h16
    have hL_243 : LSm G ad M_168 n kd fm to sz rl en := fL.keep (fun j hj => hF_173 j (by omega))
    have hF_244 : ∀ j : Nat, j ≠ 60 → M_168 j = M j := fun j q0 => (hF_173 j q0)
    rw [hr_171]
    refine lv_icmp_eq (tgt := 1333) hx hb dL_law_204 (by decide) (fun c_245 => ?_) (fun c_245 => ?_)
    · -- 204: (-1) eq
      refine W.widen (k := cz + 10) (n := sy + 300) (by omega) (by omega) ?_
      exact kk ad M_168 H_169 locs_170 ls n kd fm to sz rl en qa qs fw len tb le mo al ho jn hg lst jd s0 r0 th ol e0 mm9 ff lq ra rb rt rv qm pz sx ft rx dm rc ao vr kn nq pn av ro te sq su kb nb pb ab rbb tbb 0 sn pt zs bg mk mf mu mz rr ee oa ob s74 ak nm ap pr pf tf fv tr gv fo re us nx of hL_243 w1 w2 w3 w4 w5 w6 w7 w8 w9 w10 w11 w12 w13 w14 w15 w16 w17 w18 w19 w20 w21 w22 w23 w24 w25 w26 w27 w28 w29 (fun h9 => by rw [hF_244 17 (by omega), hF_244 18 (by omega)]; exact w30 h9) (by rw [hF_244 29 (by omega)]; exact w31) (fun j9 h9 => by rw [hF_244 j9 (by omega)]; exact w32 j9 h9) hm_174 hm_175 hm_176 hm_177 hm_178 hm_179 hm_180 hm_181 hm_182 hm_183 hm_184 hm_185 hm_186 hm_187 hm_188 hm_189 hm_190 hm_191 hm_192 hm_193 hm_194 hm_195 hm_196 hm_197 hm_198 hm_199 hm_200 hm_201 hm_202 hm_203 hm_204 hm_205 hm_206 hm_207 hm_208 hm_209 hm_210 hm_211 hm_212 hm_213 hm_172 hm_214 hm_215 hm_216 hm_217 hm_218 hm_219 hm_220 hm_221 hm_222 hm_223 hm_224 hm_225 hm_226 hm_227 hm_228 hm_229 hm_230 hm_231 hm_232 hm_233 hm_234 hm_235 hm_236 hm_237 hm_238 hm_239 hm_240 hm_241 hI (lv_sub hl [0, 1, 2, 3, 4] rfl)
    · -- 204: (-1) ne
      exact absurd (by decide) c_245

set_option maxHeartbeats 8000000 in
set_option maxRecDepth 100000 in
theorem law_1 {p : Program} {l : Launch} {e : Env} {s : State} {m : MethodId} {below : List Frame} {meth : Method} {c : Code} {b L : Nat} {xs : Nat → Int32} {Q : State → Prop} {G : GG} {z : Nat} {ad : Nat → Nat} {M : Mem} {H : Heap} {locs : List Loc} {ls : Array Slot} {i cz sy : Nat} (hst : l.stackTraces = false) (hx : p.tables.exec = Jvm.exec) (hb : c.code = code) (hml : c.maxLocals = 7) (hown : s.vm.findClass RL = some m.cls) {cx : Cond} (hts : ∀ w ∈ cx :: lwg, w.before #[Value.ref b] s = true) (hX : va_X b L xs s s.heap) (hbl : b < s.heap.size) (hbz : ¬ z ≤ b) (hI : Iv G z ad M s H locs) (hl : lv_has ls 7 [(0, .ref b), (1, .ref (ad 0)), (2, .ref (ad 60)), (3, .ref (ad 99)), (4, .int (nI i))]) (hiL : i + 6 ≤ L) (hL : L ≤ 3072) (hcz : cz + 10 ≤ 601024) (hsy : sy + 300 ≤ 7293034) {n : Nat} {kd : Nat → Nat} {fm : Nat → Int32} {to : Nat → Int32} {sz : Nat → Nat} {rl : Nat → Nat → Nat} {en : Nat → Nat → Nat} {qa : Nat} {qs : Nat} {fw : Int32} {len : Nat} {tb : Nat → Nat} {le : Nat → Nat} {mo : Nat → Nat} {al : Nat → Nat} {ho : Nat → Bool} {jn : Nat} {hg : Nat → Nat} {lst : Nat → Nat} {jd : Nat → Nat} {s0 : Nat} {r0 : Nat → Nat} {th : Nat → Option Nat} {ol : Nat → Option Nat} {e0 : Nat → Nat} {mm9 : Nat → Bool} {ff : Nat → Int32} {lq : Nat → Int32} {ra : Nat} {rb : Nat} {rt : Int32} {rv : Int32} {qm : Nat} {pz : Nat} {sx : Nat → Int64} {ft : Nat → Nat} {rx : Nat → Int64} {dm : Nat → Int64} {rc : Nat → Int32} {ao : Nat} {vr : Nat} {kn : Nat → Nat} {nq : Nat → Bool} {pn : Nat → Nat} {av : Nat → Nat} {ro : Nat → Nat} {te : Nat → Nat} {sq : Nat} {su : Nat} {kb : Nat → Nat} {nb : Nat → Bool} {pb : Nat → Nat} {ab : Nat → Nat} {rbb : Nat → Nat} {tbb : Nat → Nat} {tw : Nat} {sn : Nat} {pt : Nat} {zs : Nat} {bg : Nat} {mk : Nat → Nat} {mf : Nat → Int32} {mu : Nat → Int32} {mz : Nat → Nat} {rr : Nat → Nat} {ee : Nat → Nat} {oa : Nat → Nat} {ob : Nat → Nat} {s74 : Nat → Int32} {ak : Nat → Int32} {nm : Nat → Bool} {ap : Nat → Nat} {pr : Nat → Int32} {pf : Nat → Int32} {tf : Nat → Int32} {fv : Nat → Int32} {tr : Nat → Bool} {gv : Nat → Option Nat} {fo : Nat → Int32} {re : Nat → Bool} {us : Nat → Bool} {nx : Nat → Bool} {of : Nat → Int64} (fL : LSm G ad M n kd fm to sz rl en) (w1 : LSw n kd sz rl en) (w2 : MRel n kd fm to sz rl en mk mf mu mz rr ee) (w3 : JI jn hg lst jd oa ob) (w4 : len ≤ 400) (w5 : ∀ j, j < len → tb j < 256) (w6 : ∀ j, j < len → tf j = sB (tb j)) (w7 : s0 ≤ 6) (w8 : mz 120 = s0) (w9 : ∀ j, j < s0 → rr (720 + j) = r0 j ∧ ee (720 + j) = e0 j) (w10 : ∀ j, j < s0 → r0 j < 6) (w11 : ∀ j, j < s0 → e0 j < 40 + n) (w12 : ∀ j, j < s0 → th j = thE e0 j) (w13 : ∀ j, j < s0 → ol j = olE e0 j) (w14 : ∀ j, j < 36 → le j < 100) (w15 : ∀ j, j < 36 → mo j < 100) (w16 : ∀ j, j < 36 → al j ≤ 100) (w17 : ∀ i, i < n → (0 : Int32) ≤ fm i) (w18 : ∀ i, i < n → ∀ k, hgs sz en i k = true → fm k ≤ fm i) (w19 : ao ≤ 6) (w20 : vr < 8) (w21 : ∀ i, i < ao → ap i ≤ 4 ∧ (ak i = nI (kn i) ∧ kn i < 6) ∧ ∀ p8, p8 < ap i → (pr (4 * i + p8) = nI (ro (i * 4 + p8)) ∧ ro (i * 4 + p8) < 6) ∧ te (i * 4 + p8) < 43 ∧ pf (4 * i + p8) = tmI (te (i * 4 + p8))) (w22 : ∀ i, i < ao → nm i = nq i ∧ ap i = pn i) (w23 : ∀ i, i < ao → av i < 8) (w24 : ∀ i, i < ao → (av i).testBit 0 = false → ∀ p9, p9 < pn i → te (i * 4 + p9) ≠ 40) (w25 : ∀ v, v < 3 → vr.testBit v = true → ∃ i, i < ao ∧ nq i = false ∧ ∃ k, k < pn i ∧ te (i * 4 + k) = 40 + v) (w26 : 29 < qa ∧ qa < 38) (w27 : 29 < qs ∧ qs < 38) (w28 : qa + 7 ≤ qs ∨ qs + 7 ≤ qa) (w29 : 29 < qm ∧ qm < 51) (w30 : n = 0 → (∃ mcn : Int32, M 17 = some (cList ad mcn G.2.2.2.2 0)) ∧ M 18 = none) (w31 : M 29 = none) (w32 : ∀ j, 100 + 5 * n ≤ j → M j = none) (f_0 : M 0 = some (cStore ad qa qs fw)) (f_1 : M 1 = some (cTape ad len)) (f_2 : M 2 = some (aI G 400 (nF tb))) (f_3 : M 3 = some (cLaws ad )) (f_4 : M 4 = some (aI G 36 (nF le))) (f_5 : M 5 = some (aI G 36 (nF mo))) (f_6 : M 6 = some (aI G 36 (nF al))) (f_7 : M 7 = some (aZ G 6 (bF ho))) (f_8 : M 8 = some (cOnes ad jn)) (f_9 : M 9 = some (aI G 40 (nF hg))) (f_10 : M 10 = some (aI G 40 (nF lst))) (f_11 : M 11 = some (aI G 40 (nF jd))) (f_12 : M 12 = some (cEnds ad 12 s0)) (f_13 : M 13 = some (aI G 6 (nF r0))) (f_14 : M 14 = some (aI G 6 (oF th))) (f_15 : M 15 = some (aI G 6 (oF ol))) (f_19 : M 19 = some (aZ G 120 (bF mm9))) (f_20 : M 20 = some (aI G 120 ff)) (f_21 : M 21 = some (aI G 120 lq)) (f_22 : M 22 = some (cReader ad ra rb rt rv)) (f_23 : M 23 = some (cMatcher ad qm pz)) (f_24 : M 24 = some (aJ G 2160 sx)) (f_25 : M 25 = some (aI G 6 (nF ft))) (f_26 : M 26 = some (aJ G 240 rx)) (f_27 : M 27 = some (aJ G 3 dm)) (f_28 : M 28 = some (aI G 3 rc)) (f_qa : M qa = some (cQuestion ad qa ao vr)) (f_qa_1 : M (qa + 1) = some (aI G 6 (nF kn))) (f_qa_2 : M (qa + 2) = some (aZ G 6 (bF nq))) (f_qa_3 : M (qa + 3) = some (aI G 6 (nF pn))) (f_qa_4 : M (qa + 4) = some (aI G 6 (nF av))) (f_qa_5 : M (qa + 5) = some (aI G 24 (nF ro))) (f_qa_6 : M (qa + 6) = some (aI G 24 (nF te))) (f_qs : M qs = some (cQuestion ad qs sq su)) (f_qs_1 : M (qs + 1) = some (aI G 6 (nF kb))) (f_qs_2 : M (qs + 2) = some (aZ G 6 (bF nb))) (f_qs_3 : M (qs + 3) = some (aI G 6 (nF pb))) (f_qs_4 : M (qs + 4) = some (aI G 6 (nF ab))) (f_qs_5 : M (qs + 5) = some (aI G 24 (nF rbb))) (f_qs_6 : M (qs + 6) = some (aI G 24 (nF tbb))) (f_60 : M 60 = some (cModel ad tw n jn ao vr sn len pt zs bg fw)) (f_61 : M 61 = some (aI G 36 (nF le))) (f_62 : M 62 = some (aI G 36 (nF mo))) (f_63 : M 63 = some (aI G 36 (nF al))) (f_64 : M 64 = some (aZ G 6 (bF ho))) (f_65 : M 65 = some (aI G 120 (nF mk))) (f_66 : M 66 = some (aI G 120 mf)) (f_67 : M 67 = some (aI G 120 mu)) (f_68 : M 68 = some (aI G 121 (nF mz))) (f_69 : M 69 = some (aI G 726 (nF rr))) (f_70 : M 70 = some (aI G 726 (nF ee))) (f_71 : M 71 = some (aI G 40 (nF lst))) (f_72 : M 72 = some (aI G 40 (nF oa))) (f_73 : M 73 = some (aI G 40 (nF ob))) (f_74 : M 74 = some (aI G 120 s74)) (f_75 : M 75 = some (aI G 12 ak)) (f_76 : M 76 = some (aZ G 12 (bF nm))) (f_77 : M 77 = some (aI G 12 (nF ap))) (f_78 : M 78 = some (aI G 48 pr)) (f_79 : M 79 = some (aI G 48 pf)) (f_80 : M 80 = some (aB G 400 tf)) (f_81 : M 81 = some (aI G 5 fv)) (f_82 : M 82 = some (aZ G 384000 (bF tr))) (f_83 : M 83 = some (aI G 3 (oF gv))) (f_84 : M 84 = some (aI G 3 fo)) (f_85 : M 85 = some (aZ G 40 (bF re))) (f_86 : M 86 = some (aZ G 120 (bF us))) (f_87 : M 87 = some (aZ G 120 (bF nx))) (f_99 : M 99 = some (aJ G 1 of)) (kk : ∀ (ad1 : Nat → Nat) (M1 : Mem) (H1 : Heap) (locs1 : List Loc) (ls1 : Array Slot) (n : Nat) (kd : Nat → Nat) (fm : Nat → Int32) (to : Nat → Int32) (sz : Nat → Nat) (rl : Nat → Nat → Nat) (en : Nat → Nat → Nat) (qa : Nat) (qs : Nat) (fw : Int32) (len : Nat) (tb : Nat → Nat) (le : Nat → Nat) (mo : Nat → Nat) (al : Nat → Nat) (ho : Nat → Bool) (jn : Nat) (hg : Nat → Nat) (lst : Nat → Nat) (jd : Nat → Nat) (s0 : Nat) (r0 : Nat → Nat) (th : Nat → Option Nat) (ol : Nat → Option Nat) (e0 : Nat → Nat) (mm9 : Nat → Bool) (ff : Nat → Int32) (lq : Nat → Int32) (ra : Nat) (rb : Nat) (rt : Int32) (rv : Int32) (qm : Nat) (pz : Nat) (sx : Nat → Int64) (ft : Nat → Nat) (rx : Nat → Int64) (dm : Nat → Int64) (rc : Nat → Int32) (ao : Nat) (vr : Nat) (kn : Nat → Nat) (nq : Nat → Bool) (pn : Nat → Nat) (av : Nat → Nat) (ro : Nat → Nat) (te : Nat → Nat) (sq : Nat) (su : Nat) (kb : Nat → Nat) (nb : Nat → Bool) (pb : Nat → Nat) (ab : Nat → Nat) (rbb : Nat → Nat) (tbb : Nat → Nat) (tw : Nat) (sn : Nat) (pt : Nat) (zs : Nat) (bg : Nat) (mk : Nat → Nat) (mf : Nat → Int32) (mu : Nat → Int32) (mz : Nat → Nat) (rr : Nat → Nat) (ee : Nat → Nat) (oa : Nat → Nat) (ob : Nat → Nat) (s74 : Nat → Int32) (ak : Nat → Int32) (nm : Nat → Bool) (ap : Nat → Nat) (pr : Nat → Int32) (pf : Nat → Int32) (tf : Nat → Int32) (fv : Nat → Int32) (tr : Nat → Bool) (gv : Nat → Option Nat) (fo : Nat → Int32) (re : Nat → Bool) (us : Nat → Bool) (nx : Nat → Bool) (of : Nat → Int64), (LSm G ad1 M1 n kd fm to sz rl en) → (LSw n kd sz rl en) → (MRel n kd fm to sz rl en mk mf mu mz rr ee) → (JI jn hg lst jd oa ob) → (len ≤ 400) → (∀ j, j < len → tb j < 256) → (∀ j, j < len → tf j = sB (tb j)) → (s0 ≤ 6) → (mz 120 = s0) → (∀ j, j < s0 → rr (720 + j) = r0 j ∧ ee (720 + j) = e0 j) → (∀ j, j < s0 → r0 j < 6) → (∀ j, j < s0 → e0 j < 40 + n) → (∀ j, j < s0 → th j = thE e0 j) → (∀ j, j < s0 → ol j = olE e0 j) → (∀ j, j < 36 → le j < 100) → (∀ j, j < 36 → mo j < 100) → (∀ j, j < 36 → al j ≤ 100) → (∀ i, i < n → (0 : Int32) ≤ fm i) → (∀ i, i < n → ∀ k, hgs sz en i k = true → fm k ≤ fm i) → (ao ≤ 6) → (vr < 8) → (∀ i, i < ao → ap i ≤ 4 ∧ (ak i = nI (kn i) ∧ kn i < 6) ∧ ∀ p8, p8 < ap i → (pr (4 * i + p8) = nI (ro (i * 4 + p8)) ∧ ro (i * 4 + p8) < 6) ∧ te (i * 4 + p8) < 43 ∧ pf (4 * i + p8) = tmI (te (i * 4 + p8))) → (∀ i, i < ao → nm i = nq i ∧ ap i = pn i) → (∀ i, i < ao → av i < 8) → (∀ i, i < ao → (av i).testBit 0 = false → ∀ p9, p9 < pn i → te (i * 4 + p9) ≠ 40) → (∀ v, v < 3 → vr.testBit v = true → ∃ i, i < ao ∧ nq i = false ∧ ∃ k, k < pn i ∧ te (i * 4 + k) = 40 + v) → (29 < qa ∧ qa < 38) → (29 < qs ∧ qs < 38) → (qa + 7 ≤ qs ∨ qs + 7 ≤ qa) → (29 < qm ∧ qm < 51) → (n = 0 → (∃ mcn : Int32, M1 17 = some (cList ad1 mcn G.2.2.2.2 0)) ∧ M1 18 = none) → (M1 29 = none) → (∀ j, 100 + 5 * n ≤ j → M1 j = none) → (M1 0 = some (cStore ad1 qa qs fw)) → (M1 1 = some (cTape ad1 len)) → (M1 2 = some (aI G 400 (nF tb))) → (M1 3 = some (cLaws ad1 )) → (M1 4 = some (aI G 36 (nF le))) → (M1 5 = some (aI G 36 (nF mo))) → (M1 6 = some (aI G 36 (nF al))) → (M1 7 = some (aZ G 6 (bF ho))) → (M1 8 = some (cOnes ad1 jn)) → (M1 9 = some (aI G 40 (nF hg))) → (M1 10 = some (aI G 40 (nF lst))) → (M1 11 = some (aI G 40 (nF jd))) → (M1 12 = some (cEnds ad1 12 s0)) → (M1 13 = some (aI G 6 (nF r0))) → (M1 14 = some (aI G 6 (oF th))) → (M1 15 = some (aI G 6 (oF ol))) → (M1 19 = some (aZ G 120 (bF mm9))) → (M1 20 = some (aI G 120 ff)) → (M1 21 = some (aI G 120 lq)) → (M1 22 = some (cReader ad1 ra rb rt rv)) → (M1 23 = some (cMatcher ad1 qm pz)) → (M1 24 = some (aJ G 2160 sx)) → (M1 25 = some (aI G 6 (nF ft))) → (M1 26 = some (aJ G 240 rx)) → (M1 27 = some (aJ G 3 dm)) → (M1 28 = some (aI G 3 rc)) → (M1 qa = some (cQuestion ad1 qa ao vr)) → (M1 (qa + 1) = some (aI G 6 (nF kn))) → (M1 (qa + 2) = some (aZ G 6 (bF nq))) → (M1 (qa + 3) = some (aI G 6 (nF pn))) → (M1 (qa + 4) = some (aI G 6 (nF av))) → (M1 (qa + 5) = some (aI G 24 (nF ro))) → (M1 (qa + 6) = some (aI G 24 (nF te))) → (M1 qs = some (cQuestion ad1 qs sq su)) → (M1 (qs + 1) = some (aI G 6 (nF kb))) → (M1 (qs + 2) = some (aZ G 6 (bF nb))) → (M1 (qs + 3) = some (aI G 6 (nF pb))) → (M1 (qs + 4) = some (aI G 6 (nF ab))) → (M1 (qs + 5) = some (aI G 24 (nF rbb))) → (M1 (qs + 6) = some (aI G 24 (nF tbb))) → (M1 60 = some (cModel ad1 tw n jn ao vr sn len pt zs bg fw)) → (M1 61 = some (aI G 36 (nF le))) → (M1 62 = some (aI G 36 (nF mo))) → (M1 63 = some (aI G 36 (nF al))) → (M1 64 = some (aZ G 6 (bF ho))) → (M1 65 = some (aI G 120 (nF mk))) → (M1 66 = some (aI G 120 mf)) → (M1 67 = some (aI G 120 mu)) → (M1 68 = some (aI G 121 (nF mz))) → (M1 69 = some (aI G 726 (nF rr))) → (M1 70 = some (aI G 726 (nF ee))) → (M1 71 = some (aI G 40 (nF lst))) → (M1 72 = some (aI G 40 (nF oa))) → (M1 73 = some (aI G 40 (nF ob))) → (M1 74 = some (aI G 120 s74)) → (M1 75 = some (aI G 12 ak)) → (M1 76 = some (aZ G 12 (bF nm))) → (M1 77 = some (aI G 12 (nF ap))) → (M1 78 = some (aI G 48 pr)) → (M1 79 = some (aI G 48 pf)) → (M1 80 = some (aB G 400 tf)) → (M1 81 = some (aI G 5 fv)) → (M1 82 = some (aZ G 384000 (bF tr))) → (M1 83 = some (aI G 3 (oF gv))) → (M1 84 = some (aI G 3 fo)) → (M1 85 = some (aZ G 40 (bF re))) → (M1 86 = some (aZ G 120 (bF us))) → (M1 87 = some (aZ G 120 (bF nx))) → (M1 99 = some (aJ G 1 of)) → Iv G z ad1 M1 s H1 locs1 → lv_has ls1 7 [(0, .ref b), (1, .ref (ad1 0)), (2, .ref (ad1 60)), (3, .ref (ad1 99)), (4, .int (nI i))] → W p l e room_1 s m #[Value.ref b] below meth c H1 locs1 (cz + 10) (sy + 300) Q (F0 m 1333 ls1 [])) : W p l e room_1 s m #[Value.ref b] below meth c H locs cz sy Q (F0 m 209 ls []) := by
  have h16 := fL.1
  have hw1 := w1.1
  have hlst := ji_lst w3
  refine lv_aload_n hx hb dL_law_209 rfl (lv_at hl 1 rfl) ?_
  refine lv_aload_n hx hb dL_law_210 rfl (lv_at hl 0 rfl) ?_
  refine lv_iload hx hb dL_law_211 (lv_at hl 4 rfl) ?_
  refine lv_iconst (v := nI 1) hx hb dL_law_213 (by decide) ?_
  refine lv_iadd hx hb dL_law_214 ?_
  refine n_eq (nI_add i 1) ?_
  refine va_sld (A := fr z) hx hb hX hbl hbz hI.S (vp_in_nI (n := i + 1) (by omega) (by omega)) dL_law_215 ?_
  rw [nI_clamp (by omega)]
  refine k_Ni (va_runV (As := [.int (xs (i + 1))]) (rest := []) ⟨hx, hb, hml, hown, hts⟩ (c_X9_end l G z ad M (qa := qa) (qs := qs) (fw := fw) (len := len) (x := xs (i + 1)) f_0 f_1 w4) (cwV 1 hts (gV (lwg_of t_287 rfl) (lwg_of t_288 rfl) (lwg_of t_289 rfl) (lwg_of t_1 rfl) (lwg_of t_290 rfl)) rfl rfl rfl (by decide +kernel) ⟨Nat.le_of_ble_eq_true rfl, Nat.le_of_ble_eq_true rfl⟩) (hI.preV f_0 rfl) rfl rfl hl.1 rfl (lv_room (Nat.le_of_ble_eq_true rfl)) dL_law_216 ⟨(show _ ≤ (601024 : Nat) from by omega), (show _ ≤ (7293034 : Nat) from by omega)⟩) hI (fun r_1 M_3 H_4 locs_5 hp_2 hI => ?_)
  obtain ⟨hr_6, hm_7, hF_8⟩ := hp_2
  have hm_9 : M_3 0 = some (cStore ad qa qs fw) := by rw [hF_8 0 (by omega)]; exact f_0
  have hm_10 : M_3 2 = some (aI G 400 (nF tb)) := by rw [hF_8 2 (by omega)]; exact f_2
  have hm_11 : M_3 3 = some (cLaws ad ) := by rw [hF_8 3 (by omega)]; exact f_3
  have hm_12 : M_3 4 = some (aI G 36 (nF le)) := by rw [hF_8 4 (by omega)]; exact f_4
  have hm_13 : M_3 5 = some (aI G 36 (nF mo)) := by rw [hF_8 5 (by omega)]; exact f_5
  have hm_14 : M_3 6 = some (aI G 36 (nF al)) := by rw [hF_8 6 (by omega)]; exact f_6
  have hm_15 : M_3 7 = some (aZ G 6 (bF ho)) := by rw [hF_8 7 (by omega)]; exact f_7
  have hm_16 : M_3 8 = some (cOnes ad jn) := by rw [hF_8 8 (by omega)]; exact f_8
  have hm_17 : M_3 9 = some (aI G 40 (nF hg)) := by rw [hF_8 9 (by omega)]; exact f_9
  have hm_18 : M_3 10 = some (aI G 40 (nF lst)) := by rw [hF_8 10 (by omega)]; exact f_10
  have hm_19 : M_3 11 = some (aI G 40 (nF jd)) := by rw [hF_8 11 (by omega)]; exact f_11
  have hm_20 : M_3 12 = some (cEnds ad 12 s0) := by rw [hF_8 12 (by omega)]; exact f_12
  have hm_21 : M_3 13 = some (aI G 6 (nF r0)) := by rw [hF_8 13 (by omega)]; exact f_13
  have hm_22 : M_3 14 = some (aI G 6 (oF th)) := by rw [hF_8 14 (by omega)]; exact f_14
  have hm_23 : M_3 15 = some (aI G 6 (oF ol)) := by rw [hF_8 15 (by omega)]; exact f_15
  have hm_24 : M_3 19 = some (aZ G 120 (bF mm9)) := by rw [hF_8 19 (by omega)]; exact f_19
  have hm_25 : M_3 20 = some (aI G 120 ff) := by rw [hF_8 20 (by omega)]; exact f_20
  have hm_26 : M_3 21 = some (aI G 120 lq) := by rw [hF_8 21 (by omega)]; exact f_21
  have hm_27 : M_3 22 = some (cReader ad ra rb rt rv) := by rw [hF_8 22 (by omega)]; exact f_22
  have hm_28 : M_3 23 = some (cMatcher ad qm pz) := by rw [hF_8 23 (by omega)]; exact f_23
  have hm_29 : M_3 24 = some (aJ G 2160 sx) := by rw [hF_8 24 (by omega)]; exact f_24
  have hm_30 : M_3 25 = some (aI G 6 (nF ft)) := by rw [hF_8 25 (by omega)]; exact f_25
  have hm_31 : M_3 26 = some (aJ G 240 rx) := by rw [hF_8 26 (by omega)]; exact f_26
  have hm_32 : M_3 27 = some (aJ G 3 dm) := by rw [hF_8 27 (by omega)]; exact f_27
  have hm_33 : M_3 28 = some (aI G 3 rc) := by rw [hF_8 28 (by omega)]; exact f_28
  have hm_34 : M_3 qa = some (cQuestion ad qa ao vr) := by rw [hF_8 qa (by omega)]; exact f_qa
  have hm_35 : M_3 (qa + 1) = some (aI G 6 (nF kn)) := by rw [hF_8 (qa + 1) (by omega)]; exact f_qa_1
  have hm_36 : M_3 (qa + 2) = some (aZ G 6 (bF nq)) := by rw [hF_8 (qa + 2) (by omega)]; exact f_qa_2
  have hm_37 : M_3 (qa + 3) = some (aI G 6 (nF pn)) := by rw [hF_8 (qa + 3) (by omega)]; exact f_qa_3
  have hm_38 : M_3 (qa + 4) = some (aI G 6 (nF av)) := by rw [hF_8 (qa + 4) (by omega)]; exact f_qa_4
  have hm_39 : M_3 (qa + 5) = some (aI G 24 (nF ro)) := by rw [hF_8 (qa + 5) (by omega)]; exact f_qa_5
  have hm_40 : M_3 (qa + 6) = some (aI G 24 (nF te)) := by rw [hF_8 (qa + 6) (by omega)]; exact f_qa_6
  have hm_41 : M_3 qs = some (cQuestion ad qs sq su) := by rw [hF_8 qs (by omega)]; exact f_qs
  have hm_42 : M_3 (qs + 1) = some (aI G 6 (nF kb)) := by rw [hF_8 (qs + 1) (by omega)]; exact f_qs_1
  have hm_43 : M_3 (qs + 2) = some (aZ G 6 (bF nb)) := by rw [hF_8 (qs + 2) (by omega)]; exact f_qs_2
  have hm_44 : M_3 (qs + 3) = some (aI G 6 (nF pb)) := by rw [hF_8 (qs + 3) (by omega)]; exact f_qs_3
  have hm_45 : M_3 (qs + 4) = some (aI G 6 (nF ab)) := by rw [hF_8 (qs + 4) (by omega)]; exact f_qs_4
  have hm_46 : M_3 (qs + 5) = some (aI G 24 (nF rbb)) := by rw [hF_8 (qs + 5) (by omega)]; exact f_qs_5
  have hm_47 : M_3 (qs + 6) = some (aI G 24 (nF tbb)) := by rw [hF_8 (qs + 6) (by omega)]; exact f_qs_6
  have hm_48 : M_3 60 = some (cModel ad tw n jn ao vr sn len pt zs bg fw) := by rw [hF_8 60 (by omega)]; exact f_60
  have hm_49 : M_3 61 = some (aI G 36 (nF le)) := by rw [hF_8 61 (by omega)]; exact f_61
  have hm_50 : M_3 62 = some (aI G 36 (nF mo)) := by rw [hF_8 62 (by omega)]; exact f_62
  have hm_51 : M_3 63 = some (aI G 36 (nF al)) := by rw [hF_8 63 (by omega)]; exact f_63
  have hm_52 : M_3 64 = some (aZ G 6 (bF ho)) := by rw [hF_8 64 (by omega)]; exact f_64
  have hm_53 : M_3 65 = some (aI G 120 (nF mk)) := by rw [hF_8 65 (by omega)]; exact f_65
  have hm_54 : M_3 66 = some (aI G 120 mf) := by rw [hF_8 66 (by omega)]; exact f_66
  have hm_55 : M_3 67 = some (aI G 120 mu) := by rw [hF_8 67 (by omega)]; exact f_67
  have hm_56 : M_3 68 = some (aI G 121 (nF mz)) := by rw [hF_8 68 (by omega)]; exact f_68
  have hm_57 : M_3 69 = some (aI G 726 (nF rr)) := by rw [hF_8 69 (by omega)]; exact f_69
  have hm_58 : M_3 70 = some (aI G 726 (nF ee)) := by rw [hF_8 70 (by omega)]; exact f_70
  have hm_59 : M_3 71 = some (aI G 40 (nF lst)) := by rw [hF_8 71 (by omega)]; exact f_71
  have hm_60 : M_3 72 = some (aI G 40 (nF oa)) := by rw [hF_8 72 (by omega)]; exact f_72
  have hm_61 : M_3 73 = some (aI G 40 (nF ob)) := by rw [hF_8 73 (by omega)]; exact f_73
  have hm_62 : M_3 74 = some (aI G 120 s74) := by rw [hF_8 74 (by omega)]; exact f_74
  have hm_63 : M_3 75 = some (aI G 12 ak) := by rw [hF_8 75 (by omega)]; exact f_75
  have hm_64 : M_3 76 = some (aZ G 12 (bF nm)) := by rw [hF_8 76 (by omega)]; exact f_76
  have hm_65 : M_3 77 = some (aI G 12 (nF ap)) := by rw [hF_8 77 (by omega)]; exact f_77
  have hm_66 : M_3 78 = some (aI G 48 pr) := by rw [hF_8 78 (by omega)]; exact f_78
  have hm_67 : M_3 79 = some (aI G 48 pf) := by rw [hF_8 79 (by omega)]; exact f_79
  have hm_68 : M_3 80 = some (aB G 400 tf) := by rw [hF_8 80 (by omega)]; exact f_80
  have hm_69 : M_3 81 = some (aI G 5 fv) := by rw [hF_8 81 (by omega)]; exact f_81
  have hm_70 : M_3 82 = some (aZ G 384000 (bF tr)) := by rw [hF_8 82 (by omega)]; exact f_82
  have hm_71 : M_3 83 = some (aI G 3 (oF gv)) := by rw [hF_8 83 (by omega)]; exact f_83
  have hm_72 : M_3 84 = some (aI G 3 fo) := by rw [hF_8 84 (by omega)]; exact f_84
  have hm_73 : M_3 85 = some (aZ G 40 (bF re)) := by rw [hF_8 85 (by omega)]; exact f_85
  have hm_74 : M_3 86 = some (aZ G 120 (bF us)) := by rw [hF_8 86 (by omega)]; exact f_86
  have hm_75 : M_3 87 = some (aZ G 120 (bF nx)) := by rw [hF_8 87 (by omega)]; exact f_87
  have hm_76 : M_3 99 = some (aJ G 1 of) := by rw [hF_8 99 (by omega)]; exact f_99
  have hm_77 : M_3 16 = some (cLines ad ) := by rw [hF_8 16 (by omega)]; exact h16
  have hL_78 : LSm G ad M_3 n kd fm to sz rl en := fL.keep (fun j hj => hF_8 j (by omega))
  have hF_79 : ∀ j : Nat, j ≠ 1 → M_3 j = M j := fun j q0 => (hF_8 j q0)
  rw [hr_6]
  refine lv_aload_n hx hb dL_law_219 rfl (lv_at hl 2 rfl) ?_
  refine lv_aload_n hx hb dL_law_220 rfl (lv_at hl 0 rfl) ?_
  refine lv_iload hx hb dL_law_221 (lv_at hl 4 rfl) ?_
  refine lv_iconst (v := nI 1) hx hb dL_law_223 (by decide) ?_
  refine lv_iadd hx hb dL_law_224 ?_
  refine n_eq (nI_add i 1) ?_
  refine va_sld (A := fr z) hx hb hX hbl hbz hI.S (vp_in_nI (n := i + 1) (by omega) (by omega)) dL_law_225 ?_
  rw [nI_clamp (by omega)]
  refine k_Ni (va_runV (As := [.int (xs (i + 1))]) (rest := [.int (bI (decide (¬ (xs (i + 1)) < nI 0 ∧ (xs (i + 1)) ≤ nI len)))]) ⟨hx, hb, hml, hown, hts⟩ (c_X10_end l G z ad M_3 (th := tw) (ln := n) (on := jn) (ao := ao) (vr := vr) (sn := sn) (tp := len) (pt := pt) (zs := zs) (bg := bg) (fa := fw) (x := xs (i + 1)) hm_48 w4) (cwV 1 hts (gV (lwg_of t_1217 rfl) (lwg_of t_1218 rfl) (lwg_of t_1219 rfl) (lwg_of t_13 rfl) (lwg_of t_1220 rfl)) rfl rfl rfl (by decide +kernel) ⟨Nat.le_of_ble_eq_true rfl, Nat.le_of_ble_eq_true rfl⟩) (hI.preV hm_48 rfl) rfl rfl hl.1 rfl (lv_room (Nat.le_of_ble_eq_true rfl)) dL_law_226 ⟨(show _ ≤ (601024 : Nat) from by omega), (show _ ≤ (7293034 : Nat) from by omega)⟩) hI (fun r_80 M_82 H_83 locs_84 hp_81 hI => ?_)
  obtain ⟨hr_85, hm_86, hF_87⟩ := hp_81
  have hm_88 : M_82 0 = some (cStore ad qa qs fw) := by rw [hF_87 0 (by omega)]; exact hm_9
  have hm_89 : M_82 1 = some (cTape ad (if ¬ (xs (i + 1)) < nI 0 ∧ (xs (i + 1)) ≤ nI len then (xs (i + 1)).toNatClampNeg else len)) := by rw [hF_87 1 (by omega)]; exact hm_7
  have hm_90 : M_82 2 = some (aI G 400 (nF tb)) := by rw [hF_87 2 (by omega)]; exact hm_10
  have hm_91 : M_82 3 = some (cLaws ad ) := by rw [hF_87 3 (by omega)]; exact hm_11
  have hm_92 : M_82 4 = some (aI G 36 (nF le)) := by rw [hF_87 4 (by omega)]; exact hm_12
  have hm_93 : M_82 5 = some (aI G 36 (nF mo)) := by rw [hF_87 5 (by omega)]; exact hm_13
  have hm_94 : M_82 6 = some (aI G 36 (nF al)) := by rw [hF_87 6 (by omega)]; exact hm_14
  have hm_95 : M_82 7 = some (aZ G 6 (bF ho)) := by rw [hF_87 7 (by omega)]; exact hm_15
  have hm_96 : M_82 8 = some (cOnes ad jn) := by rw [hF_87 8 (by omega)]; exact hm_16
  have hm_97 : M_82 9 = some (aI G 40 (nF hg)) := by rw [hF_87 9 (by omega)]; exact hm_17
  have hm_98 : M_82 10 = some (aI G 40 (nF lst)) := by rw [hF_87 10 (by omega)]; exact hm_18
  have hm_99 : M_82 11 = some (aI G 40 (nF jd)) := by rw [hF_87 11 (by omega)]; exact hm_19
  have hm_100 : M_82 12 = some (cEnds ad 12 s0) := by rw [hF_87 12 (by omega)]; exact hm_20
  have hm_101 : M_82 13 = some (aI G 6 (nF r0)) := by rw [hF_87 13 (by omega)]; exact hm_21
  have hm_102 : M_82 14 = some (aI G 6 (oF th)) := by rw [hF_87 14 (by omega)]; exact hm_22
  have hm_103 : M_82 15 = some (aI G 6 (oF ol)) := by rw [hF_87 15 (by omega)]; exact hm_23
  have hm_104 : M_82 19 = some (aZ G 120 (bF mm9)) := by rw [hF_87 19 (by omega)]; exact hm_24
  have hm_105 : M_82 20 = some (aI G 120 ff) := by rw [hF_87 20 (by omega)]; exact hm_25
  have hm_106 : M_82 21 = some (aI G 120 lq) := by rw [hF_87 21 (by omega)]; exact hm_26
  have hm_107 : M_82 22 = some (cReader ad ra rb rt rv) := by rw [hF_87 22 (by omega)]; exact hm_27
  have hm_108 : M_82 23 = some (cMatcher ad qm pz) := by rw [hF_87 23 (by omega)]; exact hm_28
  have hm_109 : M_82 24 = some (aJ G 2160 sx) := by rw [hF_87 24 (by omega)]; exact hm_29
  have hm_110 : M_82 25 = some (aI G 6 (nF ft)) := by rw [hF_87 25 (by omega)]; exact hm_30
  have hm_111 : M_82 26 = some (aJ G 240 rx) := by rw [hF_87 26 (by omega)]; exact hm_31
  have hm_112 : M_82 27 = some (aJ G 3 dm) := by rw [hF_87 27 (by omega)]; exact hm_32
  have hm_113 : M_82 28 = some (aI G 3 rc) := by rw [hF_87 28 (by omega)]; exact hm_33
  have hm_114 : M_82 qa = some (cQuestion ad qa ao vr) := by rw [hF_87 qa (by omega)]; exact hm_34
  have hm_115 : M_82 (qa + 1) = some (aI G 6 (nF kn)) := by rw [hF_87 (qa + 1) (by omega)]; exact hm_35
  have hm_116 : M_82 (qa + 2) = some (aZ G 6 (bF nq)) := by rw [hF_87 (qa + 2) (by omega)]; exact hm_36
  have hm_117 : M_82 (qa + 3) = some (aI G 6 (nF pn)) := by rw [hF_87 (qa + 3) (by omega)]; exact hm_37
  have hm_118 : M_82 (qa + 4) = some (aI G 6 (nF av)) := by rw [hF_87 (qa + 4) (by omega)]; exact hm_38
  have hm_119 : M_82 (qa + 5) = some (aI G 24 (nF ro)) := by rw [hF_87 (qa + 5) (by omega)]; exact hm_39
  have hm_120 : M_82 (qa + 6) = some (aI G 24 (nF te)) := by rw [hF_87 (qa + 6) (by omega)]; exact hm_40
  have hm_121 : M_82 qs = some (cQuestion ad qs sq su) := by rw [hF_87 qs (by omega)]; exact hm_41
  have hm_122 : M_82 (qs + 1) = some (aI G 6 (nF kb)) := by rw [hF_87 (qs + 1) (by omega)]; exact hm_42
  have hm_123 : M_82 (qs + 2) = some (aZ G 6 (bF nb)) := by rw [hF_87 (qs + 2) (by omega)]; exact hm_43
  have hm_124 : M_82 (qs + 3) = some (aI G 6 (nF pb)) := by rw [hF_87 (qs + 3) (by omega)]; exact hm_44
  have hm_125 : M_82 (qs + 4) = some (aI G 6 (nF ab)) := by rw [hF_87 (qs + 4) (by omega)]; exact hm_45
  have hm_126 : M_82 (qs + 5) = some (aI G 24 (nF rbb)) := by rw [hF_87 (qs + 5) (by omega)]; exact hm_46
  have hm_127 : M_82 (qs + 6) = some (aI G 24 (nF tbb)) := by rw [hF_87 (qs + 6) (by omega)]; exact hm_47
  have hm_128 : M_82 61 = some (aI G 36 (nF le)) := by rw [hF_87 61 (by omega)]; exact hm_49
  have hm_129 : M_82 62 = some (aI G 36 (nF mo)) := by rw [hF_87 62 (by omega)]; exact hm_50
  have hm_130 : M_82 63 = some (aI G 36 (nF al)) := by rw [hF_87 63 (by omega)]; exact hm_51
  have hm_131 : M_82 64 = some (aZ G 6 (bF ho)) := by rw [hF_87 64 (by omega)]; exact hm_52
  have hm_132 : M_82 65 = some (aI G 120 (nF mk)) := by rw [hF_87 65 (by omega)]; exact hm_53
  have hm_133 : M_82 66 = some (aI G 120 mf) := by rw [hF_87 66 (by omega)]; exact hm_54
  have hm_134 : M_82 67 = some (aI G 120 mu) := by rw [hF_87 67 (by omega)]; exact hm_55
  have hm_135 : M_82 68 = some (aI G 121 (nF mz)) := by rw [hF_87 68 (by omega)]; exact hm_56
  have hm_136 : M_82 69 = some (aI G 726 (nF rr)) := by rw [hF_87 69 (by omega)]; exact hm_57
  have hm_137 : M_82 70 = some (aI G 726 (nF ee)) := by rw [hF_87 70 (by omega)]; exact hm_58
  have hm_138 : M_82 71 = some (aI G 40 (nF lst)) := by rw [hF_87 71 (by omega)]; exact hm_59
  have hm_139 : M_82 72 = some (aI G 40 (nF oa)) := by rw [hF_87 72 (by omega)]; exact hm_60
  have hm_140 : M_82 73 = some (aI G 40 (nF ob)) := by rw [hF_87 73 (by omega)]; exact hm_61
  have hm_141 : M_82 74 = some (aI G 120 s74) := by rw [hF_87 74 (by omega)]; exact hm_62
  have hm_142 : M_82 75 = some (aI G 12 ak) := by rw [hF_87 75 (by omega)]; exact hm_63
  have hm_143 : M_82 76 = some (aZ G 12 (bF nm)) := by rw [hF_87 76 (by omega)]; exact hm_64
  have hm_144 : M_82 77 = some (aI G 12 (nF ap)) := by rw [hF_87 77 (by omega)]; exact hm_65
  have hm_145 : M_82 78 = some (aI G 48 pr) := by rw [hF_87 78 (by omega)]; exact hm_66
  have hm_146 : M_82 79 = some (aI G 48 pf) := by rw [hF_87 79 (by omega)]; exact hm_67
  have hm_147 : M_82 80 = some (aB G 400 tf) := by rw [hF_87 80 (by omega)]; exact hm_68
  have hm_148 : M_82 81 = some (aI G 5 fv) := by rw [hF_87 81 (by omega)]; exact hm_69
  have hm_149 : M_82 82 = some (aZ G 384000 (bF tr)) := by rw [hF_87 82 (by omega)]; exact hm_70
  have hm_150 : M_82 83 = some (aI G 3 (oF gv)) := by rw [hF_87 83 (by omega)]; exact hm_71
  have hm_151 : M_82 84 = some (aI G 3 fo) := by rw [hF_87 84 (by omega)]; exact hm_72
  have hm_152 : M_82 85 = some (aZ G 40 (bF re)) := by rw [hF_87 85 (by omega)]; exact hm_73
  have hm_153 : M_82 86 = some (aZ G 120 (bF us)) := by rw [hF_87 86 (by omega)]; exact hm_74
  have hm_154 : M_82 87 = some (aZ G 120 (bF nx)) := by rw [hF_87 87 (by omega)]; exact hm_75
  have hm_155 : M_82 99 = some (aJ G 1 of) := by rw [hF_87 99 (by omega)]; exact hm_76
  have hm_156 : M_82 16 = some (cLines ad ) := by rw [hF_87 16 (by omega)]; exact hm_77
  have hL_157 : LSm G ad M_82 n kd fm to sz rl en := hL_78.keep (fun j hj => hF_87 j (by omega))
  have hF_158 : ∀ j : Nat, j ≠ 1 → j ≠ 60 → M_82 j = M j := fun j q0 q1 => (hF_87 j q1).trans (hF_79 j q0)
  rw [hr_85]
  refine lv_icmp_eq (tgt := 1333) hx hb dL_law_229 (by decide) (fun c_159 => ?_) (fun c_159 => ?_)
  · -- 229: bI (decide (¬ (xs (i + 1)) < nI 0 ∧ (xs (i + 1)) ≤ nI len)) eq
    have c_159 : decide (¬ (xs (i + 1)) < nI 0 ∧ (xs (i + 1)) ≤ nI len) = decide (¬ (xs (i + 1)) < nI 0 ∧ (xs (i + 1)) ≤ nI len) := bI_inj c_159
    refine W.widen (k := cz + 10) (n := sy + 300) (by omega) (by omega) ?_
    exact kk ad M_82 H_83 locs_84 ls n kd fm to sz rl en qa qs fw (if ¬ (xs (i + 1)) < nI 0 ∧ (xs (i + 1)) ≤ nI len then (xs (i + 1)).toNatClampNeg else len) tb le mo al ho jn hg lst jd s0 r0 th ol e0 mm9 ff lq ra rb rt rv qm pz sx ft rx dm rc ao vr kn nq pn av ro te sq su kb nb pb ab rbb tbb 0 sn pt zs bg mk mf mu mz rr ee oa ob s74 ak nm ap pr pf tf fv tr gv fo re us nx of hL_157 w1 w2 w3 (Nat.le_trans (endL_le _ _ w4) w4) (fun j h => w5 j (Nat.lt_of_lt_of_le h (endL_le _ _ w4))) (fun j h => w6 j (Nat.lt_of_lt_of_le h (endL_le _ _ w4))) w7 w8 w9 w10 w11 w12 w13 w14 w15 w16 w17 w18 w19 w20 w21 w22 w23 w24 w25 w26 w27 w28 w29 (fun h9 => by rw [hF_158 17 (by omega) (by omega), hF_158 18 (by omega) (by omega)]; exact w30 h9) (by rw [hF_158 29 (by omega) (by omega)]; exact w31) (fun j9 h9 => by rw [hF_158 j9 (by omega) (by omega)]; exact w32 j9 h9) hm_88 hm_89 hm_90 hm_91 hm_92 hm_93 hm_94 hm_95 hm_96 hm_97 hm_98 hm_99 hm_100 hm_101 hm_102 hm_103 hm_104 hm_105 hm_106 hm_107 hm_108 hm_109 hm_110 hm_111 hm_112 hm_113 hm_114 hm_115 hm_116 hm_117 hm_118 hm_119 hm_120 hm_121 hm_122 hm_123 hm_124 hm_125 hm_126 hm_127 hm_86 hm_128 hm_129 hm_130 hm_131 hm_132 hm_133 hm_134 hm_135 hm_136 hm_137 hm_138 hm_139 hm_140 hm_141 hm_142 hm_143 hm_144 hm_145 hm_146 hm_147 hm_148 hm_149 hm_150 hm_151 hm_152 hm_153 hm_154 hm_155 hI (lv_sub hl [0, 1, 2, 3, 4] rfl)
  · -- 229: bI (decide (¬ (xs (i + 1)) < nI 0 ∧ (xs (i + 1)) ≤ nI len)) ne
    have c_159 : decide (¬ (xs (i + 1)) < nI 0 ∧ (xs (i + 1)) ≤ nI len) ≠ decide (¬ (xs (i + 1)) < nI 0 ∧ (xs (i + 1)) ≤ nI len) := (fun h => c_159 (congrArg bI h))
    exact absurd rfl c_159
