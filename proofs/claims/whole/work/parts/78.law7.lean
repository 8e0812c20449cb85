theorem getD_mem {α : Type} {L : List α} {d : α} {k : Nat} (h : k < L.length) : L.getD k d ∈ L := by
  rw [List.getD_eq_getElem?_getD, List.getElem?_eq_getElem h]
  exact List.getElem_mem _
section QF
variable {kn pn av ro te ap : Nat → Nat} {nq nm : Nat → Bool} {ak pr pf : Nat → Int32} {A : List Atom} {ao vr : Nat}
theorem fold_b (L : List (Nat × Nat)) : ∀ u v, (L.foldl (fun u x => u ||| vb x.2) u).testBit v = true ↔ u.testBit v = true ∨ ∃ y, y ∈ L ∧ (vb y.2).testBit v = true := by
  induction L with
  | nil => intro u v; simp
  | cons a L ih =>
    intro u v
    rw [List.foldl_cons, ih, Nat.testBit_or, Bool.or_eq_true]
    constructor
    · rintro ((h | h) | ⟨y, h1, h2⟩)
      · exact Or.inl h
      · exact Or.inr ⟨a, by simp, h⟩
      · exact Or.inr ⟨y, by simp [h1], h2⟩
    · rintro (h | ⟨y, h1, h2⟩)
      · exact Or.inl (Or.inl h)
      · rcases List.mem_cons.mp h1 with rfl | h3
        · exact Or.inl (Or.inr h2)
        · exact Or.inr ⟨y, h3, h2⟩
theorem vb_lt8 {t : Nat} (h : t < 43) : vb t < 2 ^ 3 := by
  unfold vb
  split
  · decide
  · rcases (by omega : t - 40 = 0 ∨ t - 40 = 1 ∨ t - 40 = 2) with e | e | e <;> rw [e] <;> decide
theorem fold_lt8 (L : List (Nat × Nat)) : ∀ u, u < 2 ^ 3 → (∀ y, y ∈ L → y.1 < 6 ∧ y.2 < 43) → L.foldl (fun u x => u ||| vb x.2) u < 2 ^ 3 := by
  induction L with
  | nil => intro u hu _; exact hu
  | cons a L ih =>
    intro u hu h
    rw [List.foldl_cons]
    exact ih _ (Nat.or_lt_two_pow hu (vb_lt8 (h a (by simp)).2)) (fun y hy => h y (by simp [hy]))
theorem q23 (h : qR kn nq pn av ro te A) : ∀ i, i < A.length → av i < 8 := fun i hi => by
  obtain ⟨-, -, -, ⟨-, h2, -, h4⟩, -⟩ := h i hi
  rw [h2]
  exact fold_lt8 _ 0 (by decide) h4
theorem q24 (h : qR kn nq pn av ro te A) : ∀ i, i < A.length → (av i).testBit 0 = false → ∀ p9, p9 < pn i → te (i * 4 + p9) ≠ 40 := fun i hi hb p9 hp e => by
  obtain ⟨-, -, -, ⟨h1, h2, h3, -⟩, -⟩ := h i hi
  rw [h1] at hp
  have h5 := (h3 p9 hp).2
  have hm : (A.getD i (0, false, [])).2.2.getD p9 (0, 0) ∈ (A.getD i (0, false, [])).2.2 := getD_mem hp
  have h6 : (av i).testBit 0 = true := by
    rw [h2, fold_b]
    refine Or.inr ⟨_, hm, ?_⟩
    rw [← h5, e]
    decide
  rw [hb] at h6
  cases h6
theorem q21 (h : qR kn nq pn av ro te A) (h2 : mqR ak nm ap pr pf 0 A) : ∀ i, i < A.length → ap i ≤ 4 ∧ (ak i = nI (kn i) ∧ kn i < 6) ∧ ∀ p8, p8 < ap i → (pr (4 * i + p8) = nI (ro (i * 4 + p8)) ∧ ro (i * 4 + p8) < 6) ∧ te (i * 4 + p8) < 43 ∧ pf (4 * i + p8) = tmI (te (i * 4 + p8)) := fun i hi => by
  obtain ⟨a1, a2, -, ⟨b1, -, b3, b4⟩, a5⟩ := h i hi
  obtain ⟨c1, c2, -, ⟨d1, d3, -⟩, -⟩ := h2 i hi
  rw [Nat.zero_add] at c1 d1 d3
  refine ⟨by rw [d1]; exact a5, ⟨by rw [c1, a1], a2⟩, fun p8 hp => ?_⟩
  rw [d1] at hp
  have e3 := b3 p8 hp
  have f3 := d3 p8 hp
  have hm : (A.getD i (0, false, [])).2.2.getD p8 (0, 0) ∈ (A.getD i (0, false, [])).2.2 := getD_mem hp
  have h4 := b4 _ hm
  refine ⟨⟨by rw [f3.1, e3.1], by rw [e3.1]; exact h4.1⟩, by rw [e3.2]; exact h4.2, by rw [f3.2, e3.2]⟩
theorem q22 (h : qR kn nq pn av ro te A) (h2 : mqR ak nm ap pr pf 0 A) : ∀ i, i < A.length → nm i = nq i ∧ ap i = pn i := fun i hi => by
  obtain ⟨-, -, a3, ⟨b1, -⟩, -⟩ := h i hi
  obtain ⟨-, -, c3, ⟨d1, -⟩, -⟩ := h2 i hi
  rw [Nat.zero_add] at c3 d1
  exact ⟨c3.trans a3.symm, d1.trans b1.symm⟩
theorem w21_k {ak2 pr2 pf2 : Nat → Int32} {nm2 : Nat → Bool} {ap2 : Nat → Nat} (hao : ao ≤ 6) (h : ∀ i, i < ao → ap i ≤ 4 ∧ (ak i = nI (kn i) ∧ kn i < 6) ∧ ∀ p8, p8 < ap i → (pr (4 * i + p8) = nI (ro (i * 4 + p8)) ∧ ro (i * 4 + p8) < 6) ∧ te (i * 4 + p8) < 43 ∧ pf (4 * i + p8) = tmI (te (i * 4 + p8))) (hk : (∀ j, j < 6 → ak2 j = ak j ∧ nm2 j = nm j) ∧ keepM 6 ap pr pf ap2 pr2 pf2) : ∀ i, i < ao → ap2 i ≤ 4 ∧ (ak2 i = nI (kn i) ∧ kn i < 6) ∧ ∀ p8, p8 < ap2 i → (pr2 (4 * i + p8) = nI (ro (i * 4 + p8)) ∧ ro (i * 4 + p8) < 6) ∧ te (i * 4 + p8) < 43 ∧ pf2 (4 * i + p8) = tmI (te (i * 4 + p8)) := fun i hi => by
  obtain ⟨a1, a2, a3⟩ := h i hi
  rw [hk.2.1 i (by omega), (hk.1 i (by omega)).1]
  refine ⟨a1, a2, fun p8 hp => ?_⟩
  rw [(hk.2.2 (4 * i + p8) (by omega)).1, (hk.2.2 (4 * i + p8) (by omega)).2]
  exact a3 p8 hp
theorem w22_k {ak2 pr2 pf2 : Nat → Int32} {nm2 : Nat → Bool} {ap2 : Nat → Nat} (hao : ao ≤ 6) (h : ∀ i, i < ao → nm i = nq i ∧ ap i = pn i) (hk : (∀ j, j < 6 → ak2 j = ak j ∧ nm2 j = nm j) ∧ keepM 6 ap pr pf ap2 pr2 pf2) : ∀ i, i < ao → nm2 i = nq i ∧ ap2 i = pn i := fun i hi => by
  rw [hk.2.1 i (by omega), (hk.1 i (by omega)).2]
  exact h i hi
theorem qw_of (h : ∀ i, i < ao → ap i ≤ 4 ∧ (ak i = nI (kn i) ∧ kn i < 6) ∧ ∀ p8, p8 < ap i → (pr (4 * i + p8) = nI (ro (i * 4 + p8)) ∧ ro (i * 4 + p8) < 6) ∧ te (i * 4 + p8) < 43 ∧ pf (4 * i + p8) = tmI (te (i * 4 + p8))) (h2 : ∀ i, i < ao → nm i = nq i ∧ ap i = pn i) : ∀ i, i < ao → kn i < 6 ∧ pn i ≤ 4 ∧ ∀ j, j < pn i → ro (i * 4 + j) < 6 ∧ te (i * 4 + j) < 43 := fun i hi => by
  obtain ⟨a1, a2, a3⟩ := h i hi
  rw [← (h2 i hi).2]
  exact ⟨a2.2, a1, fun j hj => ⟨(a3 j hj).1.2, (a3 j hj).2.1⟩⟩
theorem pos_cg (h2 : ∀ i, i < ao → nm i = nq i ∧ ap i = pn i) (h : ∀ v, v < 3 → vr.testBit v = true → ∃ i, i < ao ∧ nq i = false ∧ ∃ k, k < pn i ∧ te (i * 4 + k) = 40 + v) : ∀ v, v < 3 → vr.testBit v = true → ∃ i, i < ao ∧ nm i = false ∧ ∃ k, k < ap i ∧ te (i * 4 + k) = 40 + v := fun v hv hb => by
  obtain ⟨i, hi, a1, k, a2, a3⟩ := h v hv hb
  exact ⟨i, hi, (h2 i hi).1.trans a1, k, by rw [(h2 i hi).2]; exact a2, a3⟩
theorem ao_pos (h : ∀ v, v < 3 → vr.testBit v = true → ∃ i, i < ao ∧ nq i = false ∧ ∃ k, k < pn i ∧ te (i * 4 + k) = 40 + v) {v : Nat} (hv : v < 3) (hb : vr.testBit v = true) : 0 < ao := by
  obtain ⟨i, hi, -⟩ := h v hv hb
  omega
theorem aP_cg {P : Nat → Bool} {n : Nat} {K : Nat → Nat → Prop} {T : Nat → Nat → Nat → Prop} {lst : Nat → Nat} (h2 : ∀ i, i < ao → nm i = nq i ∧ ap i = pn i) (h : aP P n K T lst ro te pn nq vr ao) : aP P n K T lst ro te ap nm vr ao := fun a b c ha hb hc => by
  rw [h a b c ha hb hc]
  unfold ANS
  refine and_congr Iff.rfl (forall_congr' fun i => forall_congr' fun hi => ?_)
  rw [(h2 i hi).1]
  unfold aTr
  rw [(h2 i hi).2]
end QF
theorem cntB_leN {P : Nat → Bool} {a b : Nat} (h : a ≤ b) : cntB P a ≤ cntB P b := by
  obtain ⟨c, rfl⟩ := Nat.exists_eq_add_of_le h
  rw [cntB_split]
  omega
theorem cntB_ltN {P : Nat → Bool} {a b : Nat} (h : a < b) (hP : P a = true) : cntB P a < cntB P b := by
  have h1 := cntB_leN (P := P) (show a + 1 ≤ b from h)
  rw [cntB_t hP] at h1
  omega
theorem hit_eq {P Q : Nat → Bool} (hPQ : ∀ k, k < 64000 → P k = Q k) {q v : Nat} {r1 r2 : Int32} (h1 : cntB P 64000 ≤ q ∧ r1 = -1 ∨ ∃ k, k < 64000 ∧ P k = true ∧ cntB P k = q ∧ r1 = nI (cmp3 (k / 1600) (k / 40 % 40) (k % 40) v)) (h2 : cntB Q 64000 ≤ q ∧ r2 = -1 ∨ ∃ k, k < 64000 ∧ Q k = true ∧ cntB Q k = q ∧ r2 = nI (cmp3 (k / 1600) (k / 40 % 40) (k % 40) v)) : r1 = r2 := by
  have hc : ∀ k, k ≤ 64000 → cntB P k = cntB Q k := fun k hk => cntB_congr (fun i hi => hPQ i (by omega))
  have h0 := hc 64000 (Nat.le_refl _)
  rcases h1 with ⟨a1, a2⟩ | ⟨k, a1, a2, a3, a4⟩
  · rcases h2 with ⟨b1, b2⟩ | ⟨j, b1, b2, b3, b4⟩
    · rw [a2, b2]
    · have := cntB_ltN b1 b2
      omega
  · have h5 := cntB_ltN a1 a2
    rcases h2 with ⟨b1, b2⟩ | ⟨j, b1, b2, b3, b4⟩
    · omega
    · have h6 := hc j (by omega)
      have e : k = j := by
        rcases Nat.lt_trichotomy k j with h | h | h
        · have := cntB_ltN h a2
          omega
        · exact h
        · have := cntB_ltN h b2
          have h7 := hc k (by omega)
          omega
      subst e
      rw [a4, b4]
theorem in_neg (x : Int32) : x < 0 ∨ ∃ t : Nat, t < 2 ^ 31 ∧ x = nI t := by
  by_cases h : x < 0
  · exact Or.inl h
  · obtain ⟨t, ht, e⟩ := nI_of h
    exact Or.inr ⟨t, ht, e⟩
theorem rd_or (x : Nat ⊕ (List Atom × Nat)) : (∃ g, x = .inl g) ∨ ∃ A u, x = .inr (A, u) := by
  cases x with
  | inl g => exact Or.inl ⟨g, rfl⟩
  | inr y => exact Or.inr ⟨y.1, y.2, rfl⟩

set_option maxHeartbeats 8000000 in
set_option maxRecDepth 100000 in
theorem law_15 {p : Program} {l : Launch} {e : Env} {s : State} {m : MethodId} {below : List Frame} {meth : Method} {c : Code} {b L : Nat} {xs : Nat → Int32} {Q : State → Prop} {G : GG} {z : Nat} {ad : Nat → Nat} {M : Mem} {H : Heap} {locs : List Loc} {ls : Array Slot} {i cz sy : Nat} (hst : l.stackTraces = false) (hx : p.tables.exec = Jvm.exec) (hb : c.code = code) (hml : c.maxLocals = 7) (hown : s.vm.findClass RL = some m.cls) {cx : Cond} (hts : ∀ w ∈ cx :: lwg, w.before #[Value.ref b] s = true) (hX : va_X b L xs s s.heap) (hbl : b < s.heap.size) (hbz : ¬ z ≤ b) (hI : Iv G z ad M s H locs) (hl : lv_has ls 7 [(0, .ref b), (1, .ref (ad 0)), (2, .ref (ad 60)), (3, .ref (ad 99)), (4, .int (nI i))]) (hiL : i + 6 ≤ L) (hL : L ≤ 3072) (hcz : cz + 10 ≤ 601024) (hsy : sy + 300 ≤ 7293034) {n : Nat} {kd : Nat → Nat} {fm : Nat → Int32} {to : Nat → Int32} {sz : Nat → Nat} {rl : Nat → Nat → Nat} {en : Nat → Nat → Nat} {qa : Nat} {qs : Nat} {fw : Int32} {len : Nat} {tb : Nat → Nat} {le : Nat → Nat} {mo : Nat → Nat} {al : Nat → Nat} {ho : Nat → Bool} {jn : Nat} {hg : Nat → Nat} {lst : Nat → Nat} {jd : Nat → Nat} {s0 : Nat} {r0 : Nat → Nat} {th : Nat → Option Nat} {ol : Nat → Option Nat} {e0 : Nat → Nat} {mm9 : Nat → Bool} {ff : Nat → Int32} {lq : Nat → Int32} {ra : Nat} {rb : Nat} {rt : Int32} {rv : Int32} {qm : Nat} {pz : Nat} {sx : Nat → Int64} {ft : Nat → Nat} {rx : Nat → Int64} {dm : Nat → Int64} {rc : Nat → Int32} {ao : Nat} {vr : Nat} {kn : Nat → Nat} {nq : Nat → Bool} {pn : Nat → Nat} {av : Nat → Nat} {ro : Nat → Nat} {te : Nat → Nat} {sq : Nat} {su : Nat} {kb : Nat → Nat} {nb : Nat → Bool} {pb : Nat → Nat} {ab : Nat → Nat} {rbb : Nat → Nat} {tbb : Nat → Nat} {tw : Nat} {sn : Nat} {pt : Nat} {zs : Nat} {bg : Nat} {mk : Nat → Nat} {mf : Nat → Int32} {mu : Nat → Int32} {mz : Nat → Nat} {rr : Nat → Nat} {ee : Nat → Nat} {oa : Nat → Nat} {ob : Nat → Nat} {s74 : Nat → Int32} {ak : Nat → Int32} {nm : Nat → Bool} {ap : Nat → Nat} {pr : Nat → Int32} {pf : Nat → Int32} {tf : Nat → Int32} {fv : Nat → Int32} {tr : Nat → Bool} {gv : Nat → Option Nat} {fo : Nat → Int32} {re : Nat → Bool} {us : Nat → Bool} {nx : Nat → Bool} {of : Nat → Int64} (fL : LSm G ad M n kd fm to sz rl en) (w1 : LSw n kd sz rl en) (w2 : MRel n kd fm to sz rl en mk mf mu mz rr ee) (w3 : JI jn hg lst jd oa ob) (w4 : len ≤ 400) (w5 : ∀ j, j < len → tb j < 256) (w6 : ∀ j, j < len → tf j = sB (tb j)) (w7 : s0 ≤ 6) (w8 : mz 120 = s0) (w9 : ∀ j, j < s0 → rr (720 + j) = r0 j ∧ ee (720 + j) = e0 j) (w10 : ∀ j, j < s0 → r0 j < 6) (w11 : ∀ j, j < s0 → e0 j < 40 + n) (w12 : ∀ j, j < s0 → th j = thE e0 j) (w13 : ∀ j, j < s0 → ol j = olE e0 j) (w14 : ∀ j, j < 36 → le j < 100) (w15 : ∀ j, j < 36 → mo j < 100) (w16 : ∀ j, j < 36 → al j ≤ 100) (w17 : ∀ i, i < n → (0 : Int32) ≤ fm i) (w18 : ∀ i, i < n → ∀ k, hgs sz en i k = true → fm k ≤ fm i) (w19 : ao ≤ 6) (w20 : vr < 8) (w21 : ∀ i, i < ao → ap i ≤ 4 ∧ (ak i = nI (kn i) ∧ kn i < 6) ∧ ∀ p8, p8 < ap i → (pr (4 * i + p8) = nI (ro (i * 4 + p8)) ∧ ro (i * 4 + p8) < 6) ∧ te (i * 4 + p8) < 43 ∧ pf (4 * i + p8) = tmI (te (i * 4 + p8))) (w22 : ∀ i, i < ao → nm i = nq i ∧ ap i = pn i) (w23 : ∀ i, i < ao → av i < 8) (w24 : ∀ i, i < ao → (av i).testBit 0 = false → ∀ p9, p9 < pn i → te (i * 4 + p9) ≠ 40) (w25 : ∀ v, v < 3 → vr.testBit v = true → ∃ i, i < ao ∧ nq i = false ∧ ∃ k, k < pn i ∧ te (i * 4 + k) = 40 + v) (w26 : 29 < qa ∧ qa < 38) (w27 : 29 < qs ∧ qs < 38) (w28 : qa + 7 ≤ qs ∨ qs + 7 ≤ qa) (w29 : 29 < qm ∧ qm < 51) (w30 : n = 0 → (∃ mcn : Int32, M 17 = some (cList ad mcn G.2.2.2.2 0)) ∧ M 18 = none) (w31 : M 29 = none) (w32 : ∀ j, 100 + 5 * n ≤ j → M j = none) (f_0 : M 0 = some (cStore ad qa qs fw)) (f_1 : M 1 = some (cTape ad len)) (f_2 : M 2 = some (aI G 400 (nF tb))) (f_3 : M 3 = some (cLaws ad )) (f_4 : M 4 = some (aI G 36 (nF le))) (f_5 : M 5 = some (aI G 36 (nF mo))) (f_6 : M 6 = some (aI G 36 (nF al))) (f_7 : M 7 = some (aZ G 6 (bF ho))) (f_8 : M 8 = some (cOnes ad jn)) (f_9 : M 9 = some (aI G 40 (nF hg))) (f_10 : M 10 = some (aI G 40 (nF lst))) (f_11 : M 11 = some (aI G 40 (nF jd))) (f_12 : M 12 = some (cEnds ad 12 s0)) (f_13 : M 13 = some (aI G 6 (nF r0))) (f_14 : M 14 = some (aI G 6 (oF th))) (f_15 : M 15 = some (aI G 6 (oF ol))) (f_19 : M 19 = some (aZ G 120 (bF mm9))) (f_20 : M 20 = some (aI G 120 ff)) (f_21 : M 21 = some (aI G 120 lq)) (f_22 : M 22 = some (cReader ad ra rb rt rv)) (f_23 : M 23 = some (cMatcher ad qm pz)) (f_24 : M 24 = some (aJ G 2160 sx)) (f_25 : M 25 = some (aI G 6 (nF ft))) (f_26 : M 26 = some (aJ G 240 rx)) (f_27 : M 27 = some (aJ G 3 dm)) (f_28 : M 28 = some (aI G 3 rc)) (f_qa : M qa = some (cQuestion ad qa ao vr)) (f_qa_1 : M (qa + 1) = some (aI G 6 (nF kn))) (f_qa_2 : M (qa + 2) = some (aZ G 6 (bF nq))) (f_qa_3 : M (qa + 3) = some (aI G 6 (nF pn))) (f_qa_4 : M (qa + 4) = some (aI G 6 (nF av))) (f_qa_5 : M (qa + 5) = some (aI G 24 (nF ro))) (f_qa_6 : M (qa + 6) = some (aI G 24 (nF te))) (f_qs : M qs = some (cQuestion ad qs sq su)) (f_qs_1 : M (qs + 1) = some (aI G 6 (nF kb))) (f_qs_2 : M (qs + 2) = some (aZ G 6 (bF nb))) (f_qs_3 : M (qs + 3) = some (aI G 6 (nF pb))) (f_qs_4 : M (qs + 4) = some (aI G 6 (nF ab))) (f_qs_5 : M (qs + 5) = some (aI G 24 (nF rbb))) (f_qs_6 : M (qs + 6) = some (aI G 24 (nF tbb))) (f_60 : M 60 = some (cModel ad tw n jn ao vr sn len pt zs bg fw)) (f_61 : M 61 = some (aI G 36 (nF le))) (f_62 : M 62 = some (aI G 36 (nF mo))) (f_63 : M 63 = some (aI G 36 (nF al))) (f_64 : M 64 = some (aZ G 6 (bF ho))) (f_65 : M 65 = some (aI G 120 (nF mk))) (f_66 : M 66 = some (aI G 120 mf)) (f_67 : M 67 = some (aI G 120 mu)) (f_68 : M 68 = some (aI G 121 (nF mz))) (f_69 : M 69 = some (aI G 726 (nF rr))) (f_70 : M 70 = some (aI G 726 (nF ee))) (f_71 : M 71 = some (aI G 40 (nF lst))) (f_72 : M 72 = some (aI G 40 (nF oa))) (f_73 : M 73 = some (aI G 40 (nF ob))) (f_74 : M 74 = some (aI G 120 s74)) (f_75 : M 75 = some (aI G 12 ak)) (f_76 : M 76 = some (aZ G 12 (bF nm))) (f_77 : M 77 = some (aI G 12 (nF ap))) (f_78 : M 78 = some (aI G 48 pr)) (f_79 : M 79 = some (aI G 48 pf)) (f_80 : M 80 = some (aB G 400 tf)) (f_81 : M 81 = some (aI G 5 fv)) (f_82 : M 82 = some (aZ G 384000 (bF tr))) (f_83 : M 83 = some (aI G 3 (oF gv))) (f_84 : M 84 = some (aI G 3 fo)) (f_85 : M 85 = some (aZ G 40 (bF re))) (f_86 : M 86 = some (aZ G 120 (bF us))) (f_87 : M 87 = some (aZ G 120 (bF nx))) (f_99 : M 99 = some (aJ G 1 of)) (kk : ∀ (ad1 : Nat → Nat) (M1 : Mem) (H1 : Heap) (locs1 : List Loc) (ls1 : Array Slot) (n : Nat) (kd : Nat → Nat) (fm : Nat → Int32) (to : Nat → Int32) (sz : Nat → Nat) (rl : Nat → Nat → Nat) (en : Nat → Nat → Nat) (qa : Nat) (qs : Nat) (fw : Int32) (len : Nat) (tb : Nat → Nat) (le : Nat → Nat) (mo : Nat → Nat) (al : Nat → Nat) (ho : Nat → Bool) (jn : Nat) (hg : Nat → Nat) (lst : Nat → Nat) (jd : Nat → Nat) (s0 : Nat) (r0 : Nat → Nat) (th : Nat → Option Nat) (ol : Nat → Option Nat) (e0 : Nat → Nat) (mm9 : Nat → Bool) (ff : Nat → Int32) (lq : Nat → Int32) (ra : Nat) (rb : Nat) (rt : Int32) (rv : Int32) (qm : Nat) (pz : Nat) (sx : Nat → Int64) (ft : Nat → Nat) (rx : Nat → Int64) (dm : Nat → Int64) (rc : Nat → Int32) (ao : Nat) (vr : Nat) (kn : Nat → Nat) (nq : Nat → Bool) (pn : Nat → Nat) (av : Nat → Nat) (ro : Nat → Nat) (te : Nat → Nat) (sq : Nat) (su : Nat) (kb : Nat → Nat) (nb : Nat → Bool) (pb : Nat → Nat) (ab : Nat → Nat) (rbb : Nat → Nat) (tbb : Nat → Nat) (tw : Nat) (sn : Nat) (pt : Nat) (zs : Nat) (bg : Nat) (mk : Nat → Nat) (mf : Nat → Int32) (mu : Nat → Int32) (mz : Nat → Nat) (rr : Nat → Nat) (ee : Nat → Nat) (oa : Nat → Nat) (ob : Nat → Nat) (s74 : Nat → Int32) (ak : Nat → Int32) (nm : Nat → Bool) (ap : Nat → Nat) (pr : Nat → Int32) (pf : Nat → Int32) (tf : Nat → Int32) (fv : Nat → Int32) (tr : Nat → Bool) (gv : Nat → Option Nat) (fo : Nat → Int32) (re : Nat → Bool) (us : Nat → Bool) (nx : Nat → Bool) (of : Nat → Int64), (LSm G ad1 M1 n kd fm to sz rl en) → (LSw n kd sz rl en) → (MRel n kd fm to sz rl en mk mf mu mz rr ee) → (JI jn hg lst jd oa ob) → (len ≤ 400) → (∀ j, j < len → tb j < 256) → (∀ j, j < len → tf j = sB (tb j)) → (s0 ≤ 6) → (mz 120 = s0) → (∀ j, j < s0 → rr (720 + j) = r0 j ∧ ee (720 + j) = e0 j) → (∀ j, j < s0 → r0 j < 6) → (∀ j, j < s0 → e0 j < 40 + n) → (∀ j, j < s0 → th j = thE e0 j) → (∀ j, j < s0 → ol j = olE e0 j) → (∀ j, j < 36 → le j < 100) → (∀ j, j < 36 → mo j < 100) → (∀ j, j < 36 → al j ≤ 100) → (∀ i, i < n → (0 : Int32) ≤ fm i) → (∀ i, i < n → ∀ k, hgs sz en i k = true → fm k ≤ fm i) → (ao ≤ 6) → (vr < 8) → (∀ i, i < ao → ap i ≤ 4 ∧ (ak i = nI (kn i) ∧ kn i < 6) ∧ ∀ p8, p8 < ap i → (pr (4 * i + p8) = nI (ro (i * 4 + p8)) ∧ ro (i * 4 + p8) < 6) ∧ te (i * 4 + p8) < 43 ∧ pf (4 * i + p8) = tmI (te (i * 4 + p8))) → (∀ i, i < ao → nm i = nq i ∧ ap i = pn i) → (∀ i, i < ao → av i < 8) → (∀ i, i < ao → (av i).testBit 0 = false → ∀ p9, p9 < pn i → te (i * 4 + p9) ≠ 40) → (∀ v, v < 3 → vr.testBit v = true → ∃ i, i < ao ∧ nq i = false ∧ ∃ k, k < pn i ∧ te (i * 4 + k) = 40 + v) → (29 < qa ∧ qa < 38) → (29 < qs ∧ qs < 38) → (qa + 7 ≤ qs ∨ qs + 7 ≤ qa) → (29 < qm ∧ qm < 51) → (n = 0 → (∃ mcn : Int32, M1 17 = some (cList ad1 mcn G.2.2.2.2 0)) ∧ M1 18 = none) → (M1 29 = none) → (∀ j, 100 + 5 * n ≤ j → M1 j = none) → (M1 0 = some (cStore ad1 qa qs fw)) → (M1 1 = some (cTape ad1 len)) → (M1 2 = some (aI G 400 (nF tb))) → (M1 3 = some (cLaws ad1 )) → (M1 4 = some (aI G 36 (nF le))) → (M1 5 = some (aI G 36 (nF mo))) → (M1 6 = some (aI G 36 (nF al))) → (M1 7 = some (aZ G 6 (bF ho))) → (M1 8 = some (cOnes ad1 jn)) → (M1 9 = some (aI G 40 (nF hg))) → (M1 10 = some (aI G 40 (nF lst))) → (M1 11 = some (aI G 40 (nF jd))) → (M1 12 = some (cEnds ad1 12 s0)) → (M1 13 = some (aI G 6 (nF r0))) → (M1 14 = some (aI G 6 (oF th))) → (M1 15 = some (aI G 6 (oF ol))) → (M1 19 = some (aZ G 120 (bF mm9))) → (M1 20 = some (aI G 120 ff)) → (M1 21 = some (aI G 120 lq)) → (M1 22 = some (cReader ad1 ra rb rt rv)) → (M1 23 = some (cMatcher ad1 qm pz)) → (M1 24 = some (aJ G 2160 sx)) → (M1 25 = some (aI G 6 (nF ft))) → (M1 26 = some (aJ G 240 rx)) → (M1 27 = some (aJ G 3 dm)) → (M1 28 = some (aI G 3 rc)) → (M1 qa = some (cQuestion ad1 qa ao vr)) → (M1 (qa + 1) = some (aI G 6 (nF kn))) → (M1 (qa + 2) = some (aZ G 6 (bF nq))) → (M1 (qa + 3) = some (aI G 6 (nF pn))) → (M1 (qa + 4) = some (aI G 6 (nF av))) → (M1 (qa + 5) = some (aI G 24 (nF ro))) → (M1 (qa + 6) = some (aI G 24 (nF te))) → (M1 qs = some (cQuestion ad1 qs sq su)) → (M1 (qs + 1) = some (aI G 6 (nF kb))) → (M1 (qs + 2) = some (aZ G 6 (bF nb))) → (M1 (qs + 3) = some (aI G 6 (nF pb))) → (M1 (qs + 4) = some (aI G 6 (nF ab))) → (M1 (qs + 5) = some (aI G 24 (nF rbb))) → (M1 (qs + 6) = some (aI G 24 (nF tbb))) → (M1 60 = some (cModel ad1 tw n jn ao vr sn len pt zs bg fw)) → (M1 61 = some (aI G 36 (nF le))) → (M1 62 = some (aI G 36 (nF mo))) → (M1 63 = some (aI G 36 (nF al))) → (M1 64 = some (aZ G 6 (bF ho))) → (M1 65 = some (aI G 120 (nF mk))) → (M1 66 = some (aI G 120 mf)) → (M1 67 = some (aI G 120 mu)) → (M1 68 = some (aI G 121 (nF mz))) → (M1 69 = some (aI G 726 (nF rr))) → (M1 70 = some (aI G 726 (nF ee))) → (M1 71 = some (aI G 40 (nF lst))) → (M1 72 = some (aI G 40 (nF oa))) → (M1 73 = some (aI G 40 (nF ob))) → (M1 74 = some (aI G 120 s74)) → (M1 75 = some (aI G 12 ak)) → (M1 76 = some (aZ G 12 (bF nm))) → (M1 77 = some (aI G 12 (nF ap))) → (M1 78 = some (aI G 48 pr)) → (M1 79 = some (aI G 48 pf)) → (M1 80 = some (aB G 400 tf)) → (M1 81 = some (aI G 5 fv)) → (M1 82 = some (aZ G 384000 (bF tr))) → (M1 83 = some (aI G 3 (oF gv))) → (M1 84 = some (aI G 3 fo)) → (M1 85 = some (aZ G 40 (bF re))) → (M1 86 = some (aZ G 120 (bF us))) → (M1 87 = some (aZ G 120 (bF nx))) → (M1 99 = some (aJ G 1 of)) → Iv G z ad1 M1 s H1 locs1 → lv_has ls1 7 [(0, .ref b), (1, .ref (ad1 0)), (2, .ref (ad1 60)), (3, .ref (ad1 99)), (4, .int (nI i))] → W p l e room_1 s m #[Value.ref b] below meth c H1 locs1 (cz + 10) (sy + 300) Q (F0 m 1333 ls1 [])) : W p l e room_1 s m #[Value.ref b] below meth c H locs cz sy Q (F0 m 1050 ls []) := by
  have h16 := fL.1
  have hw1 := w1.1
  have hlst := ji_lst w3
  rcases (by omega : ao = 0 ∨ 0 < ao) with hc_1 | hc_2
  · skip
    refine lv_aload_n hx hb dL_law_1050 rfl (lv_at hl 1 rfl) ?_
    refine lv_aload_n hx hb dL_law_1051 rfl (lv_at hl 0 rfl) ?_
    refine lv_iload hx hb dL_law_1052 (lv_at hl 4 rfl) ?_
    refine lv_iconst (v := nI 1) hx hb dL_law_1054 (by decide) ?_
    refine lv_iadd hx hb dL_law_1055 ?_
    refine n_eq (nI_add i 1) ?_
    refine va_sld (A := fr z) hx hb hX hbl hbz hI.S (vp_in_nI (n := i + 1) (by omega) (by omega)) dL_law_1056 ?_
    rw [nI_clamp (by omega)]
    refine k_Ri (va_runV (As := [.int (xs (i + 1))]) (rest := []) ⟨hx, hb, hml, hown, hts⟩ (c_X9_answers_0 l G z ad M (qa := qa) (qs := qs) (fw := fw) (aa := ao) (uv := vr) (d := xs (i + 1)) f_0 f_qa hc_1) (cwV 1 hts (gV (lwg_of t_311 rfl) (lwg_of t_312 rfl) (lwg_of t_313 rfl) (lwg_of t_1 rfl) (lwg_of t_314 rfl)) rfl rfl rfl (by decide +kernel) ⟨Nat.le_of_ble_eq_true rfl, Nat.le_of_ble_eq_true rfl⟩) (hI.preV f_0 rfl) rfl rfl hl.1 rfl (lv_room (Nat.le_of_ble_eq_true rfl)) dL_law_1057 ⟨(show _ ≤ (601024 : Nat) from by omega), (show _ ≤ (7293034 : Nat) from by omega)⟩) (fun _ h => h) (fun r_3 hp_4 => ?_)
    rw [hp_4]
    refine lv_aload_n hx hb dL_law_1060 rfl (lv_at hl 2 rfl) ?_
    refine lv_aload_n hx hb dL_law_1061 rfl (lv_at hl 0 rfl) ?_
    refine lv_iload hx hb dL_law_1062 (lv_at hl 4 rfl) ?_
    refine lv_iconst (v := nI 1) hx hb dL_law_1064 (by decide) ?_
    refine lv_iadd hx hb dL_law_1065 ?_
    refine n_eq (nI_add i 1) ?_
    refine va_sld (A := fr z) hx hb hX hbl hbz hI.S (vp_in_nI (n := i + 1) (by omega) (by omega)) dL_law_1066 ?_
    rw [nI_clamp (by omega)]
    refine k_Ni (va_runV (As := [.int (xs (i + 1))]) (rest := [.int (nI 0)]) ⟨hx, hb, hml, hown, hts⟩ (c_X10_answers_0 l G z ad M (th := tw) (ln := n) (on := jn) (ao := ao) (vr := vr) (sn := sn) (tp := len) (pt := pt) (zs := zs) (bg := bg) (fa := fw) (d := xs (i + 1)) f_60 hc_1) (cwV 1 hts (gV (lwg_of t_1318 rfl) (lwg_of t_1319 rfl) (lwg_of t_1320 rfl) (lwg_of t_13 rfl) (lwg_of t_1321 rfl)) rfl rfl rfl (by decide +kernel) ⟨Nat.le_of_ble_eq_true rfl, Nat.le_of_ble_eq_true rfl⟩) (hI.preV f_60 rfl) rfl rfl hl.1 rfl (lv_room (Nat.le_of_ble_eq_true rfl)) dL_law_1067 ⟨(show _ ≤ (601024 : Nat) from by omega), (show _ ≤ (7293034 : Nat) from by omega)⟩) hI (fun r_5 M_7 H_8 locs_9 hp_6 hI => ?_)
    obtain ⟨hr_10, hm_11, hF_12⟩ := hp_6
    have hm_13 : M_7 0 = some (cStore ad qa qs fw) := by rw [hF_12 0 (by omega)]; exact f_0
    have hm_14 : M_7 1 = some (cTape ad len) := by rw [hF_12 1 (by omega)]; exact f_1
    have hm_15 : M_7 2 = some (aI G 400 (nF tb)) := by rw [hF_12 2 (by omega)]; exact f_2
    have hm_16 : M_7 3 = some (cLaws ad ) := by rw [hF_12 3 (by omega)]; exact f_3
    have hm_17 : M_7 4 = some (aI G 36 (nF le)) := by rw [hF_12 4 (by omega)]; exact f_4
    have hm_18 : M_7 5 = some (aI G 36 (nF mo)) := by rw [hF_12 5 (by omega)]; exact f_5
    have hm_19 : M_7 6 = some (aI G 36 (nF al)) := by rw [hF_12 6 (by omega)]; exact f_6
    have hm_20 : M_7 7 = some (aZ G 6 (bF ho)) := by rw [hF_12 7 (by omega)]; exact f_7
    have hm_21 : M_7 8 = some (cOnes ad jn) := by rw [hF_12 8 (by omega)]; exact f_8
    have hm_22 : M_7 9 = some (aI G 40 (nF hg)) := by rw [hF_12 9 (by omega)]; exact f_9
    have hm_23 : M_7 10 = some (aI G 40 (nF lst)) := by rw [hF_12 10 (by omega)]; exact f_10
    have hm_24 : M_7 11 = some (aI G 40 (nF jd)) := by rw [hF_12 11 (by omega)]; exact f_11
    have hm_25 : M_7 12 = some (cEnds ad 12 s0) := by rw [hF_12 12 (by omega)]; exact f_12
    have hm_26 : M_7 13 = some (aI G 6 (nF r0)) := by rw [hF_12 13 (by omega)]; exact f_13
    have hm_27 : M_7 14 = some (aI G 6 (oF th)) := by rw [hF_12 14 (by omega)]; exact f_14
    have hm_28 : M_7 15 = some (aI G 6 (oF ol)) := by rw [hF_12 15 (by omega)]; exact f_15
    have hm_29 : M_7 19 = some (aZ G 120 (bF mm9)) := by rw [hF_12 19 (by omega)]; exact f_19
    have hm_30 : M_7 20 = some (aI G 120 ff) := by rw [hF_12 20 (by omega)]; exact f_20
    have hm_31 : M_7 21 = some (aI G 120 lq) := by rw [hF_12 21 (by omega)]; exact f_21
    have hm_32 : M_7 22 = some (cReader ad ra rb rt rv) := by rw [hF_12 22 (by omega)]; exact f_22
    have hm_33 : M_7 23 = some (cMatcher ad qm pz) := by rw [hF_12 23 (by omega)]; exact f_23
    have hm_34 : M_7 24 = some (aJ G 2160 sx) := by rw [hF_12 24 (by omega)]; exact f_24
    have hm_35 : M_7 25 = some (aI G 6 (nF ft)) := by rw [hF_12 25 (by omega)]; exact f_25
    have hm_36 : M_7 26 = some (aJ G 240 rx) := by rw [hF_12 26 (by omega)]; exact f_26
    have hm_37 : M_7 27 = some (aJ G 3 dm) := by rw [hF_12 27 (by omega)]; exact f_27
    have hm_38 : M_7 28 = some (aI G 3 rc) := by rw [hF_12 28 (by omega)]; exact f_28
    have hm_39 : M_7 qa = some (cQuestion ad qa ao vr) := by rw [hF_12 qa (by omega)]; exact f_qa
    have hm_40 : M_7 (qa + 1) = some (aI G 6 (nF kn)) := by rw [hF_12 (qa + 1) (by omega)]; exact f_qa_1
    have hm_41 : M_7 (qa + 2) = some (aZ G 6 (bF nq)) := by rw [hF_12 (qa + 2) (by omega)]; exact f_qa_2
    have hm_42 : M_7 (qa + 3) = some (aI G 6 (nF pn)) := by rw [hF_12 (qa + 3) (by omega)]; exact f_qa_3
    have hm_43 : M_7 (qa + 4) = some (aI G 6 (nF av)) := by rw [hF_12 (qa + 4) (by omega)]; exact f_qa_4
    have hm_44 : M_7 (qa + 5) = some (aI G 24 (nF ro)) := by rw [hF_12 (qa + 5) (by omega)]; exact f_qa_5
    have hm_45 : M_7 (qa + 6) = some (aI G 24 (nF te)) := by rw [hF_12 (qa + 6) (by omega)]; exact f_qa_6
    have hm_46 : M_7 qs = some (cQuestion ad qs sq su) := by rw [hF_12 qs (by omega)]; exact f_qs
    have hm_47 : M_7 (qs + 1) = some (aI G 6 (nF kb)) := by rw [hF_12 (qs + 1) (by omega)]; exact f_qs_1
    have hm_48 : M_7 (qs + 2) = some (aZ G 6 (bF nb)) := by rw [hF_12 (qs + 2) (by omega)]; exact f_qs_2
    have hm_49 : M_7 (qs + 3) = some (aI G 6 (nF pb)) := by rw [hF_12 (qs + 3) (by omega)]; exact f_qs_3
    have hm_50 : M_7 (qs + 4) = some (aI G 6 (nF ab)) := by rw [hF_12 (qs + 4) (by omega)]; exact f_qs_4
    have hm_51 : M_7 (qs + 5) = some (aI G 24 (nF rbb)) := by rw [hF_12 (qs + 5) (by omega)]; exact f_qs_5
    have hm_52 : M_7 (qs + 6) = some (aI G 24 (nF tbb)) := by rw [hF_12 (qs + 6) (by omega)]; exact f_qs_6
    have hm_53 : M_7 61 = some (aI G 36 (nF le)) := by rw [hF_12 61 (by omega)]; exact f_61
    have hm_54 : M_7 62 = some (aI G 36 (nF mo)) := by rw [hF_12 62 (by omega)]; exact f_62
    have hm_55 : M_7 63 = some (aI G 36 (nF al)) := by rw [hF_12 63 (by omega)]; exact f_63
    have hm_56 : M_7 64 = some (aZ G 6 (bF ho)) := by rw [hF_12 64 (by omega)]; exact f_64
    have hm_57 : M_7 65 = some (aI G 120 (nF mk)) := by rw [hF_12 65 (by omega)]; exact f_65
    have hm_58 : M_7 66 = some (aI G 120 mf) := by rw [hF_12 66 (by omega)]; exact f_66
    have hm_59 : M_7 67 = some (aI G 120 mu) := by rw [hF_12 67 (by omega)]; exact f_67
    have hm_60 : M_7 68 = some (aI G 121 (nF mz)) := by rw [hF_12 68 (by omega)]; exact f_68
    have hm_61 : M_7 69 = some (aI G 726 (nF rr)) := by rw [hF_12 69 (by omega)]; exact f_69
    have hm_62 : M_7 70 = some (aI G 726 (nF ee)) := by rw [hF_12 70 (by omega)]; exact f_70
    have hm_63 : M_7 71 = some (aI G 40 (nF lst)) := by rw [hF_12 71 (by omega)]; exact f_71
    have hm_64 : M_7 72 = some (aI G 40 (nF oa)) := by rw [hF_12 72 (by omega)]; exact f_72
    have hm_65 : M_7 73 = some (aI G 40 (nF ob)) := by rw [hF_12 73 (by omega)]; exact f_73
    have hm_66 : M_7 74 = some (aI G 120 s74) := by rw [hF_12 74 (by omega)]; exact f_74
    have hm_67 : M_7 75 = some (aI G 12 ak) := by rw [hF_12 75 (by omega)]; exact f_75
    have hm_68 : M_7 76 = some (aZ G 12 (bF nm)) := by rw [hF_12 76 (by omega)]; exact f_76
    have hm_69 : M_7 77 = some (aI G 12 (nF ap)) := by rw [hF_12 77 (by omega)]; exact f_77
    have hm_70 : M_7 78 = some (aI G 48 pr) := by rw [hF_12 78 (by omega)]; exact f_78
    have hm_71 : M_7 79 = some (aI G 48 pf) := by rw [hF_12 79 (by omega)]; exact f_79
    have hm_72 : M_7 80 = some (aB G 400 tf) := by rw [hF_12 80 (by omega)]; exact f_80
    have hm_73 : M_7 81 = some (aI G 5 fv) := by rw [hF_12 81 (by omega)]; exact f_81
    have hm_74 : M_7 82 = some (aZ G 384000 (bF tr)) := by rw [hF_12 82 (by omega)]; exact f_82
    have hm_75 : M_7 83 = some (aI G 3 (oF gv)) := by rw [hF_12 83 (by omega)]; exact f_83
    have hm_76 : M_7 84 = some (aI G 3 fo) := by rw [hF_12 84 (by omega)]; exact f_84
    have hm_77 : M_7 85 = some (aZ G 40 (bF re)) := by rw [hF_12 85 (by omega)]; exact f_85
    have hm_78 : M_7 86 = some (aZ G 120 (bF us)) := by rw [hF_12 86 (by omega)]; exact f_86
    have hm_79 : M_7 87 = some (aZ G 120 (bF nx)) := by rw [hF_12 87 (by omega)]; exact f_87
    have hm_80 : M_7 99 = some (aJ G 1 of) := by rw [hF_12 99 (by omega)]; exact f_99
    have hm_81 : M_7 16 = some (cLines ad ) := by rw [hF_12 16 (by omega)]; exact h16
    have hL_82 : LSm G ad M_7 n kd fm to sz rl en := fL.keep (fun j hj => hF_12 j (by omega))
    have hF_83 : ∀ j : Nat, j ≠ 60 → M_7 j = M j := fun j q0 => (hF_12 j q0)
    rw [hr_10]
    refine lv_icmp_eq (tgt := 1333) hx hb dL_law_1070 (by decide) (fun c_84 => ?_) (fun c_84 => ?_)
    · -- 1070: nI 0 eq
      refine W.widen (k := cz + 10) (n := sy + 300) (by omega) (by omega) ?_
      exact kk ad M_7 H_8 locs_9 ls n kd fm to sz rl en qa qs fw len tb le mo al ho jn hg lst jd s0 r0 th ol e0 mm9 ff lq ra rb rt rv qm pz sx ft rx dm rc ao vr kn nq pn av ro te sq su kb nb pb ab rbb tbb 0 sn pt zs bg mk mf mu mz rr ee oa ob s74 ak nm ap pr pf tf fv tr gv fo re us nx of hL_82 w1 w2 w3 w4 w5 w6 w7 w8 w9 w10 w11 w12 w13 w14 w15 w16 w17 w18 w19 w20 w21 w22 w23 w24 w25 w26 w27 w28 w29 (fun h9 => by rw [hF_83 17 (by omega), hF_83 18 (by omega)]; exact w30 h9) (by rw [hF_83 29 (by omega)]; exact w31) (fun j9 h9 => by rw [hF_83 j9 (by omega)]; exact w32 j9 h9) hm_13 hm_14 hm_15 hm_16 hm_17 hm_18 hm_19 hm_20 hm_21 hm_22 hm_23 hm_24 hm_25 hm_26 hm_27 hm_28 hm_29 hm_30 hm_31 hm_32 hm_33 hm_34 hm_35 hm_36 hm_37 hm_38 hm_39 hm_40 hm_41 hm_42 hm_43 hm_44 hm_45 hm_46 hm_47 hm_48 hm_49 hm_50 hm_51 hm_52 hm_11 hm_53 hm_54 hm_55 hm_56 hm_57 hm_58 hm_59 hm_60 hm_61 hm_62 hm_63 hm_64 hm_65 hm_66 hm_67 hm_68 hm_69 hm_70 hm_71 hm_72 hm_73 hm_74 hm_75 hm_76 hm_77 hm_78 hm_79 hm_80 hI (lv_sub hl [0, 1, 2, 3, 4] rfl)
    · -- 1070: nI 0 ne
      exact absurd (by decide) c_84
  · skip
    refine lv_aload_n hx hb dL_law_1050 rfl (lv_at hl 1 rfl) ?_
    refine lv_aload_n hx hb dL_law_1051 rfl (lv_at hl 0 rfl) ?_
    refine lv_iload hx hb dL_law_1052 (lv_at hl 4 rfl) ?_
    refine lv_iconst (v := nI 1) hx hb dL_law_1054 (by decide) ?_
    refine lv_iadd hx hb dL_law_1055 ?_
    refine n_eq (nI_add i 1) ?_
    refine va_sld (A := fr z) hx hb hX hbl hbz hI.S (vp_in_nI (n := i + 1) (by omega) (by omega)) dL_law_1056 ?_
    rw [nI_clamp (by omega)]
    refine k_Ni (va_runV (As := [.int (xs (i + 1))]) (rest := []) ⟨hx, hb, hml, hown, hts⟩ (c_X9_answers l G z ad M (n := n) (kd := kd) (fm := fm) (to := to) (sz := sz) (rl := rl) (en := en) (qa := qa) (qs := qs) (fw := fw) (qm := qm) (pz := pz) (aa := ao) (uv := vr) (jn := jn) (lst := lst) (kn := kn) (nt := nq) (pn := pn) (av := av) (ro := ro) (te := te) (sx := sx) (ft := ft) (rx := rx) (dm := dm) (rc := rc) (d := xs (i + 1)) fL f_0 f_23 f_24 f_25 f_26 f_27 f_28 f_qa f_qa_1 f_qa_2 f_qa_3 f_qa_4 f_qa_5 f_qa_6 f_8 f_10 w1 (by omega) w19 w20 (qw_of w21 w22) w23 w24 hlst hc_2) (cwV 1 hts (gV (lwg_of t_311 rfl) (lwg_of t_312 rfl) (lwg_of t_313 rfl) (lwg_of t_1 rfl) (lwg_of t_314 rfl)) rfl rfl rfl (by decide +kernel) ⟨Nat.le_of_ble_eq_true rfl, Nat.le_of_ble_eq_true rfl⟩) (hI.preV f_0 rfl) rfl rfl hl.1 rfl (lv_room (Nat.le_of_ble_eq_true rfl)) dL_law_1057 ⟨(show _ ≤ (601024 : Nat) from by omega), (show _ ≤ (7293034 : Nat) from by omega)⟩) hI (fun r_85 M_87 H_88 locs_89 hp_86 hI => ?_)
    obtain ⟨P_98, s2_99, f2_100, d2_101, p2_102, r2_103, rc2_104, hm_90, hm_91, hm_92, hm_93, hm_94, hm_95, hF_96, hP_97⟩ := hp_86
    have hm_105 : M_87 0 = some (cStore ad qa qs fw) := by rw [hF_96 0 (by omega) (by omega) (by omega) (by omega) (by omega) (by omega)]; exact f_0
    have hm_106 : M_87 1 = some (cTape ad len) := by rw [hF_96 1 (by omega) (by omega) (by omega) (by omega) (by omega) (by omega)]; exact f_1
    have hm_107 : M_87 2 = some (aI G 400 (nF tb)) := by rw [hF_96 2 (by omega) (by omega) (by omega) (by omega) (by omega) (by omega)]; exact f_2
    have hm_108 : M_87 3 = some (cLaws ad ) := by rw [hF_96 3 (by omega) (by omega) (by omega) (by omega) (by omega) (by omega)]; exact f_3
    have hm_109 : M_87 4 = some (aI G 36 (nF le)) := by rw [hF_96 4 (by omega) (by omega) (by omega) (by omega) (by omega) (by omega)]; exact f_4
    have hm_110 : M_87 5 = some (aI G 36 (nF mo)) := by rw [hF_96 5 (by omega) (by omega) (by omega) (by omega) (by omega) (by omega)]; exact f_5
    have hm_111 : M_87 6 = some (aI G 36 (nF al)) := by rw [hF_96 6 (by omega) (by omega) (by omega) (by omega) (by omega) (by omega)]; exact f_6
    have hm_112 : M_87 7 = some (aZ G 6 (bF ho)) := by rw [hF_96 7 (by omega) (by omega) (by omega) (by omega) (by omega) (by omega)]; exact f_7
    have hm_113 : M_87 8 = some (cOnes ad jn) := by rw [hF_96 8 (by omega) (by omega) (by omega) (by omega) (by omega) (by omega)]; exact f_8
    have hm_114 : M_87 9 = some (aI G 40 (nF hg)) := by rw [hF_96 9 (by omega) (by omega) (by omega) (by omega) (by omega) (by omega)]; exact f_9
    have hm_115 : M_87 10 = some (aI G 40 (nF lst)) := by rw [hF_96 10 (by omega) (by omega) (by omega) (by omega) (by omega) (by omega)]; exact f_10
    have hm_116 : M_87 11 = some (aI G 40 (nF jd)) := by rw [hF_96 11 (by omega) (by omega) (by omega) (by omega) (by omega) (by omega)]; exact f_11
    have hm_117 : M_87 12 = some (cEnds ad 12 s0) := by rw [hF_96 12 (by omega) (by omega) (by omega) (by omega) (by omega) (by omega)]; exact f_12
    have hm_118 : M_87 13 = some (aI G 6 (nF r0)) := by rw [hF_96 13 (by omega) (by omega) (by omega) (by omega) (by omega) (by omega)]; exact f_13
    have hm_119 : M_87 14 = some (aI G 6 (oF th)) := by rw [hF_96 14 (by omega) (by omega) (by omega) (by omega) (by omega) (by omega)]; exact f_14
    have hm_120 : M_87 15 = some (aI G 6 (oF ol)) := by rw [hF_96 15 (by omega) (by omega) (by omega) (by omega) (by omega) (by omega)]; exact f_15
    have hm_121 : M_87 19 = some (aZ G 120 (bF mm9)) := by rw [hF_96 19 (by omega) (by omega) (by omega) (by omega) (by omega) (by omega)]; exact f_19
    have hm_122 : M_87 20 = some (aI G 120 ff) := by rw [hF_96 20 (by omega) (by omega) (by omega) (by omega) (by omega) (by omega)]; exact f_20
    have hm_123 : M_87 21 = some (aI G 120 lq) := by rw [hF_96 21 (by omega) (by omega) (by omega) (by omega) (by omega) (by omega)]; exact f_21
    have hm_124 : M_87 22 = some (cReader ad ra rb rt rv) := by rw [hF_96 22 (by omega) (by omega) (by omega) (by omega) (by omega) (by omega)]; exact f_22
    have hm_125 : M_87 qa = some (cQuestion ad qa ao vr) := by rw [hF_96 qa (by omega) (by omega) (by omega) (by omega) (by omega) (by omega)]; exact f_qa
    have hm_126 : M_87 (qa + 1) = some (aI G 6 (nF kn)) := by rw [hF_96 (qa + 1) (by omega) (by omega) (by omega) (by omega) (by omega) (by omega)]; exact f_qa_1
    have hm_127 : M_87 (qa + 2) = some (aZ G 6 (bF nq)) := by rw [hF_96 (qa + 2) (by omega) (by omega) (by omega) (by omega) (by omega) (by omega)]; exact f_qa_2
    have hm_128 : M_87 (qa + 3) = some (aI G 6 (nF pn)) := by rw [hF_96 (qa + 3) (by omega) (by omega) (by omega) (by omega) (by omega) (by omega)]; exact f_qa_3
    have hm_129 : M_87 (qa + 4) = some (aI G 6 (nF av)) := by rw [hF_96 (qa + 4) (by omega) (by omega) (by omega) (by omega) (by omega) (by omega)]; exact f_qa_4
    have hm_130 : M_87 (qa + 5) = some (aI G 24 (nF ro)) := by rw [hF_96 (qa + 5) (by omega) (by omega) (by omega) (by omega) (by omega) (by omega)]; exact f_qa_5
    have hm_131 : M_87 (qa + 6) = some (aI G 24 (nF te)) := by rw [hF_96 (qa + 6) (by omega) (by omega) (by omega) (by omega) (by omega) (by omega)]; exact f_qa_6
    have hm_132 : M_87 qs = some (cQuestion ad qs sq su) := by rw [hF_96 qs (by omega) (by omega) (by omega) (by omega) (by omega) (by omega)]; exact f_qs
    have hm_133 : M_87 (qs + 1) = some (aI G 6 (nF kb)) := by rw [hF_96 (qs + 1) (by omega) (by omega) (by omega) (by omega) (by omega) (by omega)]; exact f_qs_1
    have hm_134 : M_87 (qs + 2) = some (aZ G 6 (bF nb)) := by rw [hF_96 (qs + 2) (by omega) (by omega) (by omega) (by omega) (by omega) (by omega)]; exact f_qs_2
    have hm_135 : M_87 (qs + 3) = some (aI G 6 (nF pb)) := by rw [hF_96 (qs + 3) (by omega) (by omega) (by omega) (by omega) (by omega) (by omega)]; exact f_qs_3
    have hm_136 : M_87 (qs + 4) = some (aI G 6 (nF ab)) := by rw [hF_96 (qs + 4) (by omega) (by omega) (by omega) (by omega) (by omega) (by omega)]; exact f_qs_4
    have hm_137 : M_87 (qs + 5) = some (aI G 24 (nF rbb)) := by rw [hF_96 (qs + 5) (by omega) (by omega) (by omega) (by omega) (by omega) (by omega)]; exact f_qs_5
    have hm_138 : M_87 (qs + 6) = some (aI G 24 (nF tbb)) := by rw [hF_96 (qs + 6) (by omega) (by omega) (by omega) (by omega) (by omega) (by omega)]; exact f_qs_6
    have hm_139 : M_87 60 = some (cModel ad tw n jn ao vr sn len pt zs bg fw) := by rw [hF_96 60 (by omega) (by omega) (by omega) (by omega) (by omega) (by omega)]; exact f_60
    have hm_140 : M_87 61 = some (aI G 36 (nF le)) := by rw [hF_96 61 (by omega) (by omega) (by omega) (by omega) (by omega) (by omega)]; exact f_61
    have hm_141 : M_87 62 = some (aI G 36 (nF mo)) := by rw [hF_96 62 (by omega) (by omega) (by omega) (by omega) (by omega) (by omega)]; exact f_62
    have hm_142 : M_87 63 = some (aI G 36 (nF al)) := by rw [hF_96 63 (by omega) (by omega) (by omega) (by omega) (by omega) (by omega)]; exact f_63
    have hm_143 : M_87 64 = some (aZ G 6 (bF ho)) := by rw [hF_96 64 (by omega) (by omega) (by omega) (by omega) (by omega) (by omega)]; exact f_64
    have hm_144 : M_87 65 = some (aI G 120 (nF mk)) := by rw [hF_96 65 (by omega) (by omega) (by omega) (by omega) (by omega) (by omega)]; exact f_65
    have hm_145 : M_87 66 = some (aI G 120 mf) := by rw [hF_96 66 (by omega) (by omega) (by omega) (by omega) (by omega) (by omega)]; exact f_66
    have hm_146 : M_87 67 = some (aI G 120 mu) := by rw [hF_96 67 (by omega) (by omega) (by omega) (by omega) (by omega) (by omega)]; exact f_67
    have hm_147 : M_87 68 = some (aI G 121 (nF mz)) := by rw [hF_96 68 (by omega) (by omega) (by omega) (by omega) (by omega) (by omega)]; exact f_68
    have hm_148 : M_87 69 = some (aI G 726 (nF rr)) := by rw [hF_96 69 (by omega) (by omega) (by omega) (by omega) (by omega) (by omega)]; exact f_69
    have hm_149 : M_87 70 = some (aI G 726 (nF ee)) := by rw [hF_96 70 (by omega) (by omega) (by omega) (by omega) (by omega) (by omega)]; exact f_70
    have hm_150 : M_87 71 = some (aI G 40 (nF lst)) := by rw [hF_96 71 (by omega) (by omega) (by omega) (by omega) (by omega) (by omega)]; exact f_71
    have hm_151 : M_87 72 = some (aI G 40 (nF oa)) := by rw [hF_96 72 (by omega) (by omega) (by omega) (by omega) (by omega) (by omega)]; exact f_72
    have hm_152 : M_87 73 = some (aI G 40 (nF ob)) := by rw [hF_96 73 (by omega) (by omega) (by omega) (by omega) (by omega) (by omega)]; exact f_73
    have hm_153 : M_87 74 = some (aI G 120 s74) := by rw [hF_96 74 (by omega) (by omega) (by omega) (by omega) (by omega) (by omega)]; exact f_74
    have hm_154 : M_87 75 = some (aI G 12 ak) := by rw [hF_96 75 (by omega) (by omega) (by omega) (by omega) (by omega) (by omega)]; exact f_75
    have hm_155 : M_87 76 = some (aZ G 12 (bF nm)) := by rw [hF_96 76 (by omega) (by omega) (by omega) (by omega) (by omega) (by omega)]; exact f_76
    have hm_156 : M_87 77 = some (aI G 12 (nF ap)) := by rw [hF_96 77 (by omega) (by omega) (by omega) (by omega) (by omega) (by omega)]; exact f_77
    have hm_157 : M_87 78 = some (aI G 48 pr) := by rw [hF_96 78 (by omega) (by omega) (by omega) (by omega) (by omega) (by omega)]; exact f_78
    have hm_158 : M_87 79 = some (aI G 48 pf) := by rw [hF_96 79 (by omega) (by omega) (by omega) (by omega) (by omega) (by omega)]; exact f_79
    have hm_159 : M_87 80 = some (aB G 400 tf) := by rw [hF_96 80 (by omega) (by omega) (by omega) (by omega) (by omega) (by omega)]; exact f_80
    have hm_160 : M_87 81 = some (aI G 5 fv) := by rw [hF_96 81 (by omega) (by omega) (by omega) (by omega) (by omega) (by omega)]; exact f_81
    have hm_161 : M_87 82 = some (aZ G 384000 (bF tr)) := by rw [hF_96 82 (by omega) (by omega) (by omega) (by omega) (by omega) (by omega)]; exact f_82
    have hm_162 : M_87 83 = some (aI G 3 (oF gv)) := by rw [hF_96 83 (by omega) (by omega) (by omega) (by omega) (by omega) (by omega)]; exact f_83
    have hm_163 : M_87 84 = some (aI G 3 fo) := by rw [hF_96 84 (by omega) (by omega) (by omega) (by omega) (by omega) (by omega)]; exact f_84
    have hm_164 : M_87 85 = some (aZ G 40 (bF re)) := by rw [hF_96 85 (by omega) (by omega) (by omega) (by omega) (by omega) (by omega)]; exact f_85
    have hm_165 : M_87 86 = some (aZ G 120 (bF us)) := by rw [hF_96 86 (by omega) (by omega) (by omega) (by omega) (by omega) (by omega)]; exact f_86
    have hm_166 : M_87 87 = some (aZ G 120 (bF nx)) := by rw [hF_96 87 (by omega) (by omega) (by omega) (by omega) (by omega) (by omega)]; exact f_87
    have hm_167 : M_87 99 = some (aJ G 1 of) := by rw [hF_96 99 (by omega) (by omega) (by omega) (by omega) (by omega) (by omega)]; exact f_99
    have hm_168 : M_87 16 = some (cLines ad ) := by rw [hF_96 16 (by omega) (by omega) (by omega) (by omega) (by omega) (by omega)]; exact h16
    have hL_169 : LSm G ad M_87 n kd fm to sz rl en := fL.keep (fun j hj => hF_96 j (by omega) (by omega) (by omega) (by omega) (by omega) (by omega))
    have hF_170 : ∀ j : Nat, j ≠ 23 → j ≠ 24 → j ≠ 25 → j ≠ 27 → j ≠ 26 → j ≠ 28 → M_87 j = M j := fun j q0 q1 q2 q3 q4 q5 => (hF_96 j q0 q1 q2 q3 q4 q5)
    refine lv_aload_n hx hb dL_law_1060 rfl (lv_at hl 2 rfl) ?_
    refine lv_aload_n hx hb dL_law_1061 rfl (lv_at hl 0 rfl) ?_
    refine lv_iload hx hb dL_law_1062 (lv_at hl 4 rfl) ?_
    refine lv_iconst (v := nI 1) hx hb dL_law_1064 (by decide) ?_
    refine lv_iadd hx hb dL_law_1065 ?_
    refine n_eq (nI_add i 1) ?_
    refine va_sld (A := fr z) hx hb hX hbl hbz hI.S (vp_in_nI (n := i + 1) (by omega) (by omega)) dL_law_1066 ?_
    rw [nI_clamp (by omega)]
    refine k_Ni (va_runV (As := [.int (xs (i + 1))]) (rest := [.int r_85]) ⟨hx, hb, hml, hown, hts⟩ (c_X10_answers l G z ad M_87 (th := tw) (on := jn) (ao := ao) (vr := vr) (sn := sn) (tp := len) (pt := pt) (zs := zs) (bg := bg) (fa := fw) (n := n) (kd := kd) (fm := fm) (to := to) (sz := sz) (rl := rl) (en := en) (mk := mk) (mf := mf) (mu := mu) (mz := mz) (rr := rr) (ee := ee) (lst := lst) (ak := ak) (ap := ap) (pr := pr) (pf := pf) (kn := kn) (ro := ro) (te := te) (tr := tr) (gv := gv) (nt := nm) (fo := fo) (d := xs (i + 1)) hm_139 hm_144 hm_145 hm_146 hm_147 hm_148 hm_149 hm_150 hm_154 hm_156 hm_157 hm_158 hm_161 hm_162 hm_155 hm_163 w1 w2 ⟨hc_2, w19⟩ w21 hlst w20) (cwV 1 hts (gV (lwg_of t_1318 rfl) (lwg_of t_1319 rfl) (lwg_of t_1320 rfl) (lwg_of t_13 rfl) (lwg_of t_1321 rfl)) rfl rfl rfl (by decide +kernel) ⟨Nat.le_of_ble_eq_true rfl, Nat.le_of_ble_eq_true rfl⟩) (hI.preV hm_139 rfl) rfl rfl hl.1 rfl (lv_room (Nat.le_of_ble_eq_true rfl)) dL_law_1067 ⟨(show _ ≤ (601024 : Nat) from by omega), (show _ ≤ (7293034 : Nat) from by omega)⟩) hI (fun r_171 M_173 H_174 locs_175 hp_172 hI => ?_)
    obtain ⟨tr2_182, gv2_183, fo2_184, hm_176, hm_177, hm_178, hm_179, hF_180, hP_181⟩ := hp_172
    have hm_185 : M_173 0 = some (cStore ad qa qs fw) := by rw [hF_180 0 (by omega) (by omega) (by omega) (by omega)]; exact hm_105
    have hm_186 : M_173 1 = some (cTape ad len) := by rw [hF_180 1 (by omega) (by omega) (by omega) (by omega)]; exact hm_106
    have hm_187 : M_173 2 = some (aI G 400 (nF tb)) := by rw [hF_180 2 (by omega) (by omega) (by omega) (by omega)]; exact hm_107
    have hm_188 : M_173 3 = some (cLaws ad ) := by rw [hF_180 3 (by omega) (by omega) (by omega) (by omega)]; exact hm_108
    have hm_189 : M_173 4 = some (aI G 36 (nF le)) := by rw [hF_180 4 (by omega) (by omega) (by omega) (by omega)]; exact hm_109
    have hm_190 : M_173 5 = some (aI G 36 (nF mo)) := by rw [hF_180 5 (by omega) (by omega) (by omega) (by omega)]; exact hm_110
    have hm_191 : M_173 6 = some (aI G 36 (nF al)) := by rw [hF_180 6 (by omega) (by omega) (by omega) (by omega)]; exact hm_111
    have hm_192 : M_173 7 = some (aZ G 6 (bF ho)) := by rw [hF_180 7 (by omega) (by omega) (by omega) (by omega)]; exact hm_112
    have hm_193 : M_173 8 = some (cOnes ad jn) := by rw [hF_180 8 (by omega) (by omega) (by omega) (by omega)]; exact hm_113
    have hm_194 : M_173 9 = some (aI G 40 (nF hg)) := by rw [hF_180 9 (by omega) (by omega) (by omega) (by omega)]; exact hm_114
    have hm_195 : M_173 10 = some (aI G 40 (nF lst)) := by rw [hF_180 10 (by omega) (by omega) (by omega) (by omega)]; exact hm_115
    have hm_196 : M_173 11 = some (aI G 40 (nF jd)) := by rw [hF_180 11 (by omega) (by omega) (by omega) (by omega)]; exact hm_116
    have hm_197 : M_173 12 = some (cEnds ad 12 s0) := by rw [hF_180 12 (by omega) (by omega) (by omega) (by omega)]; exact hm_117
    have hm_198 : M_173 13 = some (aI G 6 (nF r0)) := by rw [hF_180 13 (by omega) (by omega) (by omega) (by omega)]; exact hm_118
    have hm_199 : M_173 14 = some (aI G 6 (oF th)) := by rw [hF_180 14 (by omega) (by omega) (by omega) (by omega)]; exact hm_119
    have hm_200 : M_173 15 = some (aI G 6 (oF ol)) := by rw [hF_180 15 (by omega) (by omega) (by omega) (by omega)]; exact hm_120
    have hm_201 : M_173 19 = some (aZ G 120 (bF mm9)) := by rw [hF_180 19 (by omega) (by omega) (by omega) (by omega)]; exact hm_121
    have hm_202 : M_173 20 = some (aI G 120 ff) := by rw [hF_180 20 (by omega) (by omega) (by omega) (by omega)]; exact hm_122
    have hm_203 : M_173 21 = some (aI G 120 lq) := by rw [hF_180 21 (by omega) (by omega) (by omega) (by omega)]; exact hm_123
    have hm_204 : M_173 22 = some (cReader ad ra rb rt rv) := by rw [hF_180 22 (by omega) (by omega) (by omega) (by omega)]; exact hm_124
    have hm_205 : M_173 23 = some (cMatcher ad qa p2_102) := by rw [hF_180 23 (by omega) (by omega) (by omega) (by omega)]; exact hm_90
    have hm_206 : M_173 24 = some (aJ G 2160 s2_99) := by rw [hF_180 24 (by omega) (by omega) (by omega) (by omega)]; exact hm_91
    have hm_207 : M_173 25 = some (aI G 6 (nF f2_100)) := by rw [hF_180 25 (by omega) (by omega) (by omega) (by omega)]; exact hm_92
    have hm_208 : M_173 26 = some (aJ G 240 r2_103) := by rw [hF_180 26 (by omega) (by omega) (by omega) (by omega)]; exact hm_94
    have hm_209 : M_173 27 = some (aJ G 3 d2_101) := by rw [hF_180 27 (by omega) (by omega) (by omega) (by omega)]; exact hm_93
    have hm_210 : M_173 28 = some (aI G 3 rc2_104) := by rw [hF_180 28 (by omega) (by omega) (by omega) (by omega)]; exact hm_95
    have hm_211 : M_173 qa = some (cQuestion ad qa ao vr) := by rw [hF_180 qa (by omega) (by omega) (by omega) (by omega)]; exact hm_125
    have hm_212 : M_173 (qa + 1) = some (aI G 6 (nF kn)) := by rw [hF_180 (qa + 1) (by omega) (by omega) (by omega) (by omega)]; exact hm_126
    have hm_213 : M_173 (qa + 2) = some (aZ G 6 (bF nq)) := by rw [hF_180 (qa + 2) (by omega) (by omega) (by omega) (by omega)]; exact hm_127
    have hm_214 : M_173 (qa + 3) = some (aI G 6 (nF pn)) := by rw [hF_180 (qa + 3) (by omega) (by omega) (by omega) (by omega)]; exact hm_128
    have hm_215 : M_173 (qa + 4) = some (aI G 6 (nF av)) := by rw [hF_180 (qa + 4) (by omega) (by omega) (by omega) (by omega)]; exact hm_129
    have hm_216 : M_173 (qa + 5) = some (aI G 24 (nF ro)) := by rw [hF_180 (qa + 5) (by omega) (by omega) (by omega) (by omega)]; exact hm_130
    have hm_217 : M_173 (qa + 6) = some (aI G 24 (nF te)) := by rw [hF_180 (qa + 6) (by omega) (by omega) (by omega) (by omega)]; exact hm_131
    have hm_218 : M_173 qs = some (cQuestion ad qs sq su) := by rw [hF_180 qs (by omega) (by omega) (by omega) (by omega)]; exact hm_132
    have hm_219 : M_173 (qs + 1) = some (aI G 6 (nF kb)) := by rw [hF_180 (qs + 1) (by omega) (by omega) (by omega) (by omega)]; exact hm_133
    have hm_220 : M_173 (qs + 2) = some (aZ G 6 (bF nb)) := by rw [hF_180 (qs + 2) (by omega) (by omega) (by omega) (by omega)]; exact hm_134
    have hm_221 : M_173 (qs + 3) = some (aI G 6 (nF pb)) := by rw [hF_180 (qs + 3) (by omega) (by omega) (by omega) (by omega)]; exact hm_135
    have hm_222 : M_173 (qs + 4) = some (aI G 6 (nF ab)) := by rw [hF_180 (qs + 4) (by omega) (by omega) (by omega) (by omega)]; exact hm_136
    have hm_223 : M_173 (qs + 5) = some (aI G 24 (nF rbb)) := by rw [hF_180 (qs + 5) (by omega) (by omega) (by omega) (by omega)]; exact hm_137
    have hm_224 : M_173 (qs + 6) = some (aI G 24 (nF tbb)) := by rw [hF_180 (qs + 6) (by omega) (by omega) (by omega) (by omega)]; exact hm_138
    have hm_225 : M_173 61 = some (aI G 36 (nF le)) := by rw [hF_180 61 (by omega) (by omega) (by omega) (by omega)]; exact hm_140
    have hm_226 : M_173 62 = some (aI G 36 (nF mo)) := by rw [hF_180 62 (by omega) (by omega) (by omega) (by omega)]; exact hm_141
    have hm_227 : M_173 63 = some (aI G 36 (nF al)) := by rw [hF_180 63 (by omega) (by omega) (by omega) (by omega)]; exact hm_142
    have hm_228 : M_173 64 = some (aZ G 6 (bF ho)) := by rw [hF_180 64 (by omega) (by omega) (by omega) (by omega)]; exact hm_143
    have hm_229 : M_173 65 = some (aI G 120 (nF mk)) := by rw [hF_180 65 (by omega) (by omega) (by omega) (by omega)]; exact hm_144
    have hm_230 : M_173 66 = some (aI G 120 mf) := by rw [hF_180 66 (by omega) (by omega) (by omega) (by omega)]; exact hm_145
    have hm_231 : M_173 67 = some (aI G 120 mu) := by rw [hF_180 67 (by omega) (by omega) (by omega) (by omega)]; exact hm_146
    have hm_232 : M_173 68 = some (aI G 121 (nF mz)) := by rw [hF_180 68 (by omega) (by omega) (by omega) (by omega)]; exact hm_147
    have hm_233 : M_173 69 = some (aI G 726 (nF rr)) := by rw [hF_180 69 (by omega) (by omega) (by omega) (by omega)]; exact hm_148
    have hm_234 : M_173 70 = some (aI G 726 (nF ee)) := by rw [hF_180 70 (by omega) (by omega) (by omega) (by omega)]; exact hm_149
    have hm_235 : M_173 71 = some (aI G 40 (nF lst)) := by rw [hF_180 71 (by omega) (by omega) (by omega) (by omega)]; exact hm_150
    have hm_236 : M_173 72 = some (aI G 40 (nF oa)) := by rw [hF_180 72 (by omega) (by omega) (by omega) (by omega)]; exact hm_151
    have hm_237 : M_173 73 = some (aI G 40 (nF ob)) := by rw [hF_180 73 (by omega) (by omega) (by omega) (by omega)]; exact hm_152
    have hm_238 : M_173 74 = some (aI G 120 s74) := by rw [hF_180 74 (by omega) (by omega) (by omega) (by omega)]; exact hm_153
    have hm_239 : M_173 75 = some (aI G 12 ak) := by rw [hF_180 75 (by omega) (by omega) (by omega) (by omega)]; exact hm_154
    have hm_240 : M_173 76 = some (aZ G 12 (bF nm)) := by rw [hF_180 76 (by omega) (by omega) (by omega) (by omega)]; exact hm_155
    have hm_241 : M_173 77 = some (aI G 12 (nF ap)) := by rw [hF_180 77 (by omega) (by omega) (by omega) (by omega)]; exact hm_156
    have hm_242 : M_173 78 = some (aI G 48 pr) := by rw [hF_180 78 (by omega) (by omega) (by omega) (by omega)]; exact hm_157
    have hm_243 : M_173 79 = some (aI G 48 pf) := by rw [hF_180 79 (by omega) (by omega) (by omega) (by omega)]; exact hm_158
    have hm_244 : M_173 80 = some (aB G 400 tf) := by rw [hF_180 80 (by omega) (by omega) (by omega) (by omega)]; exact hm_159
    have hm_245 : M_173 81 = some (aI G 5 fv) := by rw [hF_180 81 (by omega) (by omega) (by omega) (by omega)]; exact hm_160
    have hm_246 : M_173 85 = some (aZ G 40 (bF re)) := by rw [hF_180 85 (by omega) (by omega) (by omega) (by omega)]; exact hm_164
    have hm_247 : M_173 86 = some (aZ G 120 (bF us)) := by rw [hF_180 86 (by omega) (by omega) (by omega) (by omega)]; exact hm_165
    have hm_248 : M_173 87 = some (aZ G 120 (bF nx)) := by rw [hF_180 87 (by omega) (by omega) (by omega) (by omega)]; exact hm_166
    have hm_249 : M_173 99 = some (aJ G 1 of) := by rw [hF_180 99 (by omega) (by omega) (by omega) (by omega)]; exact hm_167
    have hm_250 : M_173 16 = some (cLines ad ) := by rw [hF_180 16 (by omega) (by omega) (by omega) (by omega)]; exact hm_168
    have hL_251 : LSm G ad M_173 n kd fm to sz rl en := hL_169.keep (fun j hj => hF_180 j (by omega) (by omega) (by omega) (by omega))
    have hF_252 : ∀ j : Nat, j ≠ 23 → j ≠ 24 → j ≠ 25 → j ≠ 27 → j ≠ 26 → j ≠ 28 → j ≠ 60 → j ≠ 82 → j ≠ 83 → j ≠ 84 → M_173 j = M j := fun j q0 q1 q2 q3 q4 q5 q6 q7 q8 q9 => (hF_180 j q6 q7 q8 q9).trans (hF_170 j q0 q1 q2 q3 q4 q5)
    have hPE := P_eq (aP_cg w22 hP_97.2) w1 hP_181.2.2 hP_181.2.1 (fun i hi k hk => ((w21 i hi).2.2 k hk).2.1) hlst (ji_id w3) (pos_cg w22 w25)
    refine lv_icmp_eq (tgt := 1333) hx hb dL_law_1070 (by decide) (fun c_253 => ?_) (fun c_253 => ?_)
    · -- 1070: r_85 eq
      refine W.widen (k := cz + 10) (n := sy + 300) (by omega) (by omega) ?_
      exact kk ad M_173 H_174 locs_175 ls n kd fm to sz rl en qa qs fw len tb le mo al ho jn hg lst jd s0 r0 th ol e0 mm9 ff lq ra rb rt rv qa p2_102 s2_99 f2_100 r2_103 d2_101 rc2_104 ao vr kn nq pn av ro te sq su kb nb pb ab rbb tbb 0 sn pt zs bg mk mf mu mz rr ee oa ob s74 ak nm ap pr pf tf fv tr2_182 gv2_183 fo2_184 re us nx of hL_251 w1 w2 w3 w4 w5 w6 w7 w8 w9 w10 w11 w12 w13 w14 w15 w16 w17 w18 w19 w20 w21 w22 w23 w24 w25 w26 w27 w28 (by omega) (fun h9 => by rw [hF_252 17 (by omega) (by omega) (by omega) (by omega) (by omega) (by omega) (by omega) (by omega) (by omega) (by omega), hF_252 18 (by omega) (by omega) (by omega) (by omega) (by omega) (by omega) (by omega) (by omega) (by omega) (by omega)]; exact w30 h9) (by rw [hF_252 29 (by omega) (by omega) (by omega) (by omega) (by omega) (by omega) (by omega) (by omega) (by omega) (by omega)]; exact w31) (fun j9 h9 => by rw [hF_252 j9 (by omega) (by omega) (by omega) (by omega) (by omega) (by omega) (by omega) (by omega) (by omega) (by omega)]; exact w32 j9 h9) hm_185 hm_186 hm_187 hm_188 hm_189 hm_190 hm_191 hm_192 hm_193 hm_194 hm_195 hm_196 hm_197 hm_198 hm_199 hm_200 hm_201 hm_202 hm_203 hm_204 hm_205 hm_206 hm_207 hm_208 hm_209 hm_210 hm_211 hm_212 hm_213 hm_214 hm_215 hm_216 hm_217 hm_218 hm_219 hm_220 hm_221 hm_222 hm_223 hm_224 hm_176 hm_225 hm_226 hm_227 hm_228 hm_229 hm_230 hm_231 hm_232 hm_233 hm_234 hm_235 hm_236 hm_237 hm_238 hm_239 hm_240 hm_241 hm_242 hm_243 hm_244 hm_245 hm_177 hm_178 hm_179 hm_246 hm_247 hm_248 hm_249 hI (lv_sub hl [0, 1, 2, 3, 4] rfl)
    · -- 1070: r_85 ne
      exact absurd (hP_97.1.trans ((congrArg nI (cntB_congr hPE)).trans hP_181.1.symm)) c_253

set_option maxHeartbeats 8000000 in
set_option maxRecDepth 100000 in
theorem law_16 {p : Program} {l : Launch} {e : Env} {s : State} {m : MethodId} {below : List Frame} {meth : Method} {c : Code} {b L : Nat} {xs : Nat → Int32} {Q : State → Prop} {G : GG} {z : Nat} {ad : Nat → Nat} {M : Mem} {H : Heap} {locs : List Loc} {ls : Array Slot} {i cz sy : Nat} (hst : l.stackTraces = false) (hx : p.tables.exec = Jvm.exec) (hb : c.code = code) (hml : c.maxLocals = 7) (hown : s.vm.findClass RL = some m.cls) {cx : Cond} (hts : ∀ w ∈ cx :: lwg, w.before #[Value.ref b] s = true) (hX : va_X b L xs s s.heap) (hbl : b < s.heap.size) (hbz : ¬ z ≤ b) (hI : Iv G z ad M s H locs) (hl : lv_has ls 7 [(0, .ref b), (1, .ref (ad 0)), (2, .ref (ad 60)), (3, .ref (ad 99)), (4, .int (nI i))]) (hiL : i + 6 ≤ L) (hL : L ≤ 3072) (hcz : cz + 10 ≤ 601024) (hsy : sy + 300 ≤ 7293034) {n : Nat} {kd : Nat → Nat} {fm : Nat → Int32} {to : Nat → Int32} {sz : Nat → Nat} {rl : Nat → Nat → Nat} {en : Nat → Nat → Nat} {qa : Nat} {qs : Nat} {fw : Int32} {len : Nat} {tb : Nat → Nat} {le : Nat → Nat} {mo : Nat → Nat} {al : Nat → Nat} {ho : Nat → Bool} {jn : Nat} {hg : Nat → Nat} {lst : Nat → Nat} {jd : Nat → Nat} {s0 : Nat} {r0 : Nat → Nat} {th : Nat → Option Nat} {ol : Nat → Option Nat} {e0 : Nat → Nat} {mm9 : Nat → Bool} {ff : Nat → Int32} {lq : Nat → Int32} {ra : Nat} {rb : Nat} {rt : Int32} {rv : Int32} {qm : Nat} {pz : Nat} {sx : Nat → Int64} {ft : Nat → Nat} {rx : Nat → Int64} {dm : Nat → Int64} {rc : Nat → Int32} {ao : Nat} {vr : Nat} {kn : Nat → Nat} {nq : Nat → Bool} {pn : Nat → Nat} {av : Nat → Nat} {ro : Nat → Nat} {te : Nat → Nat} {sq : Nat} {su : Nat} {kb : Nat → Nat} {nb : Nat → Bool} {pb : Nat → Nat} {ab : Nat → Nat} {rbb : Nat → Nat} {tbb : Nat → Nat} {tw : Nat} {sn : Nat} {pt : Nat} {zs : Nat} {bg : Nat} {mk : Nat → Nat} {mf : Nat → Int32} {mu : Nat → Int32} {mz : Nat → Nat} {rr : Nat → Nat} {ee : Nat → Nat} {oa : Nat → Nat} {ob : Nat → Nat} {s74 : Nat → Int32} {ak : Nat → Int32} {nm : Nat → Bool} {ap : Nat → Nat} {pr : Nat → Int32} {pf : Nat → Int32} {tf : Nat → Int32} {fv : Nat → Int32} {tr : Nat → Bool} {gv : Nat → Option Nat} {fo : Nat → Int32} {re : Nat → Bool} {us : Nat → Bool} {nx : Nat → Bool} {of : Nat → Int64} (fL : LSm G ad M n kd fm to sz rl en) (w1 : LSw n kd sz rl en) (w2 : MRel n kd fm to sz rl en mk mf mu mz rr ee) (w3 : JI jn hg lst jd oa ob) (w4 : len ≤ 400) (w5 : ∀ j, j < len → tb j < 256) (w6 : ∀ j, j < len → tf j = sB (tb j)) (w7 : s0 ≤ 6) (w8 : mz 120 = s0) (w9 : ∀ j, j < s0 → rr (720 + j) = r0 j ∧ ee (720 + j) = e0 j) (w10 : ∀ j, j < s0 → r0 j < 6) (w11 : ∀ j, j < s0 → e0 j < 40 + n) (w12 : ∀ j, j < s0 → th j = thE e0 j) (w13 : ∀ j, j < s0 → ol j = olE e0 j) (w14 : ∀ j, j < 36 → le j < 100) (w15 : ∀ j, j < 36 → mo j < 100) (w16 : ∀ j, j < 36 → al j ≤ 100) (w17 : ∀ i, i < n → (0 : Int32) ≤ fm i) (w18 : ∀ i, i < n → ∀ k, hgs sz en i k = true → fm k ≤ fm i) (w19 : ao ≤ 6) (w20 : vr < 8) (w21 : ∀ i, i < ao → ap i ≤ 4 ∧ (ak i = nI (kn i) ∧ kn i < 6) ∧ ∀ p8, p8 < ap i → (pr (4 * i + p8) = nI (ro (i * 4 + p8)) ∧ ro (i * 4 + p8) < 6) ∧ te (i * 4 + p8) < 43 ∧ pf (4 * i + p8) = tmI (te (i * 4 + p8))) (w22 : ∀ i, i < ao → nm i = nq i ∧ ap i = pn i) (w23 : ∀ i, i < ao → av i < 8) (w24 : ∀ i, i < ao → (av i).testBit 0 = false → ∀ p9, p9 < pn i → te (i * 4 + p9) ≠ 40) (w25 : ∀ v, v < 3 → vr.testBit v = true → ∃ i, i < ao ∧ nq i = false ∧ ∃ k, k < pn i ∧ te (i * 4 + k) = 40 + v) (w26 : 29 < qa ∧ qa < 38) (w27 : 29 < qs ∧ qs < 38) (w28 : qa + 7 ≤ qs ∨ qs + 7 ≤ qa) (w29 : 29 < qm ∧ qm < 51) (w30 : n = 0 → (∃ mcn : Int32, M 17 = some (cList ad mcn G.2.2.2.2 0)) ∧ M 18 = none) (w31 : M 29 = none) (w32 : ∀ j, 100 + 5 * n ≤ j → M j = none) (f_0 : M 0 = some (cStore ad qa qs fw)) (f_1 : M 1 = some (cTape ad len)) (f_2 : M 2 = some (aI G 400 (nF tb))) (f_3 : M 3 = some (cLaws ad )) (f_4 : M 4 = some (aI G 36 (nF le))) (f_5 : M 5 = some (aI G 36 (nF mo))) (f_6 : M 6 = some (aI G 36 (nF al))) (f_7 : M 7 = some (aZ G 6 (bF ho))) (f_8 : M 8 = some (cOnes ad jn)) (f_9 : M 9 = some (aI G 40 (nF hg))) (f_10 : M 10 = some (aI G 40 (nF lst))) (f_11 : M 11 = some (aI G 40 (nF jd))) (f_12 : M 12 = some (cEnds ad 12 s0)) (f_13 : M 13 = some (aI G 6 (nF r0))) (f_14 : M 14 = some (aI G 6 (oF th))) (f_15 : M 15 = some (aI G 6 (oF ol))) (f_19 : M 19 = some (aZ G 120 (bF mm9))) (f_20 : M 20 = some (aI G 120 ff)) (f_21 : M 21 = some (aI G 120 lq)) (f_22 : M 22 = some (cReader ad ra rb rt rv)) (f_23 : M 23 = some (cMatcher ad qm pz)) (f_24 : M 24 = some (aJ G 2160 sx)) (f_25 : M 25 = some (aI G 6 (nF ft))) (f_26 : M 26 = some (aJ G 240 rx)) (f_27 : M 27 = some (aJ G 3 dm)) (f_28 : M 28 = some (aI G 3 rc)) (f_qa : M qa = some (cQuestion ad qa ao vr)) (f_qa_1 : M (qa + 1) = some (aI G 6 (nF kn))) (f_qa_2 : M (qa + 2) = some (aZ G 6 (bF nq))) (f_qa_3 : M (qa + 3) = some (aI G 6 (nF pn))) (f_qa_4 : M (qa + 4) = some (aI G 6 (nF av))) (f_qa_5 : M (qa + 5) = some (aI G 24 (nF ro))) (f_qa_6 : M (qa + 6) = some (aI G 24 (nF te))) (f_qs : M qs = some (cQuestion ad qs sq su)) (f_qs_1 : M (qs + 1) = some (aI G 6 (nF kb))) (f_qs_2 : M (qs + 2) = some (aZ G 6 (bF nb))) (f_qs_3 : M (qs + 3) = some (aI G 6 (nF pb))) (f_qs_4 : M (qs + 4) = some (aI G 6 (nF ab))) (f_qs_5 : M (qs + 5) = some (aI G 24 (nF rbb))) (f_qs_6 : M (qs + 6) = some (aI G 24 (nF tbb))) (f_60 : M 60 = some (cModel ad tw n jn ao vr sn len pt zs bg fw)) (f_61 : M 61 = some (aI G 36 (nF le))) (f_62 : M 62 = some (aI G 36 (nF mo))) (f_63 : M 63 = some (aI G 36 (nF al))) (f_64 : M 64 = some (aZ G 6 (bF ho))) (f_65 : M 65 = some (aI G 120 (nF mk))) (f_66 : M 66 = some (aI G 120 mf)) (f_67 : M 67 = some (aI G 120 mu)) (f_68 : M 68 = some (aI G 121 (nF mz))) (f_69 : M 69 = some (aI G 726 (nF rr))) (f_70 : M 70 = some (aI G 726 (nF ee))) (f_71 : M 71 = some (aI G 40 (nF lst))) (f_72 : M 72 = some (aI G 40 (nF oa))) (f_73 : M 73 = some (aI G 40 (nF ob))) (f_74 : M 74 = some (aI G 120 s74)) (f_75 : M 75 = some (aI G 12 ak)) (f_76 : M 76 = some (aZ G 12 (bF nm))) (f_77 : M 77 = some (aI G 12 (nF ap))) (f_78 : M 78 = some (aI G 48 pr)) (f_79 : M 79 = some (aI G 48 pf)) (f_80 : M 80 = some (aB G 400 tf)) (f_81 : M 81 = some (aI G 5 fv)) (f_82 : M 82 = some (aZ G 384000 (bF tr))) (f_83 : M 83 = some (aI G 3 (oF gv))) (f_84 : M 84 = some (aI G 3 fo)) (f_85 : M 85 = some (aZ G 40 (bF re))) (f_86 : M 86 = some (aZ G 120 (bF us))) (f_87 : M 87 = some (aZ G 120 (bF nx))) (f_99 : M 99 = some (aJ G 1 of)) (kk : ∀ (ad1 : Nat → Nat) (M1 : Mem) (H1 : Heap) (locs1 : List Loc) (ls1 : Array Slot) (n : Nat) (kd : Nat → Nat) (fm : Nat → Int32) (to : Nat → Int32) (sz : Nat → Nat) (rl : Nat → Nat → Nat) (en : Nat → Nat → Nat) (qa : Nat) (qs : Nat) (fw : Int32) (len : Nat) (tb : Nat → Nat) (le : Nat → Nat) (mo : Nat → Nat) (al : Nat → Nat) (ho : Nat → Bool) (jn : Nat) (hg : Nat → Nat) (lst : Nat → Nat) (jd : Nat → Nat) (s0 : Nat) (r0 : Nat → Nat) (th : Nat → Option Nat) (ol : Nat → Option Nat) (e0 : Nat → Nat) (mm9 : Nat → Bool) (ff : Nat → Int32) (lq : Nat → Int32) (ra : Nat) (rb : Nat) (rt : Int32) (rv : Int32) (qm : Nat) (pz : Nat) (sx : Nat → Int64) (ft : Nat → Nat) (rx : Nat → Int64) (dm : Nat → Int64) (rc : Nat → Int32) (ao : Nat) (vr : Nat) (kn : Nat → Nat) (nq : Nat → Bool) (pn : Nat → Nat) (av : Nat → Nat) (ro : Nat → Nat) (te : Nat → Nat) (sq : Nat) (su : Nat) (kb : Nat → Nat) (nb : Nat → Bool) (pb : Nat → Nat) (ab : Nat → Nat) (rbb : Nat → Nat) (tbb : Nat → Nat) (tw : Nat) (sn : Nat) (pt : Nat) (zs : Nat) (bg : Nat) (mk : Nat → Nat) (mf : Nat → Int32) (mu : Nat → Int32) (mz : Nat → Nat) (rr : Nat → Nat) (ee : Nat → Nat) (oa : Nat → Nat) (ob : Nat → Nat) (s74 : Nat → Int32) (ak : Nat → Int32) (nm : Nat → Bool) (ap : Nat → Nat) (pr : Nat → Int32) (pf : Nat → Int32) (tf : Nat → Int32) (fv : Nat → Int32) (tr : Nat → Bool) (gv : Nat → Option Nat) (fo : Nat → Int32) (re : Nat → Bool) (us : Nat → Bool) (nx : Nat → Bool) (of : Nat → Int64), (LSm G ad1 M1 n kd fm to sz rl en) → (LSw n kd sz rl en) → (MRel n kd fm to sz rl en mk mf mu mz rr ee) → (JI jn hg lst jd oa ob) → (len ≤ 400) → (∀ j, j < len → tb j < 256) → (∀ j, j < len → tf j = sB (tb j)) → (s0 ≤ 6) → (mz 120 = s0) → (∀ j, j < s0 → rr (720 + j) = r0 j ∧ ee (720 + j) = e0 j) → (∀ j, j < s0 → r0 j < 6) → (∀ j, j < s0 → e0 j < 40 + n) → (∀ j, j < s0 → th j = thE e0 j) → (∀ j, j < s0 → ol j = olE e0 j) → (∀ j, j < 36 → le j < 100) → (∀ j, j < 36 → mo j < 100) → (∀ j, j < 36 → al j ≤ 100) → (∀ i, i < n → (0 : Int32) ≤ fm i) → (∀ i, i < n → ∀ k, hgs sz en i k = true → fm k ≤ fm i) → (ao ≤ 6) → (vr < 8) → (∀ i, i < ao → ap i ≤ 4 ∧ (ak i = nI (kn i) ∧ kn i < 6) ∧ ∀ p8, p8 < ap i → (pr (4 * i + p8) = nI (ro (i * 4 + p8)) ∧ ro (i * 4 + p8) < 6) ∧ te (i * 4 + p8) < 43 ∧ pf (4 * i + p8) = tmI (te (i * 4 + p8))) → (∀ i, i < ao → nm i = nq i ∧ ap i = pn i) → (∀ i, i < ao → av i < 8) → (∀ i, i < ao → (av i).testBit 0 = false → ∀ p9, p9 < pn i → te (i * 4 + p9) ≠ 40) → (∀ v, v < 3 → vr.testBit v = true → ∃ i, i < ao ∧ nq i = false ∧ ∃ k, k < pn i ∧ te (i * 4 + k) = 40 + v) → (29 < qa ∧ qa < 38) → (29 < qs ∧ qs < 38) → (qa + 7 ≤ qs ∨ qs + 7 ≤ qa) → (29 < qm ∧ qm < 51) → (n = 0 → (∃ mcn : Int32, M1 17 = some (cList ad1 mcn G.2.2.2.2 0)) ∧ M1 18 = none) → (M1 29 = none) → (∀ j, 100 + 5 * n ≤ j → M1 j = none) → (M1 0 = some (cStore ad1 qa qs fw)) → (M1 1 = some (cTape ad1 len)) → (M1 2 = some (aI G 400 (nF tb))) → (M1 3 = some (cLaws ad1 )) → (M1 4 = some (aI G 36 (nF le))) → (M1 5 = some (aI G 36 (nF mo))) → (M1 6 = some (aI G 36 (nF al))) → (M1 7 = some (aZ G 6 (bF ho))) → (M1 8 = some (cOnes ad1 jn)) → (M1 9 = some (aI G 40 (nF hg))) → (M1 10 = some (aI G 40 (nF lst))) → (M1 11 = some (aI G 40 (nF jd))) → (M1 12 = some (cEnds ad1 12 s0)) → (M1 13 = some (aI G 6 (nF r0))) → (M1 14 = some (aI G 6 (oF th))) → (M1 15 = some (aI G 6 (oF ol))) → (M1 19 = some (aZ G 120 (bF mm9))) → (M1 20 = some (aI G 120 ff)) → (M1 21 = some (aI G 120 lq)) → (M1 22 = some (cReader ad1 ra rb rt rv)) → (M1 23 = some (cMatcher ad1 qm pz)) → (M1 24 = some (aJ G 2160 sx)) → (M1 25 = some (aI G 6 (nF ft))) → (M1 26 = some (aJ G 240 rx)) → (M1 27 = some (aJ G 3 dm)) → (M1 28 = some (aI G 3 rc)) → (M1 qa = some (cQuestion ad1 qa ao vr)) → (M1 (qa + 1) = some (aI G 6 (nF kn))) → (M1 (qa + 2) = some (aZ G 6 (bF nq))) → (M1 (qa + 3) = some (aI G 6 (nF pn))) → (M1 (qa + 4) = some (aI G 6 (nF av))) → (M1 (qa + 5) = some (aI G 24 (nF ro))) → (M1 (qa + 6) = some (aI G 24 (nF te))) → (M1 qs = some (cQuestion ad1 qs sq su)) → (M1 (qs + 1) = some (aI G 6 (nF kb))) → (M1 (qs + 2) = some (aZ G 6 (bF nb))) → (M1 (qs + 3) = some (aI G 6 (nF pb))) → (M1 (qs + 4) = some (aI G 6 (nF ab))) → (M1 (qs + 5) = some (aI G 24 (nF rbb))) → (M1 (qs + 6) = some (aI G 24 (nF tbb))) → (M1 60 = some (cModel ad1 tw n jn ao vr sn len pt zs bg fw)) → (M1 61 = some (aI G 36 (nF le))) → (M1 62 = some (aI G 36 (nF mo))) → (M1 63 = some (aI G 36 (nF al))) → (M1 64 = some (aZ G 6 (bF ho))) → (M1 65 = some (aI G 120 (nF mk))) → (M1 66 = some (aI G 120 mf)) → (M1 67 = some (aI G 120 mu)) → (M1 68 = some (aI G 121 (nF mz))) → (M1 69 = some (aI G 726 (nF rr))) → (M1 70 = some (aI G 726 (nF ee))) → (M1 71 = some (aI G 40 (nF lst))) → (M1 72 = some (aI G 40 (nF oa))) → (M1 73 = some (aI G 40 (nF ob))) → (M1 74 = some (aI G 120 s74)) → (M1 75 = some (aI G 12 ak)) → (M1 76 = some (aZ G 12 (bF nm))) → (M1 77 = some (aI G 12 (nF ap))) → (M1 78 = some (aI G 48 pr)) → (M1 79 = some (aI G 48 pf)) → (M1 80 = some (aB G 400 tf)) → (M1 81 = some (aI G 5 fv)) → (M1 82 = some (aZ G 384000 (bF tr))) → (M1 83 = some (aI G 3 (oF gv))) → (M1 84 = some (aI G 3 fo)) → (M1 85 = some (aZ G 40 (bF re))) → (M1 86 = some (aZ G 120 (bF us))) → (M1 87 = some (aZ G 120 (bF nx))) → (M1 99 = some (aJ G 1 of)) → Iv G z ad1 M1 s H1 locs1 → lv_has ls1 7 [(0, .ref b), (1, .ref (ad1 0)), (2, .ref (ad1 60)), (3, .ref (ad1 99)), (4, .int (nI i))] → W p l e room_1 s m #[Value.ref b] below meth c H1 locs1 (cz + 10) (sy + 300) Q (F0 m 1333 ls1 [])) : W p l e room_1 s m #[Value.ref b] below meth c H locs cz sy Q (F0 m 1075 ls []) := by
  have h16 := fL.1
  have hw1 := w1.1
  have hlst := ji_lst w3
  rcases (in_neg (xs (i + 2)) : (xs (i + 2) < 0) ∨ (∃ t : Nat, t < 2 ^ 31 ∧ xs (i + 2) = nI t)) with hc_1 | hc_2
  · skip
    refine lv_aload_n hx hb dL_law_1075 rfl (lv_at hl 1 rfl) ?_
    refine lv_aload_n hx hb dL_law_1076 rfl (lv_at hl 0 rfl) ?_
    refine lv_iload hx hb dL_law_1077 (lv_at hl 4 rfl) ?_
    refine lv_iconst (v := nI 1) hx hb dL_law_1079 (by decide) ?_
    refine lv_iadd hx hb dL_law_1080 ?_
    refine n_eq (nI_add i 1) ?_
    refine va_sld (A := fr z) hx hb hX hbl hbz hI.S (vp_in_nI (n := i + 1) (by omega) (by omega)) dL_law_1081 ?_
    rw [nI_clamp (by omega)]
    refine lv_aload_n hx hb dL_law_1082 rfl (lv_at hl 0 rfl) ?_
    refine lv_iload hx hb dL_law_1083 (lv_at hl 4 rfl) ?_
    refine lv_iconst (v := nI 2) hx hb dL_law_1085 (by decide) ?_
    refine lv_iadd hx hb dL_law_1086 ?_
    refine n_eq (nI_add i 2) ?_
    refine va_sld (A := fr z) hx hb hX hbl hbz hI.S (vp_in_nI (n := i + 2) (by omega) (by omega)) dL_law_1087 ?_
    rw [nI_clamp (by omega)]
    refine lv_aload_n hx hb dL_law_1088 rfl (lv_at hl 0 rfl) ?_
    refine lv_iload hx hb dL_law_1089 (lv_at hl 4 rfl) ?_
    refine lv_iconst (v := nI 3) hx hb dL_law_1091 (by decide) ?_
    refine lv_iadd hx hb dL_law_1092 ?_
    refine n_eq (nI_add i 3) ?_
    refine va_sld (A := fr z) hx hb hX hbl hbz hI.S (vp_in_nI (n := i + 3) (by omega) (by omega)) dL_law_1093 ?_
    rw [nI_clamp (by omega)]
    refine k_Ri (va_runV (As := [.int (xs (i + 1)), .int (xs (i + 2)), .int (xs (i + 3))]) (rest := []) ⟨hx, hb, hml, hown, hts⟩ (c_X9_answer_a l G z ad M (qa := qa) (qs := qs) (fw := fw) (d := xs (i + 1)) (x := xs (i + 2)) (y := xs (i + 3)) f_0 hc_1) (cwV 3 hts (gV (lwg_of t_435 rfl) (lwg_of t_436 rfl) (lwg_of t_437 rfl) (lwg_of t_1 rfl) (lwg_of t_438 rfl)) rfl rfl rfl (by decide +kernel) ⟨Nat.le_of_ble_eq_true rfl, Nat.le_of_ble_eq_true rfl⟩) (hI.preV f_0 rfl) rfl rfl hl.1 rfl (lv_room (Nat.le_of_ble_eq_true rfl)) dL_law_1094 ⟨(show _ ≤ (601024 : Nat) from by omega), (show _ ≤ (7293034 : Nat) from by omega)⟩) (fun _ h => h) (fun r_3 hp_4 => ?_)
    rw [hp_4]
    refine lv_aload_n hx hb dL_law_1097 rfl (lv_at hl 2 rfl) ?_
    refine lv_aload_n hx hb dL_law_1098 rfl (lv_at hl 0 rfl) ?_
    refine lv_iload hx hb dL_law_1099 (lv_at hl 4 rfl) ?_
    refine lv_iconst (v := nI 1) hx hb dL_law_1101 (by decide) ?_
    refine lv_iadd hx hb dL_law_1102 ?_
    refine n_eq (nI_add i 1) ?_
    refine va_sld (A := fr z) hx hb hX hbl hbz hI.S (vp_in_nI (n := i + 1) (by omega) (by omega)) dL_law_1103 ?_
    rw [nI_clamp (by omega)]
    refine lv_aload_n hx hb dL_law_1104 rfl (lv_at hl 0 rfl) ?_
    refine lv_iload hx hb dL_law_1105 (lv_at hl 4 rfl) ?_
    refine lv_iconst (v := nI 2) hx hb dL_law_1107 (by decide) ?_
    refine lv_iadd hx hb dL_law_1108 ?_
    refine n_eq (nI_add i 2) ?_
    refine va_sld (A := fr z) hx hb hX hbl hbz hI.S (vp_in_nI (n := i + 2) (by omega) (by omega)) dL_law_1109 ?_
    rw [nI_clamp (by omega)]
    refine lv_aload_n hx hb dL_law_1110 rfl (lv_at hl 0 rfl) ?_
    refine lv_iload hx hb dL_law_1111 (lv_at hl 4 rfl) ?_
    refine lv_iconst (v := nI 3) hx hb dL_law_1113 (by decide) ?_
    refine lv_iadd hx hb dL_law_1114 ?_
    refine n_eq (nI_add i 3) ?_
    refine va_sld (A := fr z) hx hb hX hbl hbz hI.S (vp_in_nI (n := i + 3) (by omega) (by omega)) dL_law_1115 ?_
    rw [nI_clamp (by omega)]
    refine k_Ni (va_runV (As := [.int (xs (i + 1)), .int (xs (i + 2)), .int (xs (i + 3))]) (rest := [.int (-1)]) ⟨hx, hb, hml, hown, hts⟩ (c_X10_answer_a l G z ad M (th := tw) (ln := n) (on := jn) (ao := ao) (vr := vr) (sn := sn) (tp := len) (pt := pt) (zs := zs) (bg := bg) (fa := fw) (d := xs (i + 1)) (x := xs (i + 2)) (y := xs (i + 3)) f_60 hc_1) (cwV 3 hts (gV (lwg_of t_1350 rfl) (lwg_of t_1351 rfl) (lwg_of t_1352 rfl) (lwg_of t_13 rfl) (lwg_of t_1353 rfl)) rfl rfl rfl (by decide +kernel) ⟨Nat.le_of_ble_eq_true rfl, Nat.le_of_ble_eq_true rfl⟩) (hI.preV f_60 rfl) rfl rfl hl.1 rfl (lv_room (Nat.le_of_ble_eq_true rfl)) dL_law_1116 ⟨(show _ ≤ (601024 : Nat) from by omega), (show _ ≤ (7293034 : Nat) from by omega)⟩) hI (fun r_5 M_7 H_8 locs_9 hp_6 hI => ?_)
    obtain ⟨hr_10, hm_11, hF_12⟩ := hp_6
    have hm_13 : M_7 0 = some (cStore ad qa qs fw) := by rw [hF_12 0 (by omega)]; exact f_0
    have hm_14 : M_7 1 = some (cTape ad len) := by rw [hF_12 1 (by omega)]; exact f_1
    have hm_15 : M_7 2 = some (aI G 400 (nF tb)) := by rw [hF_12 2 (by omega)]; exact f_2
    have hm_16 : M_7 3 = some (cLaws ad ) := by rw [hF_12 3 (by omega)]; exact f_3
    have hm_17 : M_7 4 = some (aI G 36 (nF le)) := by rw [hF_12 4 (by omega)]; exact f_4
    have hm_18 : M_7 5 = some (aI G 36 (nF mo)) := by rw [hF_12 5 (by omega)]; exact f_5
    have hm_19 : M_7 6 = some (aI G 36 (nF al)) := by rw [hF_12 6 (by omega)]; exact f_6
    have hm_20 : M_7 7 = some (aZ G 6 (bF ho)) := by rw [hF_12 7 (by omega)]; exact f_7
    have hm_21 : M_7 8 = some (cOnes ad jn) := by rw [hF_12 8 (by omega)]; exact f_8
    have hm_22 : M_7 9 = some (aI G 40 (nF hg)) := by rw [hF_12 9 (by omega)]; exact f_9
    have hm_23 : M_7 10 = some (aI G 40 (nF lst)) := by rw [hF_12 10 (by omega)]; exact f_10
    have hm_24 : M_7 11 = some (aI G 40 (nF jd)) := by rw [hF_12 11 (by omega)]; exact f_11
    have hm_25 : M_7 12 = some (cEnds ad 12 s0) := by rw [hF_12 12 (by omega)]; exact f_12
    have hm_26 : M_7 13 = some (aI G 6 (nF r0)) := by rw [hF_12 13 (by omega)]; exact f_13
    have hm_27 : M_7 14 = some (aI G 6 (oF th)) := by rw [hF_12 14 (by omega)]; exact f_14
    have hm_28 : M_7 15 = some (aI G 6 (oF ol)) := by rw [hF_12 15 (by omega)]; exact f_15
    have hm_29 : M_7 19 = some (aZ G 120 (bF mm9)) := by rw [hF_12 19 (by omega)]; exact f_19
    have hm_30 : M_7 20 = some (aI G 120 ff) := by rw [hF_12 20 (by omega)]; exact f_20
    have hm_31 : M_7 21 = some (aI G 120 lq) := by rw [hF_12 21 (by omega)]; exact f_21
    have hm_32 : M_7 22 = some (cReader ad ra rb rt rv) := by rw [hF_12 22 (by omega)]; exact f_22
    have hm_33 : M_7 23 = some (cMatcher ad qm pz) := by rw [hF_12 23 (by omega)]; exact f_23
    have hm_34 : M_7 24 = some (aJ G 2160 sx) := by rw [hF_12 24 (by omega)]; exact f_24
    have hm_35 : M_7 25 = some (aI G 6 (nF ft)) := by rw [hF_12 25 (by omega)]; exact f_25
    have hm_36 : M_7 26 = some (aJ G 240 rx) := by rw [hF_12 26 (by omega)]; exact f_26
    have hm_37 : M_7 27 = some (aJ G 3 dm) := by rw [hF_12 27 (by omega)]; exact f_27
    have hm_38 : M_7 28 = some (aI G 3 rc) := by rw [hF_12 28 (by omega)]; exact f_28
    have hm_39 : M_7 qa = some (cQuestion ad qa ao vr) := by rw [hF_12 qa (by omega)]; exact f_qa
    have hm_40 : M_7 (qa + 1) = some (aI G 6 (nF kn)) := by rw [hF_12 (qa + 1) (by omega)]; exact f_qa_1
    have hm_41 : M_7 (qa + 2) = some (aZ G 6 (bF nq)) := by rw [hF_12 (qa + 2) (by omega)]; exact f_qa_2
    have hm_42 : M_7 (qa + 3) = some (aI G 6 (nF pn)) := by rw [hF_12 (qa + 3) (by omega)]; exact f_qa_3
    have hm_43 : M_7 (qa + 4) = some (aI G 6 (nF av)) := by rw [hF_12 (qa + 4) (by omega)]; exact f_qa_4
    have hm_44 : M_7 (qa + 5) = some (aI G 24 (nF ro)) := by rw [hF_12 (qa + 5) (by omega)]; exact f_qa_5
    have hm_45 : M_7 (qa + 6) = some (aI G 24 (nF te)) := by rw [hF_12 (qa + 6) (by omega)]; exact f_qa_6
    have hm_46 : M_7 qs = some (cQuestion ad qs sq su) := by rw [hF_12 qs (by omega)]; exact f_qs
    have hm_47 : M_7 (qs + 1) = some (aI G 6 (nF kb)) := by rw [hF_12 (qs + 1) (by omega)]; exact f_qs_1
    have hm_48 : M_7 (qs + 2) = some (aZ G 6 (bF nb)) := by rw [hF_12 (qs + 2) (by omega)]; exact f_qs_2
    have hm_49 : M_7 (qs + 3) = some (aI G 6 (nF pb)) := by rw [hF_12 (qs + 3) (by omega)]; exact f_qs_3
    have hm_50 : M_7 (qs + 4) = some (aI G 6 (nF ab)) := by rw [hF_12 (qs + 4) (by omega)]; exact f_qs_4
    have hm_51 : M_7 (qs + 5) = some (aI G 24 (nF rbb)) := by rw [hF_12 (qs + 5) (by omega)]; exact f_qs_5
    have hm_52 : M_7 (qs + 6) = some (aI G 24 (nF tbb)) := by rw [hF_12 (qs + 6) (by omega)]; exact f_qs_6
    have hm_53 : M_7 61 = some (aI G 36 (nF le)) := by rw [hF_12 61 (by omega)]; exact f_61
    have hm_54 : M_7 62 = some (aI G 36 (nF mo)) := by rw [hF_12 62 (by omega)]; exact f_62
    have hm_55 : M_7 63 = some (aI G 36 (nF al)) := by rw [hF_12 63 (by omega)]; exact f_63
    have hm_56 : M_7 64 = some (aZ G 6 (bF ho)) := by rw [hF_12 64 (by omega)]; exact f_64
    have hm_57 : M_7 65 = some (aI G 120 (nF mk)) := by rw [hF_12 65 (by omega)]; exact f_65
    have hm_58 : M_7 66 = some (aI G 120 mf) := by rw [hF_12 66 (by omega)]; exact f_66
    have hm_59 : M_7 67 = some (aI G 120 mu) := by rw [hF_12 67 (by omega)]; exact f_67
    have hm_60 : M_7 68 = some (aI G 121 (nF mz)) := by rw [hF_12 68 (by omega)]; exact f_68
    have hm_61 : M_7 69 = some (aI G 726 (nF rr)) := by rw [hF_12 69 (by omega)]; exact f_69
    have hm_62 : M_7 70 = some (aI G 726 (nF ee)) := by rw [hF_12 70 (by omega)]; exact f_70
    have hm_63 : M_7 71 = some (aI G 40 (nF lst)) := by rw [hF_12 71 (by omega)]; exact f_71
    have hm_64 : M_7 72 = some (aI G 40 (nF oa)) := by rw [hF_12 72 (by omega)]; exact f_72
    have hm_65 : M_7 73 = some (aI G 40 (nF ob)) := by rw [hF_12 73 (by omega)]; exact f_73
    have hm_66 : M_7 74 = some (aI G 120 s74) := by rw [hF_12 74 (by omega)]; exact f_74
    have hm_67 : M_7 75 = some (aI G 12 ak) := by rw [hF_12 75 (by omega)]; exact f_75
    have hm_68 : M_7 76 = some (aZ G 12 (bF nm)) := by rw [hF_12 76 (by omega)]; exact f_76
    have hm_69 : M_7 77 = some (aI G 12 (nF ap)) := by rw [hF_12 77 (by omega)]; exact f_77
    have hm_70 : M_7 78 = some (aI G 48 pr) := by rw [hF_12 78 (by omega)]; exact f_78
    have hm_71 : M_7 79 = some (aI G 48 pf) := by rw [hF_12 79 (by omega)]; exact f_79
    have hm_72 : M_7 80 = some (aB G 400 tf) := by rw [hF_12 80 (by omega)]; exact f_80
    have hm_73 : M_7 81 = some (aI G 5 fv) := by rw [hF_12 81 (by omega)]; exact f_81
    have hm_74 : M_7 82 = some (aZ G 384000 (bF tr)) := by rw [hF_12 82 (by omega)]; exact f_82
    have hm_75 : M_7 83 = some (aI G 3 (oF gv)) := by rw [hF_12 83 (by omega)]; exact f_83
    have hm_76 : M_7 84 = some (aI G 3 fo) := by rw [hF_12 84 (by omega)]; exact f_84
    have hm_77 : M_7 85 = some (aZ G 40 (bF re)) := by rw [hF_12 85 (by omega)]; exact f_85
    have hm_78 : M_7 86 = some (aZ G 120 (bF us)) := by rw [hF_12 86 (by omega)]; exact f_86
    have hm_79 : M_7 87 = some (aZ G 120 (bF nx)) := by rw [hF_12 87 (by omega)]; exact f_87
    have hm_80 : M_7 99 = some (aJ G 1 of) := by rw [hF_12 99 (by omega)]; exact f_99
    have hm_81 : M_7 16 = some (cLines ad ) := by rw [hF_12 16 (by omega)]; exact h16
    have hL_82 : LSm G ad M_7 n kd fm to sz rl en := fL.keep (fun j hj => hF_12 j (by omega))
    have hF_83 : ∀ j : Nat, j ≠ 60 → M_7 j = M j := fun j q0 => (hF_12 j q0)
    rw [hr_10]
    refine lv_icmp_eq (tgt := 1333) hx hb dL_law_1119 (by decide) (fun c_84 => ?_) (fun c_84 => ?_)
    · -- 1119: (-1) eq
      refine W.widen (k := cz + 10) (n := sy + 300) (by omega) (by omega) ?_
      exact kk ad M_7 H_8 locs_9 ls n kd fm to sz rl en qa qs fw len tb le mo al ho jn hg lst jd s0 r0 th ol e0 mm9 ff lq ra rb rt rv qm pz sx ft rx dm rc ao vr kn nq pn av ro te sq su kb nb pb ab rbb tbb 0 sn pt zs bg mk mf mu mz rr ee oa ob s74 ak nm ap pr pf tf fv tr gv fo re us nx of hL_82 w1 w2 w3 w4 w5 w6 w7 w8 w9 w10 w11 w12 w13 w14 w15 w16 w17 w18 w19 w20 w21 w22 w23 w24 w25 w26 w27 w28 w29 (fun h9 => by rw [hF_83 17 (by omega), hF_83 18 (by omega)]; exact w30 h9) (by rw [hF_83 29 (by omega)]; exact w31) (fun j9 h9 => by rw [hF_83 j9 (by omega)]; exact w32 j9 h9) hm_13 hm_14 hm_15 hm_16 hm_17 hm_18 hm_19 hm_20 hm_21 hm_22 hm_23 hm_24 hm_25 hm_26 hm_27 hm_28 hm_29 hm_30 hm_31 hm_32 hm_33 hm_34 hm_35 hm_36 hm_37 hm_38 hm_39 hm_40 hm_41 hm_42 hm_43 hm_44 hm_45 hm_46 hm_47 hm_48 hm_49 hm_50 hm_51 hm_52 hm_11 hm_53 hm_54 hm_55 hm_56 hm_57 hm_58 hm_59 hm_60 hm_61 hm_62 hm_63 hm_64 hm_65 hm_66 hm_67 hm_68 hm_69 hm_70 hm_71 hm_72 hm_73 hm_74 hm_75 hm_76 hm_77 hm_78 hm_79 hm_80 hI (lv_sub hl [0, 1, 2, 3, 4] rfl)
    · -- 1119: (-1) ne
      exact absurd (by decide) c_84
  · skip
    refine lv_aload_n hx hb dL_law_1075 rfl (lv_at hl 1 rfl) ?_
    obtain ⟨t2, ht2, et2⟩ := hc_2
    rcases (in_or 3 (xs (i + 3)) (by omega) : (xs (i + 3) < 0 ∨ ¬ xs (i + 3) < nI 3) ∨ (∃ t : Nat, t < 3 ∧ xs (i + 3) = nI t)) with hc_85 | hc_86
    · skip
      refine lv_aload_n hx hb dL_law_1076 rfl (lv_at hl 0 rfl) ?_
      refine lv_iload hx hb dL_law_1077 (lv_at hl 4 rfl) ?_
      refine lv_iconst (v := nI 1) hx hb dL_law_1079 (by decide) ?_
      refine lv_iadd hx hb dL_law_1080 ?_
      refine n_eq (nI_add i 1) ?_
      refine va_sld (A := fr z) hx hb hX hbl hbz hI.S (vp_in_nI (n := i + 1) (by omega) (by omega)) dL_law_1081 ?_
      rw [nI_clamp (by omega)]
      refine lv_aload_n hx hb dL_law_1082 rfl (lv_at hl 0 rfl) ?_
      refine lv_iload hx hb dL_law_1083 (lv_at hl 4 rfl) ?_
      refine lv_iconst (v := nI 2) hx hb dL_law_1085 (by decide) ?_
      refine lv_iadd hx hb dL_law_1086 ?_
      refine n_eq (nI_add i 2) ?_
      refine va_sld (A := fr z) hx hb hX hbl hbz hI.S (vp_in_nI (n := i + 2) (by omega) (by omega)) dL_law_1087 ?_
      rw [nI_clamp (by omega)]
      refine lv_aload_n hx hb dL_law_1088 rfl (lv_at hl 0 rfl) ?_
      refine lv_iload hx hb dL_law_1089 (lv_at hl 4 rfl) ?_
      refine lv_iconst (v := nI 3) hx hb dL_law_1091 (by decide) ?_
      refine lv_iadd hx hb dL_law_1092 ?_
      refine n_eq (nI_add i 3) ?_
      refine va_sld (A := fr z) hx hb hX hbl hbz hI.S (vp_in_nI (n := i + 3) (by omega) (by omega)) dL_law_1093 ?_
      rw [nI_clamp (by omega)]
      refine k_Ri (va_runV (As := [.int (xs (i + 1)), .int (xs (i + 2)), .int (xs (i + 3))]) (rest := []) ⟨hx, hb, hml, hown, hts⟩ (c_X9_answer_b l G z ad M (qa := qa) (qs := qs) (fw := fw) (d := xs (i + 1)) (x := xs (i + 2)) (y := xs (i + 3)) f_0 hc_85) (cwV 3 hts (gV (lwg_of t_435 rfl) (lwg_of t_436 rfl) (lwg_of t_437 rfl) (lwg_of t_1 rfl) (lwg_of t_438 rfl)) rfl rfl rfl (by decide +kernel) ⟨Nat.le_of_ble_eq_true rfl, Nat.le_of_ble_eq_true rfl⟩) (hI.preV f_0 rfl) rfl rfl hl.1 rfl (lv_room (Nat.le_of_ble_eq_true rfl)) dL_law_1094 ⟨(show _ ≤ (601024 : Nat) from by omega), (show _ ≤ (7293034 : Nat) from by omega)⟩) (fun _ h => h) (fun r_87 hp_88 => ?_)
      rw [hp_88]
      refine lv_aload_n hx hb dL_law_1097 rfl (lv_at hl 2 rfl) ?_
      refine lv_aload_n hx hb dL_law_1098 rfl (lv_at hl 0 rfl) ?_
      refine lv_iload hx hb dL_law_1099 (lv_at hl 4 rfl) ?_
      refine lv_iconst (v := nI 1) hx hb dL_law_1101 (by decide) ?_
      refine lv_iadd hx hb dL_law_1102 ?_
      refine n_eq (nI_add i 1) ?_
      refine va_sld (A := fr z) hx hb hX hbl hbz hI.S (vp_in_nI (n := i + 1) (by omega) (by omega)) dL_law_1103 ?_
      rw [nI_clamp (by omega)]
      refine lv_aload_n hx hb dL_law_1104 rfl (lv_at hl 0 rfl) ?_
      refine lv_iload hx hb dL_law_1105 (lv_at hl 4 rfl) ?_
      refine lv_iconst (v := nI 2) hx hb dL_law_1107 (by decide) ?_
      refine lv_iadd hx hb dL_law_1108 ?_
      refine n_eq (nI_add i 2) ?_
      refine va_sld (A := fr z) hx hb hX hbl hbz hI.S (vp_in_nI (n := i + 2) (by omega) (by omega)) dL_law_1109 ?_
      rw [nI_clamp (by omega)]
      refine lv_aload_n hx hb dL_law_1110 rfl (lv_at hl 0 rfl) ?_
      refine lv_iload hx hb dL_law_1111 (lv_at hl 4 rfl) ?_
      refine lv_iconst (v := nI 3) hx hb dL_law_1113 (by decide) ?_
      refine lv_iadd hx hb dL_law_1114 ?_
      refine n_eq (nI_add i 3) ?_
      refine va_sld (A := fr z) hx hb hX hbl hbz hI.S (vp_in_nI (n := i + 3) (by omega) (by omega)) dL_law_1115 ?_
      rw [nI_clamp (by omega)]
      refine k_Ni (va_runV (As := [.int (xs (i + 1)), .int (xs (i + 2)), .int (xs (i + 3))]) (rest := [.int (-1)]) ⟨hx, hb, hml, hown, hts⟩ (c_X10_answer_b l G z ad M (th := tw) (ln := n) (on := jn) (ao := ao) (vr := vr) (sn := sn) (tp := len) (pt := pt) (zs := zs) (bg := bg) (fa := fw) (d := xs (i + 1)) (x := xs (i + 2)) (y := xs (i + 3)) f_60 hc_85) (cwV 3 hts (gV (lwg_of t_1350 rfl) (lwg_of t_1351 rfl) (lwg_of t_1352 rfl) (lwg_of t_13 rfl) (lwg_of t_1353 rfl)) rfl rfl rfl (by decide +kernel) ⟨Nat.le_of_ble_eq_true rfl, Nat.le_of_ble_eq_true rfl⟩) (hI.preV f_60 rfl) rfl rfl hl.1 rfl (lv_room (Nat.le_of_ble_eq_true rfl)) dL_law_1116 ⟨(show _ ≤ (601024 : Nat) from by omega), (show _ ≤ (7293034 : Nat) from by omega)⟩) hI (fun r_89 M_91 H_92 locs_93 hp_90 hI => ?_)
      obtain ⟨hr_94, hm_95, hF_96⟩ := hp_90
      have hm_97 : M_91 0 = some (cStore ad qa qs fw) := by rw [hF_96 0 (by omega)]; exact f_0
      have hm_98 : M_91 1 = some (cTape ad len) := by rw [hF_96 1 (by omega)]; exact f_1
      have hm_99 : M_91 2 = some (aI G 400 (nF tb)) := by rw [hF_96 2 (by omega)]; exact f_2
      have hm_100 : M_91 3 = some (cLaws ad ) := by rw [hF_96 3 (by omega)]; exact f_3
      have hm_101 : M_91 4 = some (aI G 36 (nF le)) := by rw [hF_96 4 (by omega)]; exact f_4
      have hm_102 : M_91 5 = some (aI G 36 (nF mo)) := by rw [hF_96 5 (by omega)]; exact f_5
      have hm_103 : M_91 6 = some (aI G 36 (nF al)) := by rw [hF_96 6 (by omega)]; exact f_6
      have hm_104 : M_91 7 = some (aZ G 6 (bF ho)) := by rw [hF_96 7 (by omega)]; exact f_7
      have hm_105 : M_91 8 = some (cOnes ad jn) := by rw [hF_96 8 (by omega)]; exact f_8
      have hm_106 : M_91 9 = some (aI G 40 (nF hg)) := by rw [hF_96 9 (by omega)]; exact f_9
      have hm_107 : M_91 10 = some (aI G 40 (nF lst)) := by rw [hF_96 10 (by omega)]; exact f_10
      have hm_108 : M_91 11 = some (aI G 40 (nF jd)) := by rw [hF_96 11 (by omega)]; exact f_11
      have hm_109 : M_91 12 = some (cEnds ad 12 s0) := by rw [hF_96 12 (by omega)]; exact f_12
      have hm_110 : M_91 13 = some (aI G 6 (nF r0)) := by rw [hF_96 13 (by omega)]; exact f_13
      have hm_111 : M_91 14 = some (aI G 6 (oF th)) := by rw [hF_96 14 (by omega)]; exact f_14
      have hm_112 : M_91 15 = some (aI G 6 (oF ol)) := by rw [hF_96 15 (by omega)]; exact f_15
      have hm_113 : M_91 19 = some (aZ G 120 (bF mm9)) := by rw [hF_96 19 (by omega)]; exact f_19
      have hm_114 : M_91 20 = some (aI G 120 ff) := by rw [hF_96 20 (by omega)]; exact f_20
      have hm_115 : M_91 21 = some (aI G 120 lq) := by rw [hF_96 21 (by omega)]; exact f_21
      have hm_116 : M_91 22 = some (cReader ad ra rb rt rv) := by rw [hF_96 22 (by omega)]; exact f_22
      have hm_117 : M_91 23 = some (cMatcher ad qm pz) := by rw [hF_96 23 (by omega)]; exact f_23
      have hm_118 : M_91 24 = some (aJ G 2160 sx) := by rw [hF_96 24 (by omega)]; exact f_24
      have hm_119 : M_91 25 = some (aI G 6 (nF ft)) := by rw [hF_96 25 (by omega)]; exact f_25
      have hm_120 : M_91 26 = some (aJ G 240 rx) := by rw [hF_96 26 (by omega)]; exact f_26
      have hm_121 : M_91 27 = some (aJ G 3 dm) := by rw [hF_96 27 (by omega)]; exact f_27
      have hm_122 : M_91 28 = some (aI G 3 rc) := by rw [hF_96 28 (by omega)]; exact f_28
      have hm_123 : M_91 qa = some (cQuestion ad qa ao vr) := by rw [hF_96 qa (by omega)]; exact f_qa
      have hm_124 : M_91 (qa + 1) = some (aI G 6 (nF kn)) := by rw [hF_96 (qa + 1) (by omega)]; exact f_qa_1
      have hm_125 : M_91 (qa + 2) = some (aZ G 6 (bF nq)) := by rw [hF_96 (qa + 2) (by omega)]; exact f_qa_2
      have hm_126 : M_91 (qa + 3) = some (aI G 6 (nF pn)) := by rw [hF_96 (qa + 3) (by omega)]; exact f_qa_3
      have hm_127 : M_91 (qa + 4) = some (aI G 6 (nF av)) := by rw [hF_96 (qa + 4) (by omega)]; exact f_qa_4
      have hm_128 : M_91 (qa + 5) = some (aI G 24 (nF ro)) := by rw [hF_96 (qa + 5) (by omega)]; exact f_qa_5
      have hm_129 : M_91 (qa + 6) = some (aI G 24 (nF te)) := by rw [hF_96 (qa + 6) (by omega)]; exact f_qa_6
      have hm_130 : M_91 qs = some (cQuestion ad qs sq su) := by rw [hF_96 qs (by omega)]; exact f_qs
      have hm_131 : M_91 (qs + 1) = some (aI G 6 (nF kb)) := by rw [hF_96 (qs + 1) (by omega)]; exact f_qs_1
      have hm_132 : M_91 (qs + 2) = some (aZ G 6 (bF nb)) := by rw [hF_96 (qs + 2) (by omega)]; exact f_qs_2
      have hm_133 : M_91 (qs + 3) = some (aI G 6 (nF pb)) := by rw [hF_96 (qs + 3) (by omega)]; exact f_qs_3
      have hm_134 : M_91 (qs + 4) = some (aI G 6 (nF ab)) := by rw [hF_96 (qs + 4) (by omega)]; exact f_qs_4
      have hm_135 : M_91 (qs + 5) = some (aI G 24 (nF rbb)) := by rw [hF_96 (qs + 5) (by omega)]; exact f_qs_5
      have hm_136 : M_91 (qs + 6) = some (aI G 24 (nF tbb)) := by rw [hF_96 (qs + 6) (by omega)]; exact f_qs_6
      have hm_137 : M_91 61 = some (aI G 36 (nF le)) := by rw [hF_96 61 (by omega)]; exact f_61
      have hm_138 : M_91 62 = some (aI G 36 (nF mo)) := by rw [hF_96 62 (by omega)]; exact f_62
      have hm_139 : M_91 63 = some (aI G 36 (nF al)) := by rw [hF_96 63 (by omega)]; exact f_63
      have hm_140 : M_91 64 = some (aZ G 6 (bF ho)) := by rw [hF_96 64 (by omega)]; exact f_64
      have hm_141 : M_91 65 = some (aI G 120 (nF mk)) := by rw [hF_96 65 (by omega)]; exact f_65
      have hm_142 : M_91 66 = some (aI G 120 mf) := by rw [hF_96 66 (by omega)]; exact f_66
      have hm_143 : M_91 67 = some (aI G 120 mu) := by rw [hF_96 67 (by omega)]; exact f_67
      have hm_144 : M_91 68 = some (aI G 121 (nF mz)) := by rw [hF_96 68 (by omega)]; exact f_68
      have hm_145 : M_91 69 = some (aI G 726 (nF rr)) := by rw [hF_96 69 (by omega)]; exact f_69
      have hm_146 : M_91 70 = some (aI G 726 (nF ee)) := by rw [hF_96 70 (by omega)]; exact f_70
      have hm_147 : M_91 71 = some (aI G 40 (nF lst)) := by rw [hF_96 71 (by omega)]; exact f_71
      have hm_148 : M_91 72 = some (aI G 40 (nF oa)) := by rw [hF_96 72 (by omega)]; exact f_72
      have hm_149 : M_91 73 = some (aI G 40 (nF ob)) := by rw [hF_96 73 (by omega)]; exact f_73
      have hm_150 : M_91 74 = some (aI G 120 s74) := by rw [hF_96 74 (by omega)]; exact f_74
      have hm_151 : M_91 75 = some (aI G 12 ak) := by rw [hF_96 75 (by omega)]; exact f_75
      have hm_152 : M_91 76 = some (aZ G 12 (bF nm)) := by rw [hF_96 76 (by omega)]; exact f_76
      have hm_153 : M_91 77 = some (aI G 12 (nF ap)) := by rw [hF_96 77 (by omega)]; exact f_77
      have hm_154 : M_91 78 = some (aI G 48 pr) := by rw [hF_96 78 (by omega)]; exact f_78
      have hm_155 : M_91 79 = some (aI G 48 pf) := by rw [hF_96 79 (by omega)]; exact f_79
      have hm_156 : M_91 80 = some (aB G 400 tf) := by rw [hF_96 80 (by omega)]; exact f_80
      have hm_157 : M_91 81 = some (aI G 5 fv) := by rw [hF_96 81 (by omega)]; exact f_81
      have hm_158 : M_91 82 = some (aZ G 384000 (bF tr)) := by rw [hF_96 82 (by omega)]; exact f_82
      have hm_159 : M_91 83 = some (aI G 3 (oF gv)) := by rw [hF_96 83 (by omega)]; exact f_83
      have hm_160 : M_91 84 = some (aI G 3 fo) := by rw [hF_96 84 (by omega)]; exact f_84
      have hm_161 : M_91 85 = some (aZ G 40 (bF re)) := by rw [hF_96 85 (by omega)]; exact f_85
      have hm_162 : M_91 86 = some (aZ G 120 (bF us)) := by rw [hF_96 86 (by omega)]; exact f_86
      have hm_163 : M_91 87 = some (aZ G 120 (bF nx)) := by rw [hF_96 87 (by omega)]; exact f_87
      have hm_164 : M_91 99 = some (aJ G 1 of) := by rw [hF_96 99 (by omega)]; exact f_99
      have hm_165 : M_91 16 = some (cLines ad ) := by rw [hF_96 16 (by omega)]; exact h16
      have hL_166 : LSm G ad M_91 n kd fm to sz rl en := fL.keep (fun j hj => hF_96 j (by omega))
      have hF_167 : ∀ j : Nat, j ≠ 60 → M_91 j = M j := fun j q0 => (hF_96 j q0)
      rw [hr_94]
      refine lv_icmp_eq (tgt := 1333) hx hb dL_law_1119 (by decide) (fun c_168 => ?_) (fun c_168 => ?_)
      · -- 1119: (-1) eq
        refine W.widen (k := cz + 10) (n := sy + 300) (by omega) (by omega) ?_
        exact kk ad M_91 H_92 locs_93 ls n kd fm to sz rl en qa qs fw len tb le mo al ho jn hg lst jd s0 r0 th ol e0 mm9 ff lq ra rb rt rv qm pz sx ft rx dm rc ao vr kn nq pn av ro te sq su kb nb pb ab rbb tbb 0 sn pt zs bg mk mf mu mz rr ee oa ob s74 ak nm ap pr pf tf fv tr gv fo re us nx of hL_166 w1 w2 w3 w4 w5 w6 w7 w8 w9 w10 w11 w12 w13 w14 w15 w16 w17 w18 w19 w20 w21 w22 w23 w24 w25 w26 w27 w28 w29 (fun h9 => by rw [hF_167 17 (by omega), hF_167 18 (by omega)]; exact w30 h9) (by rw [hF_167 29 (by omega)]; exact w31) (fun j9 h9 => by rw [hF_167 j9 (by omega)]; exact w32 j9 h9) hm_97 hm_98 hm_99 hm_100 hm_101 hm_102 hm_103 hm_104 hm_105 hm_106 hm_107 hm_108 hm_109 hm_110 hm_111 hm_112 hm_113 hm_114 hm_115 hm_116 hm_117 hm_118 hm_119 hm_120 hm_121 hm_122 hm_123 hm_124 hm_125 hm_126 hm_127 hm_128 hm_129 hm_130 hm_131 hm_132 hm_133 hm_134 hm_135 hm_136 hm_95 hm_137 hm_138 hm_139 hm_140 hm_141 hm_142 hm_143 hm_144 hm_145 hm_146 hm_147 hm_148 hm_149 hm_150 hm_151 hm_152 hm_153 hm_154 hm_155 hm_156 hm_157 hm_158 hm_159 hm_160 hm_161 hm_162 hm_163 hm_164 hI (lv_sub hl [0, 1, 2, 3, 4] rfl)
      · -- 1119: (-1) ne
        exact absurd (by decide) c_168
    · skip
      refine lv_aload_n hx hb dL_law_1076 rfl (lv_at hl 0 rfl) ?_
      obtain ⟨t3, ht3, et3⟩ := hc_86
      rcases ((by cases vr.testBit t3 <;> simp) : vr.testBit t3 = true ∨ vr.testBit t3 = false) with hc_169 | hc_170
      · skip
        refine lv_iload hx hb dL_law_1077 (lv_at hl 4 rfl) ?_
        refine lv_iconst (v := nI 1) hx hb dL_law_1079 (by decide) ?_
        refine lv_iadd hx hb dL_law_1080 ?_
        refine n_eq (nI_add i 1) ?_
        refine va_sld (A := fr z) hx hb hX hbl hbz hI.S (vp_in_nI (n := i + 1) (by omega) (by omega)) dL_law_1081 ?_
        rw [nI_clamp (by omega)]
        refine lv_aload_n hx hb dL_law_1082 rfl (lv_at hl 0 rfl) ?_
        refine lv_iload hx hb dL_law_1083 (lv_at hl 4 rfl) ?_
        refine lv_iconst (v := nI 2) hx hb dL_law_1085 (by decide) ?_
        refine lv_iadd hx hb dL_law_1086 ?_
        refine n_eq (nI_add i 2) ?_
        refine va_sld (A := fr z) hx hb hX hbl hbz hI.S (vp_in_nI (n := i + 2) (by omega) (by omega)) dL_law_1087 ?_
        rw [nI_clamp (by omega)]
        refine n_eq (show _ = nI t2 from et2) ?_
        refine lv_aload_n hx hb dL_law_1088 rfl (lv_at hl 0 rfl) ?_
        refine lv_iload hx hb dL_law_1089 (lv_at hl 4 rfl) ?_
        refine lv_iconst (v := nI 3) hx hb dL_law_1091 (by decide) ?_
        refine lv_iadd hx hb dL_law_1092 ?_
        refine n_eq (nI_add i 3) ?_
        refine va_sld (A := fr z) hx hb hX hbl hbz hI.S (vp_in_nI (n := i + 3) (by omega) (by omega)) dL_law_1093 ?_
        rw [nI_clamp (by omega)]
        refine n_eq (show _ = nI t3 from et3) ?_
        refine k_Ni (va_runV (As := [.int (xs (i + 1)), .int (nI t2), .int (nI t3)]) (rest := []) ⟨hx, hb, hml, hown, hts⟩ (c_X9_answer l G z ad M (n := n) (kd := kd) (fm := fm) (to := to) (sz := sz) (rl := rl) (en := en) (qa := qa) (qs := qs) (fw := fw) (qm := qm) (pz := pz) (aa := ao) (uv := vr) (jn := jn) (lst := lst) (kn := kn) (nt := nq) (pn := pn) (av := av) (ro := ro) (te := te) (sx := sx) (ft := ft) (rx := rx) (dm := dm) (rc := rc) (d := xs (i + 1)) (q := t2) (v := t3) fL f_0 f_23 f_24 f_25 f_26 f_27 f_28 f_qa f_qa_1 f_qa_2 f_qa_3 f_qa_4 f_qa_5 f_qa_6 f_8 f_10 w1 (by omega) w19 w20 (qw_of w21 w22) w23 w24 hlst ht2 ht3 hc_169) (cwV 3 hts (gV (lwg_of t_435 rfl) (lwg_of t_436 rfl) (lwg_of t_437 rfl) (lwg_of t_1 rfl) (lwg_of t_438 rfl)) rfl rfl rfl (by decide +kernel) ⟨Nat.le_of_ble_eq_true rfl, Nat.le_of_ble_eq_true rfl⟩) (hI.preV f_0 rfl) rfl rfl hl.1 rfl (lv_room (Nat.le_of_ble_eq_true rfl)) dL_law_1094 ⟨(show _ ≤ (601024 : Nat) from by omega), (show _ ≤ (7293034 : Nat) from by omega)⟩) hI (fun r_171 M_173 H_174 locs_175 hp_172 hI => ?_)
        obtain ⟨P_184, s2_185, f2_186, d2_187, p2_188, r2_189, rc2_190, hm_176, hm_177, hm_178, hm_179, hm_180, hm_181, hF_182, hP_183⟩ := hp_172
        have hm_191 : M_173 0 = some (cStore ad qa qs fw) := by rw [hF_182 0 (by omega) (by omega) (by omega) (by omega) (by omega) (by omega)]; exact f_0
        have hm_192 : M_173 1 = some (cTape ad len) := by rw [hF_182 1 (by omega) (by omega) (by omega) (by omega) (by omega) (by omega)]; exact f_1
        have hm_193 : M_173 2 = some (aI G 400 (nF tb)) := by rw [hF_182 2 (by omega) (by omega) (by omega) (by omega) (by omega) (by omega)]; exact f_2
        have hm_194 : M_173 3 = some (cLaws ad ) := by rw [hF_182 3 (by omega) (by omega) (by omega) (by omega) (by omega) (by omega)]; exact f_3
        have hm_195 : M_173 4 = some (aI G 36 (nF le)) := by rw [hF_182 4 (by omega) (by omega) (by omega) (by omega) (by omega) (by omega)]; exact f_4
        have hm_196 : M_173 5 = some (aI G 36 (nF mo)) := by rw [hF_182 5 (by omega) (by omega) (by omega) (by omega) (by omega) (by omega)]; exact f_5
        have hm_197 : M_173 6 = some (aI G 36 (nF al)) := by rw [hF_182 6 (by omega) (by omega) (by omega) (by omega) (by omega) (by omega)]; exact f_6
        have hm_198 : M_173 7 = some (aZ G 6 (bF ho)) := by rw [hF_182 7 (by omega) (by omega) (by omega) (by omega) (by omega) (by omega)]; exact f_7
        have hm_199 : M_173 8 = some (cOnes ad jn) := by rw [hF_182 8 (by omega) (by omega) (by omega) (by omega) (by omega) (by omega)]; exact f_8
        have hm_200 : M_173 9 = some (aI G 40 (nF hg)) := by rw [hF_182 9 (by omega) (by omega) (by omega) (by omega) (by omega) (by omega)]; exact f_9
        have hm_201 : M_173 10 = some (aI G 40 (nF lst)) := by rw [hF_182 10 (by omega) (by omega) (by omega) (by omega) (by omega) (by omega)]; exact f_10
        have hm_202 : M_173 11 = some (aI G 40 (nF jd)) := by rw [hF_182 11 (by omega) (by omega) (by omega) (by omega) (by omega) (by omega)]; exact f_11
        have hm_203 : M_173 12 = some (cEnds ad 12 s0) := by rw [hF_182 12 (by omega) (by omega) (by omega) (by omega) (by omega) (by omega)]; exact f_12
        have hm_204 : M_173 13 = some (aI G 6 (nF r0)) := by rw [hF_182 13 (by omega) (by omega) (by omega) (by omega) (by omega) (by omega)]; exact f_13
        have hm_205 : M_173 14 = some (aI G 6 (oF th)) := by rw [hF_182 14 (by omega) (by omega) (by omega) (by omega) (by omega) (by omega)]; exact f_14
        have hm_206 : M_173 15 = some (aI G 6 (oF ol)) := by rw [hF_182 15 (by omega) (by omega) (by omega) (by omega) (by omega) (by omega)]; exact f_15
        have hm_207 : M_173 19 = some (aZ G 120 (bF mm9)) := by rw [hF_182 19 (by omega) (by omega) (by omega) (by omega) (by omega) (by omega)]; exact f_19
        have hm_208 : M_173 20 = some (aI G 120 ff) := by rw [hF_182 20 (by omega) (by omega) (by omega) (by omega) (by omega) (by omega)]; exact f_20
        have hm_209 : M_173 21 = some (aI G 120 lq) := by rw [hF_182 21 (by omega) (by omega) (by omega) (by omega) (by omega) (by omega)]; exact f_21
        have hm_210 : M_173 22 = some (cReader ad ra rb rt rv) := by rw [hF_182 22 (by omega) (by omega) (by omega) (by omega) (by omega) (by omega)]; exact f_22
        have hm_211 : M_173 qa = some (cQuestion ad qa ao vr) := by rw [hF_182 qa (by omega) (by omega) (by omega) (by omega) (by omega) (by omega)]; exact f_qa
        have hm_212 : M_173 (qa + 1) = some (aI G 6 (nF kn)) := by rw [hF_182 (qa + 1) (by omega) (by omega) (by omega) (by omega) (by omega) (by omega)]; exact f_qa_1
        have hm_213 : M_173 (qa + 2) = some (aZ G 6 (bF nq)) := by rw [hF_182 (qa + 2) (by omega) (by omega) (by omega) (by omega) (by omega) (by omega)]; exact f_qa_2
        have hm_214 : M_173 (qa + 3) = some (aI G 6 (nF pn)) := by rw [hF_182 (qa + 3) (by omega) (by omega) (by omega) (by omega) (by omega) (by omega)]; exact f_qa_3
        have hm_215 : M_173 (qa + 4) = some (aI G 6 (nF av)) := by rw [hF_182 (qa + 4) (by omega) (by omega) (by omega) (by omega) (by omega) (by omega)]; exact f_qa_4
        have hm_216 : M_173 (qa + 5) = some (aI G 24 (nF ro)) := by rw [hF_182 (qa + 5) (by omega) (by omega) (by omega) (by omega) (by omega) (by omega)]; exact f_qa_5
        have hm_217 : M_173 (qa + 6) = some (aI G 24 (nF te)) := by rw [hF_182 (qa + 6) (by omega) (by omega) (by omega) (by omega) (by omega) (by omega)]; exact f_qa_6
        have hm_218 : M_173 qs = some (cQuestion ad qs sq su) := by rw [hF_182 qs (by omega) (by omega) (by omega) (by omega) (by omega) (by omega)]; exact f_qs
        have hm_219 : M_173 (qs + 1) = some (aI G 6 (nF kb)) := by rw [hF_182 (qs + 1) (by omega) (by omega) (by omega) (by omega) (by omega) (by omega)]; exact f_qs_1
        have hm_220 : M_173 (qs + 2) = some (aZ G 6 (bF nb)) := by rw [hF_182 (qs + 2) (by omega) (by omega) (by omega) (by omega) (by omega) (by omega)]; exact f_qs_2
        have hm_221 : M_173 (qs + 3) = some (aI G 6 (nF pb)) := by rw [hF_182 (qs + 3) (by omega) (by omega) (by omega) (by omega) (by omega) (by omega)]; exact f_qs_3
        have hm_222 : M_173 (qs + 4) = some (aI G 6 (nF ab)) := by rw [hF_182 (qs + 4) (by omega) (by omega) (by omega) (by omega) (by omega) (by omega)]; exact f_qs_4
        have hm_223 : M_173 (qs + 5) = some (aI G 24 (nF rbb)) := by rw [hF_182 (qs + 5) (by omega) (by omega) (by omega) (by omega) (by omega) (by omega)]; exact f_qs_5
        have hm_224 : M_173 (qs + 6) = some (aI G 24 (nF tbb)) := by rw [hF_182 (qs + 6) (by omega) (by omega) (by omega) (by omega) (by omega) (by omega)]; exact f_qs_6
        have hm_225 : M_173 60 = some (cModel ad tw n jn ao vr sn len pt zs bg fw) := by rw [hF_182 60 (by omega) (by omega) (by omega) (by omega) (by omega) (by omega)]; exact f_60
        have hm_226 : M_173 61 = some (aI G 36 (nF le)) := by rw [hF_182 61 (by omega) (by omega) (by omega) (by omega) (by omega) (by omega)]; exact f_61
        have hm_227 : M_173 62 = some (aI G 36 (nF mo)) := by rw [hF_182 62 (by omega) (by omega) (by omega) (by omega) (by omega) (by omega)]; exact f_62
        have hm_228 : M_173 63 = some (aI G 36 (nF al)) := by rw [hF_182 63 (by omega) (by omega) (by omega) (by omega) (by omega) (by omega)]; exact f_63
        have hm_229 : M_173 64 = some (aZ G 6 (bF ho)) := by rw [hF_182 64 (by omega) (by omega) (by omega) (by omega) (by omega) (by omega)]; exact f_64
        have hm_230 : M_173 65 = some (aI G 120 (nF mk)) := by rw [hF_182 65 (by omega) (by omega) (by omega) (by omega) (by omega) (by omega)]; exact f_65
        have hm_231 : M_173 66 = some (aI G 120 mf) := by rw [hF_182 66 (by omega) (by omega) (by omega) (by omega) (by omega) (by omega)]; exact f_66
        have hm_232 : M_173 67 = some (aI G 120 mu) := by rw [hF_182 67 (by omega) (by omega) (by omega) (by omega) (by omega) (by omega)]; exact f_67
        have hm_233 : M_173 68 = some (aI G 121 (nF mz)) := by rw [hF_182 68 (by omega) (by omega) (by omega) (by omega) (by omega) (by omega)]; exact f_68
        have hm_234 : M_173 69 = some (aI G 726 (nF rr)) := by rw [hF_182 69 (by omega) (by omega) (by omega) (by omega) (by omega) (by omega)]; exact f_69
        have hm_235 : M_173 70 = some (aI G 726 (nF ee)) := by rw [hF_182 70 (by omega) (by omega) (by omega) (by omega) (by omega) (by omega)]; exact f_70
        have hm_236 : M_173 71 = some (aI G 40 (nF lst)) := by rw [hF_182 71 (by omega) (by omega) (by omega) (by omega) (by omega) (by omega)]; exact f_71
        have hm_237 : M_173 72 = some (aI G 40 (nF oa)) := by rw [hF_182 72 (by omega) (by omega) (by omega) (by omega) (by omega) (by omega)]; exact f_72
        have hm_238 : M_173 73 = some (aI G 40 (nF ob)) := by rw [hF_182 73 (by omega) (by omega) (by omega) (by omega) (by omega) (by omega)]; exact f_73
        have hm_239 : M_173 74 = some (aI G 120 s74) := by rw [hF_182 74 (by omega) (by omega) (by omega) (by omega) (by omega) (by omega)]; exact f_74
        have hm_240 : M_173 75 = some (aI G 12 ak) := by rw [hF_182 75 (by omega) (by omega) (by omega) (by omega) (by omega) (by omega)]; exact f_75
        have hm_241 : M_173 76 = some (aZ G 12 (bF nm)) := by rw [hF_182 76 (by omega) (by omega) (by omega) (by omega) (by omega) (by omega)]; exact f_76
        have hm_242 : M_173 77 = some (aI G 12 (nF ap)) := by rw [hF_182 77 (by omega) (by omega) (by omega) (by omega) (by omega) (by omega)]; exact f_77
        have hm_243 : M_173 78 = some (aI G 48 pr) := by rw [hF_182 78 (by omega) (by omega) (by omega) (by omega) (by omega) (by omega)]; exact f_78
        have hm_244 : M_173 79 = some (aI G 48 pf) := by rw [hF_182 79 (by omega) (by omega) (by omega) (by omega) (by omega) (by omega)]; exact f_79
        have hm_245 : M_173 80 = some (aB G 400 tf) := by rw [hF_182 80 (by omega) (by omega) (by omega) (by omega) (by omega) (by omega)]; exact f_80
        have hm_246 : M_173 81 = some (aI G 5 fv) := by rw [hF_182 81 (by omega) (by omega) (by omega) (by omega) (by omega) (by omega)]; exact f_81
        have hm_247 : M_173 82 = some (aZ G 384000 (bF tr)) := by rw [hF_182 82 (by omega) (by omega) (by omega) (by omega) (by omega) (by omega)]; exact f_82
        have hm_248 : M_173 83 = some (aI G 3 (oF gv)) := by rw [hF_182 83 (by omega) (by omega) (by omega) (by omega) (by omega) (by omega)]; exact f_83
        have hm_249 : M_173 84 = some (aI G 3 fo) := by rw [hF_182 84 (by omega) (by omega) (by omega) (by omega) (by omega) (by omega)]; exact f_84
        have hm_250 : M_173 85 = some (aZ G 40 (bF re)) := by rw [hF_182 85 (by omega) (by omega) (by omega) (by omega) (by omega) (by omega)]; exact f_85
        have hm_251 : M_173 86 = some (aZ G 120 (bF us)) := by rw [hF_182 86 (by omega) (by omega) (by omega) (by omega) (by omega) (by omega)]; exact f_86
        have hm_252 : M_173 87 = some (aZ G 120 (bF nx)) := by rw [hF_182 87 (by omega) (by omega) (by omega) (by omega) (by omega) (by omega)]; exact f_87
        have hm_253 : M_173 99 = some (aJ G 1 of) := by rw [hF_182 99 (by omega) (by omega) (by omega) (by omega) (by omega) (by omega)]; exact f_99
        have hm_254 : M_173 16 = some (cLines ad ) := by rw [hF_182 16 (by omega) (by omega) (by omega) (by omega) (by omega) (by omega)]; exact h16
        have hL_255 : LSm G ad M_173 n kd fm to sz rl en := fL.keep (fun j hj => hF_182 j (by omega) (by omega) (by omega) (by omega) (by omega) (by omega))
        have hF_256 : ∀ j : Nat, j ≠ 23 → j ≠ 24 → j ≠ 25 → j ≠ 27 → j ≠ 26 → j ≠ 28 → M_173 j = M j := fun j q0 q1 q2 q3 q4 q5 => (hF_182 j q0 q1 q2 q3 q4 q5)
        refine lv_aload_n hx hb dL_law_1097 rfl (lv_at hl 2 rfl) ?_
        refine lv_aload_n hx hb dL_law_1098 rfl (lv_at hl 0 rfl) ?_
        refine lv_iload hx hb dL_law_1099 (lv_at hl 4 rfl) ?_
        refine lv_iconst (v := nI 1) hx hb dL_law_1101 (by decide) ?_
        refine lv_iadd hx hb dL_law_1102 ?_
        refine n_eq (nI_add i 1) ?_
        refine va_sld (A := fr z) hx hb hX hbl hbz hI.S (vp_in_nI (n := i + 1) (by omega) (by omega)) dL_law_1103 ?_
        rw [nI_clamp (by omega)]
        refine lv_aload_n hx hb dL_law_1104 rfl (lv_at hl 0 rfl) ?_
        refine lv_iload hx hb dL_law_1105 (lv_at hl 4 rfl) ?_
        refine lv_iconst (v := nI 2) hx hb dL_law_1107 (by decide) ?_
        refine lv_iadd hx hb dL_law_1108 ?_
        refine n_eq (nI_add i 2) ?_
        refine va_sld (A := fr z) hx hb hX hbl hbz hI.S (vp_in_nI (n := i + 2) (by omega) (by omega)) dL_law_1109 ?_
        rw [nI_clamp (by omega)]
        refine n_eq (show _ = nI t2 from et2) ?_
        refine lv_aload_n hx hb dL_law_1110 rfl (lv_at hl 0 rfl) ?_
        refine lv_iload hx hb dL_law_1111 (lv_at hl 4 rfl) ?_
        refine lv_iconst (v := nI 3) hx hb dL_law_1113 (by decide) ?_
        refine lv_iadd hx hb dL_law_1114 ?_
        refine n_eq (nI_add i 3) ?_
        refine va_sld (A := fr z) hx hb hX hbl hbz hI.S (vp_in_nI (n := i + 3) (by omega) (by omega)) dL_law_1115 ?_
        rw [nI_clamp (by omega)]
        refine n_eq (show _ = nI t3 from et3) ?_
        refine k_Ni (va_runV (As := [.int (xs (i + 1)), .int (nI t2), .int (nI t3)]) (rest := [.int r_171]) ⟨hx, hb, hml, hown, hts⟩ (c_X10_answer l G z ad M_173 (th := tw) (on := jn) (ao := ao) (vr := vr) (sn := sn) (tp := len) (pt := pt) (zs := zs) (bg := bg) (fa := fw) (n := n) (kd := kd) (fm := fm) (to := to) (sz := sz) (rl := rl) (en := en) (mk := mk) (mf := mf) (mu := mu) (mz := mz) (rr := rr) (ee := ee) (lst := lst) (ak := ak) (ap := ap) (pr := pr) (pf := pf) (kn := kn) (ro := ro) (te := te) (tr := tr) (gv := gv) (nt := nm) (fo := fo) (d := xs (i + 1)) (q := t2) (v := t3) hm_225 hm_230 hm_231 hm_232 hm_233 hm_234 hm_235 hm_236 hm_240 hm_242 hm_243 hm_244 hm_247 hm_248 hm_241 hm_249 w1 w2 ⟨ao_pos w25 ht3 hc_169, w19⟩ w21 hlst w20 ht2 ht3 hc_169) (cwV 3 hts (gV (lwg_of t_1350 rfl) (lwg_of t_1351 rfl) (lwg_of t_1352 rfl) (lwg_of t_13 rfl) (lwg_of t_1353 rfl)) rfl rfl rfl (by decide +kernel) ⟨Nat.le_of_ble_eq_true rfl, Nat.le_of_ble_eq_true rfl⟩) (hI.preV hm_225 rfl) rfl rfl hl.1 rfl (lv_room (Nat.le_of_ble_eq_true rfl)) dL_law_1116 ⟨(show _ ≤ (601024 : Nat) from by omega), (show _ ≤ (7293034 : Nat) from by omega)⟩) hI (fun r_257 M_259 H_260 locs_261 hp_258 hI => ?_)
        obtain ⟨tr2_268, gv2_269, fo2_270, hm_262, hm_263, hm_264, hm_265, hF_266, hP_267⟩ := hp_258
        have hm_271 : M_259 0 = some (cStore ad qa qs fw) := by rw [hF_266 0 (by omega) (by omega) (by omega) (by omega)]; exact hm_191
        have hm_272 : M_259 1 = some (cTape ad len) := by rw [hF_266 1 (by omega) (by omega) (by omega) (by omega)]; exact hm_192
        have hm_273 : M_259 2 = some (aI G 400 (nF tb)) := by rw [hF_266 2 (by omega) (by omega) (by omega) (by omega)]; exact hm_193
        have hm_274 : M_259 3 = some (cLaws ad ) := by rw [hF_266 3 (by omega) (by omega) (by omega) (by omega)]; exact hm_194
        have hm_275 : M_259 4 = some (aI G 36 (nF le)) := by rw [hF_266 4 (by omega) (by omega) (by omega) (by omega)]; exact hm_195
        have hm_276 : M_259 5 = some (aI G 36 (nF mo)) := by rw [hF_266 5 (by omega) (by omega) (by omega) (by omega)]; exact hm_196
        have hm_277 : M_259 6 = some (aI G 36 (nF al)) := by rw [hF_266 6 (by omega) (by omega) (by omega) (by omega)]; exact hm_197
        have hm_278 : M_259 7 = some (aZ G 6 (bF ho)) := by rw [hF_266 7 (by omega) (by omega) (by omega) (by omega)]; exact hm_198
        have hm_279 : M_259 8 = some (cOnes ad jn) := by rw [hF_266 8 (by omega) (by omega) (by omega) (by omega)]; exact hm_199
        have hm_280 : M_259 9 = some (aI G 40 (nF hg)) := by rw [hF_266 9 (by omega) (by omega) (by omega) (by omega)]; exact hm_200
        have hm_281 : M_259 10 = some (aI G 40 (nF lst)) := by rw [hF_266 10 (by omega) (by omega) (by omega) (by omega)]; exact hm_201
        have hm_282 : M_259 11 = some (aI G 40 (nF jd)) := by rw [hF_266 11 (by omega) (by omega) (by omega) (by omega)]; exact hm_202
        have hm_283 : M_259 12 = some (cEnds ad 12 s0) := by rw [hF_266 12 (by omega) (by omega) (by omega) (by omega)]; exact hm_203
        have hm_284 : M_259 13 = some (aI G 6 (nF r0)) := by rw [hF_266 13 (by omega) (by omega) (by omega) (by omega)]; exact hm_204
        have hm_285 : M_259 14 = some (aI G 6 (oF th)) := by rw [hF_266 14 (by omega) (by omega) (by omega) (by omega)]; exact hm_205
        have hm_286 : M_259 15 = some (aI G 6 (oF ol)) := by rw [hF_266 15 (by omega) (by omega) (by omega) (by omega)]; exact hm_206
        have hm_287 : M_259 19 = some (aZ G 120 (bF mm9)) := by rw [hF_266 19 (by omega) (by omega) (by omega) (by omega)]; exact hm_207
        have hm_288 : M_259 20 = some (aI G 120 ff) := by rw [hF_266 20 (by omega) (by omega) (by omega) (by omega)]; exact hm_208
        have hm_289 : M_259 21 = some (aI G 120 lq) := by rw [hF_266 21 (by omega) (by omega) (by omega) (by omega)]; exact hm_209
        have hm_290 : M_259 22 = some (cReader ad ra rb rt rv) := by rw [hF_266 22 (by omega) (by omega) (by omega) (by omega)]; exact hm_210
        have hm_291 : M_259 23 = some (cMatcher ad qa p2_188) := by rw [hF_266 23 (by omega) (by omega) (by omega) (by omega)]; exact hm_176
        have hm_292 : M_259 24 = some (aJ G 2160 s2_185) := by rw [hF_266 24 (by omega) (by omega) (by omega) (by omega)]; exact hm_177
        have hm_293 : M_259 25 = some (aI G 6 (nF f2_186)) := by rw [hF_266 25 (by omega) (by omega) (by omega) (by omega)]; exact hm_178
        have hm_294 : M_259 26 = some (aJ G 240 r2_189) := by rw [hF_266 26 (by omega) (by omega) (by omega) (by omega)]; exact hm_180
        have hm_295 : M_259 27 = some (aJ G 3 d2_187) := by rw [hF_266 27 (by omega) (by omega) (by omega) (by omega)]; exact hm_179
        have hm_296 : M_259 28 = some (aI G 3 rc2_190) := by rw [hF_266 28 (by omega) (by omega) (by omega) (by omega)]; exact hm_181
        have hm_297 : M_259 qa = some (cQuestion ad qa ao vr) := by rw [hF_266 qa (by omega) (by omega) (by omega) (by omega)]; exact hm_211
        have hm_298 : M_259 (qa + 1) = some (aI G 6 (nF kn)) := by rw [hF_266 (qa + 1) (by omega) (by omega) (by omega) (by omega)]; exact hm_212
        have hm_299 : M_259 (qa + 2) = some (aZ G 6 (bF nq)) := by rw [hF_266 (qa + 2) (by omega) (by omega) (by omega) (by omega)]; exact hm_213
        have hm_300 : M_259 (qa + 3) = some (aI G 6 (nF pn)) := by rw [hF_266 (qa + 3) (by omega) (by omega) (by omega) (by omega)]; exact hm_214
        have hm_301 : M_259 (qa + 4) = some (aI G 6 (nF av)) := by rw [hF_266 (qa + 4) (by omega) (by omega) (by omega) (by omega)]; exact hm_215
        have hm_302 : M_259 (qa + 5) = some (aI G 24 (nF ro)) := by rw [hF_266 (qa + 5) (by omega) (by omega) (by omega) (by omega)]; exact hm_216
        have hm_303 : M_259 (qa + 6) = some (aI G 24 (nF te)) := by rw [hF_266 (qa + 6) (by omega) (by omega) (by omega) (by omega)]; exact hm_217
        have hm_304 : M_259 qs = some (cQuestion ad qs sq su) := by rw [hF_266 qs (by omega) (by omega) (by omega) (by omega)]; exact hm_218
        have hm_305 : M_259 (qs + 1) = some (aI G 6 (nF kb)) := by rw [hF_266 (qs + 1) (by omega) (by omega) (by omega) (by omega)]; exact hm_219
        have hm_306 : M_259 (qs + 2) = some (aZ G 6 (bF nb)) := by rw [hF_266 (qs + 2) (by omega) (by omega) (by omega) (by omega)]; exact hm_220
        have hm_307 : M_259 (qs + 3) = some (aI G 6 (nF pb)) := by rw [hF_266 (qs + 3) (by omega) (by omega) (by omega) (by omega)]; exact hm_221
        have hm_308 : M_259 (qs + 4) = some (aI G 6 (nF ab)) := by rw [hF_266 (qs + 4) (by omega) (by omega) (by omega) (by omega)]; exact hm_222
        have hm_309 : M_259 (qs + 5) = some (aI G 24 (nF rbb)) := by rw [hF_266 (qs + 5) (by omega) (by omega) (by omega) (by omega)]; exact hm_223
        have hm_310 : M_259 (qs + 6) = some (aI G 24 (nF tbb)) := by rw [hF_266 (qs + 6) (by omega) (by omega) (by omega) (by omega)]; exact hm_224
        have hm_311 : M_259 61 = some (aI G 36 (nF le)) := by rw [hF_266 61 (by omega) (by omega) (by omega) (by omega)]; exact hm_226
        have hm_312 : M_259 62 = some (aI G 36 (nF mo)) := by rw [hF_266 62 (by omega) (by omega) (by omega) (by omega)]; exact hm_227
        have hm_313 : M_259 63 = some (aI G 36 (nF al)) := by rw [hF_266 63 (by omega) (by omega) (by omega) (by omega)]; exact hm_228
        have hm_314 : M_259 64 = some (aZ G 6 (bF ho)) := by rw [hF_266 64 (by omega) (by omega) (by omega) (by omega)]; exact hm_229
        have hm_315 : M_259 65 = some (aI G 120 (nF mk)) := by rw [hF_266 65 (by omega) (by omega) (by omega) (by omega)]; exact hm_230
        have hm_316 : M_259 66 = some (aI G 120 mf) := by rw [hF_266 66 (by omega) (by omega) (by omega) (by omega)]; exact hm_231
        have hm_317 : M_259 67 = some (aI G 120 mu) := by rw [hF_266 67 (by omega) (by omega) (by omega) (by omega)]; exact hm_232
        have hm_318 : M_259 68 = some (aI G 121 (nF mz)) := by rw [hF_266 68 (by omega) (by omega) (by omega) (by omega)]; exact hm_233
        have hm_319 : M_259 69 = some (aI G 726 (nF rr)) := by rw [hF_266 69 (by omega) (by omega) (by omega) (by omega)]; exact hm_234
        have hm_320 : M_259 70 = some (aI G 726 (nF ee)) := by rw [hF_266 70 (by omega) (by omega) (by omega) (by omega)]; exact hm_235
        have hm_321 : M_259 71 = some (aI G 40 (nF lst)) := by rw [hF_266 71 (by omega) (by omega) (by omega) (by omega)]; exact hm_236
        have hm_322 : M_259 72 = some (aI G 40 (nF oa)) := by rw [hF_266 72 (by omega) (by omega) (by omega) (by omega)]; exact hm_237
        have hm_323 : M_259 73 = some (aI G 40 (nF ob)) := by rw [hF_266 73 (by omega) (by omega) (by omega) (by omega)]; exact hm_238
        have hm_324 : M_259 74 = some (aI G 120 s74) := by rw [hF_266 74 (by omega) (by omega) (by omega) (by omega)]; exact hm_239
        have hm_325 : M_259 75 = some (aI G 12 ak) := by rw [hF_266 75 (by omega) (by omega) (by omega) (by omega)]; exact hm_240
        have hm_326 : M_259 76 = some (aZ G 12 (bF nm)) := by rw [hF_266 76 (by omega) (by omega) (by omega) (by omega)]; exact hm_241
        have hm_327 : M_259 77 = some (aI G 12 (nF ap)) := by rw [hF_266 77 (by omega) (by omega) (by omega) (by omega)]; exact hm_242
        have hm_328 : M_259 78 = some (aI G 48 pr) := by rw [hF_266 78 (by omega) (by omega) (by omega) (by omega)]; exact hm_243
        have hm_329 : M_259 79 = some (aI G 48 pf) := by rw [hF_266 79 (by omega) (by omega) (by omega) (by omega)]; exact hm_244
        have hm_330 : M_259 80 = some (aB G 400 tf) := by rw [hF_266 80 (by omega) (by omega) (by omega) (by omega)]; exact hm_245
        have hm_331 : M_259 81 = some (aI G 5 fv) := by rw [hF_266 81 (by omega) (by omega) (by omega) (by omega)]; exact hm_246
        have hm_332 : M_259 85 = some (aZ G 40 (bF re)) := by rw [hF_266 85 (by omega) (by omega) (by omega) (by omega)]; exact hm_250
        have hm_333 : M_259 86 = some (aZ G 120 (bF us)) := by rw [hF_266 86 (by omega) (by omega) (by omega) (by omega)]; exact hm_251
        have hm_334 : M_259 87 = some (aZ G 120 (bF nx)) := by rw [hF_266 87 (by omega) (by omega) (by omega) (by omega)]; exact hm_252
        have hm_335 : M_259 99 = some (aJ G 1 of) := by rw [hF_266 99 (by omega) (by omega) (by omega) (by omega)]; exact hm_253
        have hm_336 : M_259 16 = some (cLines ad ) := by rw [hF_266 16 (by omega) (by omega) (by omega) (by omega)]; exact hm_254
        have hL_337 : LSm G ad M_259 n kd fm to sz rl en := hL_255.keep (fun j hj => hF_266 j (by omega) (by omega) (by omega) (by omega))
        have hF_338 : ∀ j : Nat, j ≠ 23 → j ≠ 24 → j ≠ 25 → j ≠ 27 → j ≠ 26 → j ≠ 28 → j ≠ 60 → j ≠ 82 → j ≠ 83 → j ≠ 84 → M_259 j = M j := fun j q0 q1 q2 q3 q4 q5 q6 q7 q8 q9 => (hF_266 j q6 q7 q8 q9).trans (hF_256 j q0 q1 q2 q3 q4 q5)
        have hPE := P_eq (aP_cg w22 hP_183.1) w1 hP_267.1.2 hP_267.1.1 (fun i hi k hk => ((w21 i hi).2.2 k hk).2.1) hlst (ji_id w3) (pos_cg w22 w25)
        refine lv_icmp_eq (tgt := 1333) hx hb dL_law_1119 (by decide) (fun c_339 => ?_) (fun c_339 => ?_)
        · -- 1119: r_171 eq
          refine W.widen (k := cz + 10) (n := sy + 300) (by omega) (by omega) ?_
          exact kk ad M_259 H_260 locs_261 ls n kd fm to sz rl en qa qs fw len tb le mo al ho jn hg lst jd s0 r0 th ol e0 mm9 ff lq ra rb rt rv qa p2_188 s2_185 f2_186 r2_189 d2_187 rc2_190 ao vr kn nq pn av ro te sq su kb nb pb ab rbb tbb 0 sn pt zs bg mk mf mu mz rr ee oa ob s74 ak nm ap pr pf tf fv tr2_268 gv2_269 fo2_270 re us nx of hL_337 w1 w2 w3 w4 w5 w6 w7 w8 w9 w10 w11 w12 w13 w14 w15 w16 w17 w18 w19 w20 w21 w22 w23 w24 w25 w26 w27 w28 (by omega) (fun h9 => by rw [hF_338 17 (by omega) (by omega) (by omega) (by omega) (by omega) (by omega) (by omega) (by omega) (by omega) (by omega), hF_338 18 (by omega) (by omega) (by omega) (by omega) (by omega) (by omega) (by omega) (by omega) (by omega) (by omega)]; exact w30 h9) (by rw [hF_338 29 (by omega) (by omega) (by omega) (by omega) (by omega) (by omega) (by omega) (by omega) (by omega) (by omega)]; exact w31) (fun j9 h9 => by rw [hF_338 j9 (by omega) (by omega) (by omega) (by omega) (by omega) (by omega) (by omega) (by omega) (by omega) (by omega)]; exact w32 j9 h9) hm_271 hm_272 hm_273 hm_274 hm_275 hm_276 hm_277 hm_278 hm_279 hm_280 hm_281 hm_282 hm_283 hm_284 hm_285 hm_286 hm_287 hm_288 hm_289 hm_290 hm_291 hm_292 hm_293 hm_294 hm_295 hm_296 hm_297 hm_298 hm_299 hm_300 hm_301 hm_302 hm_303 hm_304 hm_305 hm_306 hm_307 hm_308 hm_309 hm_310 hm_262 hm_311 hm_312 hm_313 hm_314 hm_315 hm_316 hm_317 hm_318 hm_319 hm_320 hm_321 hm_322 hm_323 hm_324 hm_325 hm_326 hm_327 hm_328 hm_329 hm_330 hm_331 hm_263 hm_264 hm_265 hm_332 hm_333 hm_334 hm_335 hI (lv_sub hl [0, 1, 2, 3, 4] rfl)
        · -- 1119: r_171 ne
          exact absurd (hit_eq hPE hP_183.2 hP_267.2) c_339
      · skip
        refine lv_iload hx hb dL_law_1077 (lv_at hl 4 rfl) ?_
        refine lv_iconst (v := nI 1) hx hb dL_law_1079 (by decide) ?_
        refine lv_iadd hx hb dL_law_1080 ?_
        refine n_eq (nI_add i 1) ?_
        refine va_sld (A := fr z) hx hb hX hbl hbz hI.S (vp_in_nI (n := i + 1) (by omega) (by omega)) dL_law_1081 ?_
        rw [nI_clamp (by omega)]
        refine lv_aload_n hx hb dL_law_1082 rfl (lv_at hl 0 rfl) ?_
        refine lv_iload hx hb dL_law_1083 (lv_at hl 4 rfl) ?_
        refine lv_iconst (v := nI 2) hx hb dL_law_1085 (by decide) ?_
        refine lv_iadd hx hb dL_law_1086 ?_
        refine n_eq (nI_add i 2) ?_
        refine va_sld (A := fr z) hx hb hX hbl hbz hI.S (vp_in_nI (n := i + 2) (by omega) (by omega)) dL_law_1087 ?_
        rw [nI_clamp (by omega)]
        refine lv_aload_n hx hb dL_law_1088 rfl (lv_at hl 0 rfl) ?_
        refine lv_iload hx hb dL_law_1089 (lv_at hl 4 rfl) ?_
        refine lv_iconst (v := nI 3) hx hb dL_law_1091 (by decide) ?_
        refine lv_iadd hx hb dL_law_1092 ?_
        refine n_eq (nI_add i 3) ?_
        refine va_sld (A := fr z) hx hb hX hbl hbz hI.S (vp_in_nI (n := i + 3) (by omega) (by omega)) dL_law_1093 ?_
        rw [nI_clamp (by omega)]
        refine n_eq (show _ = nI t3 from et3) ?_
        refine k_Ri (va_runV (As := [.int (xs (i + 1)), .int (xs (i + 2)), .int (nI t3)]) (rest := []) ⟨hx, hb, hml, hown, hts⟩ (c_X9_answer_c l G z ad M (qa := qa) (qs := qs) (fw := fw) (aa := ao) (uv := vr) (d := xs (i + 1)) (x := xs (i + 2)) (v := t3) f_0 f_qa w20 ht3 hc_170) (cwV 3 hts (gV (lwg_of t_435 rfl) (lwg_of t_436 rfl) (lwg_of t_437 rfl) (lwg_of t_1 rfl) (lwg_of t_438 rfl)) rfl rfl rfl (by decide +kernel) ⟨Nat.le_of_ble_eq_true rfl, Nat.le_of_ble_eq_true rfl⟩) (hI.preV f_0 rfl) rfl rfl hl.1 rfl (lv_room (Nat.le_of_ble_eq_true rfl)) dL_law_1094 ⟨(show _ ≤ (601024 : Nat) from by omega), (show _ ≤ (7293034 : Nat) from by omega)⟩) (fun _ h => h) (fun r_340 hp_341 => ?_)
        rw [hp_341]
        refine lv_aload_n hx hb dL_law_1097 rfl (lv_at hl 2 rfl) ?_
        refine lv_aload_n hx hb dL_law_1098 rfl (lv_at hl 0 rfl) ?_
        refine lv_iload hx hb dL_law_1099 (lv_at hl 4 rfl) ?_
        refine lv_iconst (v := nI 1) hx hb dL_law_1101 (by decide) ?_
        refine lv_iadd hx hb dL_law_1102 ?_
        refine n_eq (nI_add i 1) ?_
        refine va_sld (A := fr z) hx hb hX hbl hbz hI.S (vp_in_nI (n := i + 1) (by omega) (by omega)) dL_law_1103 ?_
        rw [nI_clamp (by omega)]
        refine lv_aload_n hx hb dL_law_1104 rfl (lv_at hl 0 rfl) ?_
        refine lv_iload hx hb dL_law_1105 (lv_at hl 4 rfl) ?_
        refine lv_iconst (v := nI 2) hx hb dL_law_1107 (by decide) ?_
        refine lv_iadd hx hb dL_law_1108 ?_
        refine n_eq (nI_add i 2) ?_
        refine va_sld (A := fr z) hx hb hX hbl hbz hI.S (vp_in_nI (n := i + 2) (by omega) (by omega)) dL_law_1109 ?_
        rw [nI_clamp (by omega)]
        refine lv_aload_n hx hb dL_law_1110 rfl (lv_at hl 0 rfl) ?_
        refine lv_iload hx hb dL_law_1111 (lv_at hl 4 rfl) ?_
        refine lv_iconst (v := nI 3) hx hb dL_law_1113 (by decide) ?_
        refine lv_iadd hx hb dL_law_1114 ?_
        refine n_eq (nI_add i 3) ?_
        refine va_sld (A := fr z) hx hb hX hbl hbz hI.S (vp_in_nI (n := i + 3) (by omega) (by omega)) dL_law_1115 ?_
        rw [nI_clamp (by omega)]
        refine n_eq (show _ = nI t3 from et3) ?_
        refine k_Ni (va_runV (As := [.int (xs (i + 1)), .int (xs (i + 2)), .int (nI t3)]) (rest := [.int (-1)]) ⟨hx, hb, hml, hown, hts⟩ (c_X10_answer_c l G z ad M (th := tw) (ln := n) (on := jn) (ao := ao) (vr := vr) (sn := sn) (tp := len) (pt := pt) (zs := zs) (bg := bg) (fa := fw) (d := xs (i + 1)) (x := xs (i + 2)) (v := t3) f_60 w20 ht3 hc_170) (cwV 3 hts (gV (lwg_of t_1350 rfl) (lwg_of t_1351 rfl) (lwg_of t_1352 rfl) (lwg_of t_13 rfl) (lwg_of t_1353 rfl)) rfl rfl rfl (by decide +kernel) ⟨Nat.le_of_ble_eq_true rfl, Nat.le_of_ble_eq_true rfl⟩) (hI.preV f_60 rfl) rfl rfl hl.1 rfl (lv_room (Nat.le_of_ble_eq_true rfl)) dL_law_1116 ⟨(show _ ≤ (601024 : Nat) from by omega), (show _ ≤ (7293034 : Nat) from by omega)⟩) hI (fun r_342 M_344 H_345 locs_346 hp_343 hI => ?_)
        obtain ⟨hr_347, hm_348, hF_349⟩ := hp_343
        have hm_350 : M_344 0 = some (cStore ad qa qs fw) := by rw [hF_349 0 (by omega)]; exact f_0
        have hm_351 : M_344 1 = some (cTape ad len) := by rw [hF_349 1 (by omega)]; exact f_1
        have hm_352 : M_344 2 = some (aI G 400 (nF tb)) := by rw [hF_349 2 (by omega)]; exact f_2
        have hm_353 : M_344 3 = some (cLaws ad ) := by rw [hF_349 3 (by omega)]; exact f_3
        have hm_354 : M_344 4 = some (aI G 36 (nF le)) := by rw [hF_349 4 (by omega)]; exact f_4
        have hm_355 : M_344 5 = some (aI G 36 (nF mo)) := by rw [hF_349 5 (by omega)]; exact f_5
        have hm_356 : M_344 6 = some (aI G 36 (nF al)) := by rw [hF_349 6 (by omega)]; exact f_6
        have hm_357 : M_344 7 = some (aZ G 6 (bF ho)) := by rw [hF_349 7 (by omega)]; exact f_7
        have hm_358 : M_344 8 = some (cOnes ad jn) := by rw [hF_349 8 (by omega)]; exact f_8
        have hm_359 : M_344 9 = some (aI G 40 (nF hg)) := by rw [hF_349 9 (by omega)]; exact f_9
        have hm_360 : M_344 10 = some (aI G 40 (nF lst)) := by rw [hF_349 10 (by omega)]; exact f_10
        have hm_361 : M_344 11 = some (aI G 40 (nF jd)) := by rw [hF_349 11 (by omega)]; exact f_11
        have hm_362 : M_344 12 = some (cEnds ad 12 s0) := by rw [hF_349 12 (by omega)]; exact f_12
        have hm_363 : M_344 13 = some (aI G 6 (nF r0)) := by rw [hF_349 13 (by omega)]; exact f_13
        have hm_364 : M_344 14 = some (aI G 6 (oF th)) := by rw [hF_349 14 (by omega)]; exact f_14
        have hm_365 : M_344 15 = some (aI G 6 (oF ol)) := by rw [hF_349 15 (by omega)]; exact f_15
        have hm_366 : M_344 19 = some (aZ G 120 (bF mm9)) := by rw [hF_349 19 (by omega)]; exact f_19
        have hm_367 : M_344 20 = some (aI G 120 ff) := by rw [hF_349 20 (by omega)]; exact f_20
        have hm_368 : M_344 21 = some (aI G 120 lq) := by rw [hF_349 21 (by omega)]; exact f_21
        have hm_369 : M_344 22 = some (cReader ad ra rb rt rv) := by rw [hF_349 22 (by omega)]; exact f_22
        have hm_370 : M_344 23 = some (cMatcher ad qm pz) := by rw [hF_349 23 (by omega)]; exact f_23
        have hm_371 : M_344 24 = some (aJ G 2160 sx) := by rw [hF_349 24 (by omega)]; exact f_24
        have hm_372 : M_344 25 = some (aI G 6 (nF ft)) := by rw [hF_349 25 (by omega)]; exact f_25
        have hm_373 : M_344 26 = some (aJ G 240 rx) := by rw [hF_349 26 (by omega)]; exact f_26
        have hm_374 : M_344 27 = some (aJ G 3 dm) := by rw [hF_349 27 (by omega)]; exact f_27
        have hm_375 : M_344 28 = some (aI G 3 rc) := by rw [hF_349 28 (by omega)]; exact f_28
        have hm_376 : M_344 qa = some (cQuestion ad qa ao vr) := by rw [hF_349 qa (by omega)]; exact f_qa
        have hm_377 : M_344 (qa + 1) = some (aI G 6 (nF kn)) := by rw [hF_349 (qa + 1) (by omega)]; exact f_qa_1
        have hm_378 : M_344 (qa + 2) = some (aZ G 6 (bF nq)) := by rw [hF_349 (qa + 2) (by omega)]; exact f_qa_2
        have hm_379 : M_344 (qa + 3) = some (aI G 6 (nF pn)) := by rw [hF_349 (qa + 3) (by omega)]; exact f_qa_3
        have hm_380 : M_344 (qa + 4) = some (aI G 6 (nF av)) := by rw [hF_349 (qa + 4) (by omega)]; exact f_qa_4
        have hm_381 : M_344 (qa + 5) = some (aI G 24 (nF ro)) := by rw [hF_349 (qa + 5) (by omega)]; exact f_qa_5
        have hm_382 : M_344 (qa + 6) = some (aI G 24 (nF te)) := by rw [hF_349 (qa + 6) (by omega)]; exact f_qa_6
        have hm_383 : M_344 qs = some (cQuestion ad qs sq su) := by rw [hF_349 qs (by omega)]; exact f_qs
        have hm_384 : M_344 (qs + 1) = some (aI G 6 (nF kb)) := by rw [hF_349 (qs + 1) (by omega)]; exact f_qs_1
        have hm_385 : M_344 (qs + 2) = some (aZ G 6 (bF nb)) := by rw [hF_349 (qs + 2) (by omega)]; exact f_qs_2
        have hm_386 : M_344 (qs + 3) = some (aI G 6 (nF pb)) := by rw [hF_349 (qs + 3) (by omega)]; exact f_qs_3
        have hm_387 : M_344 (qs + 4) = some (aI G 6 (nF ab)) := by rw [hF_349 (qs + 4) (by omega)]; exact f_qs_4
        have hm_388 : M_344 (qs + 5) = some (aI G 24 (nF rbb)) := by rw [hF_349 (qs + 5) (by omega)]; exact f_qs_5
        have hm_389 : M_344 (qs + 6) = some (aI G 24 (nF tbb)) := by rw [hF_349 (qs + 6) (by omega)]; exact f_qs_6
        have hm_390 : M_344 61 = some (aI G 36 (nF le)) := by rw [hF_349 61 (by omega)]; exact f_61
        have hm_391 : M_344 62 = some (aI G 36 (nF mo)) := by rw [hF_349 62 (by omega)]; exact f_62
        have hm_392 : M_344 63 = some (aI G 36 (nF al)) := by rw [hF_349 63 (by omega)]; exact f_63
        have hm_393 : M_344 64 = some (aZ G 6 (bF ho)) := by rw [hF_349 64 (by omega)]; exact f_64
        have hm_394 : M_344 65 = some (aI G 120 (nF mk)) := by rw [hF_349 65 (by omega)]; exact f_65
        have hm_395 : M_344 66 = some (aI G 120 mf) := by rw [hF_349 66 (by omega)]; exact f_66
        have hm_396 : M_344 67 = some (aI G 120 mu) := by rw [hF_349 67 (by omega)]; exact f_67
        have hm_397 : M_344 68 = some (aI G 121 (nF mz)) := by rw [hF_349 68 (by omega)]; exact f_68
        have hm_398 : M_344 69 = some (aI G 726 (nF rr)) := by rw [hF_349 69 (by omega)]; exact f_69
        have hm_399 : M_344 70 = some (aI G 726 (nF ee)) := by rw [hF_349 70 (by omega)]; exact f_70
        have hm_400 : M_344 71 = some (aI G 40 (nF lst)) := by rw [hF_349 71 (by omega)]; exact f_71
        have hm_401 : M_344 72 = some (aI G 40 (nF oa)) := by rw [hF_349 72 (by omega)]; exact f_72
        have hm_402 : M_344 73 = some (aI G 40 (nF ob)) := by rw [hF_349 73 (by omega)]; exact f_73
        have hm_403 : M_344 74 = some (aI G 120 s74) := by rw [hF_349 74 (by omega)]; exact f_74
        have hm_404 : M_344 75 = some (aI G 12 ak) := by rw [hF_349 75 (by omega)]; exact f_75
        have hm_405 : M_344 76 = some (aZ G 12 (bF nm)) := by rw [hF_349 76 (by omega)]; exact f_76
        have hm_406 : M_344 77 = some (aI G 12 (nF ap)) := by rw [hF_349 77 (by omega)]; exact f_77
        have hm_407 : M_344 78 = some (aI G 48 pr) := by rw [hF_349 78 (by omega)]; exact f_78
        have hm_408 : M_344 79 = some (aI G 48 pf) := by rw [hF_349 79 (by omega)]; exact f_79
        have hm_409 : M_344 80 = some (aB G 400 tf) := by rw [hF_349 80 (by omega)]; exact f_80
        have hm_410 : M_344 81 = some (aI G 5 fv) := by rw [hF_349 81 (by omega)]; exact f_81
        have hm_411 : M_344 82 = some (aZ G 384000 (bF tr)) := by rw [hF_349 82 (by omega)]; exact f_82
        have hm_412 : M_344 83 = some (aI G 3 (oF gv)) := by rw [hF_349 83 (by omega)]; exact f_83
        have hm_413 : M_344 84 = some (aI G 3 fo) := by rw [hF_349 84 (by omega)]; exact f_84
        have hm_414 : M_344 85 = some (aZ G 40 (bF re)) := by rw [hF_349 85 (by omega)]; exact f_85
        have hm_415 : M_344 86 = some (aZ G 120 (bF us)) := by rw [hF_349 86 (by omega)]; exact f_86
        have hm_416 : M_344 87 = some (aZ G 120 (bF nx)) := by rw [hF_349 87 (by omega)]; exact f_87
        have hm_417 : M_344 99 = some (aJ G 1 of) := by rw [hF_349 99 (by omega)]; exact f_99
        have hm_418 : M_344 16 = some (cLines ad ) := by rw [hF_349 16 (by omega)]; exact h16
        have hL_419 : LSm G ad M_344 n kd fm to sz rl en := fL.keep (fun j hj => hF_349 j (by omega))
        have hF_420 : ∀ j : Nat, j ≠ 60 → M_344 j = M j := fun j q0 => (hF_349 j q0)
        rw [hr_347]
        refine lv_icmp_eq (tgt := 1333) hx hb dL_law_1119 (by decide) (fun c_421 => ?_) (fun c_421 => ?_)
        · -- 1119: (-1) eq
          refine W.widen (k := cz + 10) (n := sy + 300) (by omega) (by omega) ?_
          exact kk ad M_344 H_345 locs_346 ls n kd fm to sz rl en qa qs fw len tb le mo al ho jn hg lst jd s0 r0 th ol e0 mm9 ff lq ra rb rt rv qm pz sx ft rx dm rc ao vr kn nq pn av ro te sq su kb nb pb ab rbb tbb 0 sn pt zs bg mk mf mu mz rr ee oa ob s74 ak nm ap pr pf tf fv tr gv fo re us nx of hL_419 w1 w2 w3 w4 w5 w6 w7 w8 w9 w10 w11 w12 w13 w14 w15 w16 w17 w18 w19 w20 w21 w22 w23 w24 w25 w26 w27 w28 w29 (fun h9 => by rw [hF_420 17 (by omega), hF_420 18 (by omega)]; exact w30 h9) (by rw [hF_420 29 (by omega)]; exact w31) (fun j9 h9 => by rw [hF_420 j9 (by omega)]; exact w32 j9 h9) hm_350 hm_351 hm_352 hm_353 hm_354 hm_355 hm_356 hm_357 hm_358 hm_359 hm_360 hm_361 hm_362 hm_363 hm_364 hm_365 hm_366 hm_367 hm_368 hm_369 hm_370 hm_371 hm_372 hm_373 hm_374 hm_375 hm_376 hm_377 hm_378 hm_379 hm_380 hm_381 hm_382 hm_383 hm_384 hm_385 hm_386 hm_387 hm_388 hm_389 hm_348 hm_390 hm_391 hm_392 hm_393 hm_394 hm_395 hm_396 hm_397 hm_398 hm_399 hm_400 hm_401 hm_402 hm_403 hm_404 hm_405 hm_406 hm_407 hm_408 hm_409 hm_410 hm_411 hm_412 hm_413 hm_414 hm_415 hm_416 hm_417 hI (lv_sub hl [0, 1, 2, 3, 4] rfl)
        · -- 1119: (-1) ne
          exact absurd (by decide) c_421

set_option maxHeartbeats 8000000 in
set_option maxRecDepth 100000 in
theorem law_13 {p : Program} {l : Launch} {e : Env} {s : State} {m : MethodId} {below : List Frame} {meth : Method} {c : Code} {b L : Nat} {xs : Nat → Int32} {Q : State → Prop} {G : GG} {z : Nat} {ad : Nat → Nat} {M : Mem} {H : Heap} {locs : List Loc} {ls : Array Slot} {i cz sy : Nat} (hst : l.stackTraces = false) (hx : p.tables.exec = Jvm.exec) (hb : c.code = code) (hml : c.maxLocals = 7) (hown : s.vm.findClass RL = some m.cls) {cx : Cond} (hts : ∀ w ∈ cx :: lwg, w.before #[Value.ref b] s = true) (hX : va_X b L xs s s.heap) (hbl : b < s.heap.size) (hbz : ¬ z ≤ b) (hI : Iv G z ad M s H locs) (hl : lv_has ls 7 [(0, .ref b), (1, .ref (ad 0)), (2, .ref (ad 60)), (3, .ref (ad 99)), (4, .int (nI i))]) (hiL : i + 6 ≤ L) (hL : L ≤ 3072) (hcz : cz + 10 ≤ 601024) (hsy : sy + 300 ≤ 7293034) {n : Nat} {kd : Nat → Nat} {fm : Nat → Int32} {to : Nat → Int32} {sz : Nat → Nat} {rl : Nat → Nat → Nat} {en : Nat → Nat → Nat} {qa : Nat} {qs : Nat} {fw : Int32} {len : Nat} {tb : Nat → Nat} {le : Nat → Nat} {mo : Nat → Nat} {al : Nat → Nat} {ho : Nat → Bool} {jn : Nat} {hg : Nat → Nat} {lst : Nat → Nat} {jd : Nat → Nat} {s0 : Nat} {r0 : Nat → Nat} {th : Nat → Option Nat} {ol : Nat → Option Nat} {e0 : Nat → Nat} {mm9 : Nat → Bool} {ff : Nat → Int32} {lq : Nat → Int32} {ra : Nat} {rb : Nat} {rt : Int32} {rv : Int32} {qm : Nat} {pz : Nat} {sx : Nat → Int64} {ft : Nat → Nat} {rx : Nat → Int64} {dm : Nat → Int64} {rc : Nat → Int32} {ao : Nat} {vr : Nat} {kn : Nat → Nat} {nq : Nat → Bool} {pn : Nat → Nat} {av : Nat → Nat} {ro : Nat → Nat} {te : Nat → Nat} {sq : Nat} {su : Nat} {kb : Nat → Nat} {nb : Nat → Bool} {pb : Nat → Nat} {ab : Nat → Nat} {rbb : Nat → Nat} {tbb : Nat → Nat} {tw : Nat} {sn : Nat} {pt : Nat} {zs : Nat} {bg : Nat} {mk : Nat → Nat} {mf : Nat → Int32} {mu : Nat → Int32} {mz : Nat → Nat} {rr : Nat → Nat} {ee : Nat → Nat} {oa : Nat → Nat} {ob : Nat → Nat} {s74 : Nat → Int32} {ak : Nat → Int32} {nm : Nat → Bool} {ap : Nat → Nat} {pr : Nat → Int32} {pf : Nat → Int32} {tf : Nat → Int32} {fv : Nat → Int32} {tr : Nat → Bool} {gv : Nat → Option Nat} {fo : Nat → Int32} {re : Nat → Bool} {us : Nat → Bool} {nx : Nat → Bool} {of : Nat → Int64} (fL : LSm G ad M n kd fm to sz rl en) (w1 : LSw n kd sz rl en) (w2 : MRel n kd fm to sz rl en mk mf mu mz rr ee) (w3 : JI jn hg lst jd oa ob) (w4 : len ≤ 400) (w5 : ∀ j, j < len → tb j < 256) (w6 : ∀ j, j < len → tf j = sB (tb j)) (w7 : s0 ≤ 6) (w8 : mz 120 = s0) (w9 : ∀ j, j < s0 → rr (720 + j) = r0 j ∧ ee (720 + j) = e0 j) (w10 : ∀ j, j < s0 → r0 j < 6) (w11 : ∀ j, j < s0 → e0 j < 40 + n) (w12 : ∀ j, j < s0 → th j = thE e0 j) (w13 : ∀ j, j < s0 → ol j = olE e0 j) (w14 : ∀ j, j < 36 → le j < 100) (w15 : ∀ j, j < 36 → mo j < 100) (w16 : ∀ j, j < 36 → al j ≤ 100) (w17 : ∀ i, i < n → (0 : Int32) ≤ fm i) (w18 : ∀ i, i < n → ∀ k, hgs sz en i k = true → fm k ≤ fm i) (w19 : ao ≤ 6) (w20 : vr < 8) (w21 : ∀ i, i < ao → ap i ≤ 4 ∧ (ak i = nI (kn i) ∧ kn i < 6) ∧ ∀ p8, p8 < ap i → (pr (4 * i + p8) = nI (ro (i * 4 + p8)) ∧ ro (i * 4 + p8) < 6) ∧ te (i * 4 + p8) < 43 ∧ pf (4 * i + p8) = tmI (te (i * 4 + p8))) (w22 : ∀ i, i < ao → nm i = nq i ∧ ap i = pn i) (w23 : ∀ i, i < ao → av i < 8) (w24 : ∀ i, i < ao → (av i).testBit 0 = false → ∀ p9, p9 < pn i → te (i * 4 + p9) ≠ 40) (w25 : ∀ v, v < 3 → vr.testBit v = true → ∃ i, i < ao ∧ nq i = false ∧ ∃ k, k < pn i ∧ te (i * 4 + k) = 40 + v) (w26 : 29 < qa ∧ qa < 38) (w27 : 29 < qs ∧ qs < 38) (w28 : qa + 7 ≤ qs ∨ qs + 7 ≤ qa) (w29 : 29 < qm ∧ qm < 51) (w30 : n = 0 → (∃ mcn : Int32, M 17 = some (cList ad mcn G.2.2.2.2 0)) ∧ M 18 = none) (w31 : M 29 = none) (w32 : ∀ j, 100 + 5 * n ≤ j → M j = none) (f_0 : M 0 = some (cStore ad qa qs fw)) (f_1 : M 1 = some (cTape ad len)) (f_2 : M 2 = some (aI G 400 (nF tb))) (f_3 : M 3 = some (cLaws ad )) (f_4 : M 4 = some (aI G 36 (nF le))) (f_5 : M 5 = some (aI G 36 (nF mo))) (f_6 : M 6 = some (aI G 36 (nF al))) (f_7 : M 7 = some (aZ G 6 (bF ho))) (f_8 : M 8 = some (cOnes ad jn)) (f_9 : M 9 = some (aI G 40 (nF hg))) (f_10 : M 10 = some (aI G 40 (nF lst))) (f_11 : M 11 = some (aI G 40 (nF jd))) (f_12 : M 12 = some (cEnds ad 12 s0)) (f_13 : M 13 = some (aI G 6 (nF r0))) (f_14 : M 14 = some (aI G 6 (oF th))) (f_15 : M 15 = some (aI G 6 (oF ol))) (f_19 : M 19 = some (aZ G 120 (bF mm9))) (f_20 : M 20 = some (aI G 120 ff)) (f_21 : M 21 = some (aI G 120 lq)) (f_22 : M 22 = some (cReader ad ra rb rt rv)) (f_23 : M 23 = some (cMatcher ad qm pz)) (f_24 : M 24 = some (aJ G 2160 sx)) (f_25 : M 25 = some (aI G 6 (nF ft))) (f_26 : M 26 = some (aJ G 240 rx)) (f_27 : M 27 = some (aJ G 3 dm)) (f_28 : M 28 = some (aI G 3 rc)) (f_qa : M qa = some (cQuestion ad qa ao vr)) (f_qa_1 : M (qa + 1) = some (aI G 6 (nF kn))) (f_qa_2 : M (qa + 2) = some (aZ G 6 (bF nq))) (f_qa_3 : M (qa + 3) = some (aI G 6 (nF pn))) (f_qa_4 : M (qa + 4) = some (aI G 6 (nF av))) (f_qa_5 : M (qa + 5) = some (aI G 24 (nF ro))) (f_qa_6 : M (qa + 6) = some (aI G 24 (nF te))) (f_qs : M qs = some (cQuestion ad qs sq su)) (f_qs_1 : M (qs + 1) = some (aI G 6 (nF kb))) (f_qs_2 : M (qs + 2) = some (aZ G 6 (bF nb))) (f_qs_3 : M (qs + 3) = some (aI G 6 (nF pb))) (f_qs_4 : M (qs + 4) = some (aI G 6 (nF ab))) (f_qs_5 : M (qs + 5) = some (aI G 24 (nF rbb))) (f_qs_6 : M (qs + 6) = some (aI G 24 (nF tbb))) (f_60 : M 60 = some (cModel ad tw n jn ao vr sn len pt zs bg fw)) (f_61 : M 61 = some (aI G 36 (nF le))) (f_62 : M 62 = some (aI G 36 (nF mo))) (f_63 : M 63 = some (aI G 36 (nF al))) (f_64 : M 64 = some (aZ G 6 (bF ho))) (f_65 : M 65 = some (aI G 120 (nF mk))) (f_66 : M 66 = some (aI G 120 mf)) (f_67 : M 67 = some (aI G 120 mu)) (f_68 : M 68 = some (aI G 121 (nF mz))) (f_69 : M 69 = some (aI G 726 (nF rr))) (f_70 : M 70 = some (aI G 726 (nF ee))) (f_71 : M 71 = some (aI G 40 (nF lst))) (f_72 : M 72 = some (aI G 40 (nF oa))) (f_73 : M 73 = some (aI G 40 (nF ob))) (f_74 : M 74 = some (aI G 120 s74)) (f_75 : M 75 = some (aI G 12 ak)) (f_76 : M 76 = some (aZ G 12 (bF nm))) (f_77 : M 77 = some (aI G 12 (nF ap))) (f_78 : M 78 = some (aI G 48 pr)) (f_79 : M 79 = some (aI G 48 pf)) (f_80 : M 80 = some (aB G 400 tf)) (f_81 : M 81 = some (aI G 5 fv)) (f_82 : M 82 = some (aZ G 384000 (bF tr))) (f_83 : M 83 = some (aI G 3 (oF gv))) (f_84 : M 84 = some (aI G 3 fo)) (f_85 : M 85 = some (aZ G 40 (bF re))) (f_86 : M 86 = some (aZ G 120 (bF us))) (f_87 : M 87 = some (aZ G 120 (bF nx))) (f_99 : M 99 = some (aJ G 1 of)) (kk : ∀ (ad1 : Nat → Nat) (M1 : Mem) (H1 : Heap) (locs1 : List Loc) (ls1 : Array Slot) (n : Nat) (kd : Nat → Nat) (fm : Nat → Int32) (to : Nat → Int32) (sz : Nat → Nat) (rl : Nat → Nat → Nat) (en : Nat → Nat → Nat) (qa : Nat) (qs : Nat) (fw : Int32) (len : Nat) (tb : Nat → Nat) (le : Nat → Nat) (mo : Nat → Nat) (al : Nat → Nat) (ho : Nat → Bool) (jn : Nat) (hg : Nat → Nat) (lst : Nat → Nat) (jd : Nat → Nat) (s0 : Nat) (r0 : Nat → Nat) (th : Nat → Option Nat) (ol : Nat → Option Nat) (e0 : Nat → Nat) (mm9 : Nat → Bool) (ff : Nat → Int32) (lq : Nat → Int32) (ra : Nat) (rb : Nat) (rt : Int32) (rv : Int32) (qm : Nat) (pz : Nat) (sx : Nat → Int64) (ft : Nat → Nat) (rx : Nat → Int64) (dm : Nat → Int64) (rc : Nat → Int32) (ao : Nat) (vr : Nat) (kn : Nat → Nat) (nq : Nat → Bool) (pn : Nat → Nat) (av : Nat → Nat) (ro : Nat → Nat) (te : Nat → Nat) (sq : Nat) (su : Nat) (kb : Nat → Nat) (nb : Nat → Bool) (pb : Nat → Nat) (ab : Nat → Nat) (rbb : Nat → Nat) (tbb : Nat → Nat) (tw : Nat) (sn : Nat) (pt : Nat) (zs : Nat) (bg : Nat) (mk : Nat → Nat) (mf : Nat → Int32) (mu : Nat → Int32) (mz : Nat → Nat) (rr : Nat → Nat) (ee : Nat → Nat) (oa : Nat → Nat) (ob : Nat → Nat) (s74 : Nat → Int32) (ak : Nat → Int32) (nm : Nat → Bool) (ap : Nat → Nat) (pr : Nat → Int32) (pf : Nat → Int32) (tf : Nat → Int32) (fv : Nat → Int32) (tr : Nat → Bool) (gv : Nat → Option Nat) (fo : Nat → Int32) (re : Nat → Bool) (us : Nat → Bool) (nx : Nat → Bool) (of : Nat → Int64), (LSm G ad1 M1 n kd fm to sz rl en) → (LSw n kd sz rl en) → (MRel n kd fm to sz rl en mk mf mu mz rr ee) → (JI jn hg lst jd oa ob) → (len ≤ 400) → (∀ j, j < len → tb j < 256) → (∀ j, j < len → tf j = sB (tb j)) → (s0 ≤ 6) → (mz 120 = s0) → (∀ j, j < s0 → rr (720 + j) = r0 j ∧ ee (720 + j) = e0 j) → (∀ j, j < s0 → r0 j < 6) → (∀ j, j < s0 → e0 j < 40 + n) → (∀ j, j < s0 → th j = thE e0 j) → (∀ j, j < s0 → ol j = olE e0 j) → (∀ j, j < 36 → le j < 100) → (∀ j, j < 36 → mo j < 100) → (∀ j, j < 36 → al j ≤ 100) → (∀ i, i < n → (0 : Int32) ≤ fm i) → (∀ i, i < n → ∀ k, hgs sz en i k = true → fm k ≤ fm i) → (ao ≤ 6) → (vr < 8) → (∀ i, i < ao → ap i ≤ 4 ∧ (ak i = nI (kn i) ∧ kn i < 6) ∧ ∀ p8, p8 < ap i → (pr (4 * i + p8) = nI (ro (i * 4 + p8)) ∧ ro (i * 4 + p8) < 6) ∧ te (i * 4 + p8) < 43 ∧ pf (4 * i + p8) = tmI (te (i * 4 + p8))) → (∀ i, i < ao → nm i = nq i ∧ ap i = pn i) → (∀ i, i < ao → av i < 8) → (∀ i, i < ao → (av i).testBit 0 = false → ∀ p9, p9 < pn i → te (i * 4 + p9) ≠ 40) → (∀ v, v < 3 → vr.testBit v = true → ∃ i, i < ao ∧ nq i = false ∧ ∃ k, k < pn i ∧ te (i * 4 + k) = 40 + v) → (29 < qa ∧ qa < 38) → (29 < qs ∧ qs < 38) → (qa + 7 ≤ qs ∨ qs + 7 ≤ qa) → (29 < qm ∧ qm < 51) → (n = 0 → (∃ mcn : Int32, M1 17 = some (cList ad1 mcn G.2.2.2.2 0)) ∧ M1 18 = none) → (M1 29 = none) → (∀ j, 100 + 5 * n ≤ j → M1 j = none) → (M1 0 = some (cStore ad1 qa qs fw)) → (M1 1 = some (cTape ad1 len)) → (M1 2 = some (aI G 400 (nF tb))) → (M1 3 = some (cLaws ad1 )) → (M1 4 = some (aI G 36 (nF le))) → (M1 5 = some (aI G 36 (nF mo))) → (M1 6 = some (aI G 36 (nF al))) → (M1 7 = some (aZ G 6 (bF ho))) → (M1 8 = some (cOnes ad1 jn)) → (M1 9 = some (aI G 40 (nF hg))) → (M1 10 = some (aI G 40 (nF lst))) → (M1 11 = some (aI G 40 (nF jd))) → (M1 12 = some (cEnds ad1 12 s0)) → (M1 13 = some (aI G 6 (nF r0))) → (M1 14 = some (aI G 6 (oF th))) → (M1 15 = some (aI G 6 (oF ol))) → (M1 19 = some (aZ G 120 (bF mm9))) → (M1 20 = some (aI G 120 ff)) → (M1 21 = some (aI G 120 lq)) → (M1 22 = some (cReader ad1 ra rb rt rv)) → (M1 23 = some (cMatcher ad1 qm pz)) → (M1 24 = some (aJ G 2160 sx)) → (M1 25 = some (aI G 6 (nF ft))) → (M1 26 = some (aJ G 240 rx)) → (M1 27 = some (aJ G 3 dm)) → (M1 28 = some (aI G 3 rc)) → (M1 qa = some (cQuestion ad1 qa ao vr)) → (M1 (qa + 1) = some (aI G 6 (nF kn))) → (M1 (qa + 2) = some (aZ G 6 (bF nq))) → (M1 (qa + 3) = some (aI G 6 (nF pn))) → (M1 (qa + 4) = some (aI G 6 (nF av))) → (M1 (qa + 5) = some (aI G 24 (nF ro))) → (M1 (qa + 6) = some (aI G 24 (nF te))) → (M1 qs = some (cQuestion ad1 qs sq su)) → (M1 (qs + 1) = some (aI G 6 (nF kb))) → (M1 (qs + 2) = some (aZ G 6 (bF nb))) → (M1 (qs + 3) = some (aI G 6 (nF pb))) → (M1 (qs + 4) = some (aI G 6 (nF ab))) → (M1 (qs + 5) = some (aI G 24 (nF rbb))) → (M1 (qs + 6) = some (aI G 24 (nF tbb))) → (M1 60 = some (cModel ad1 tw n jn ao vr sn len pt zs bg fw)) → (M1 61 = some (aI G 36 (nF le))) → (M1 62 = some (aI G 36 (nF mo))) → (M1 63 = some (aI G 36 (nF al))) → (M1 64 = some (aZ G 6 (bF ho))) → (M1 65 = some (aI G 120 (nF mk))) → (M1 66 = some (aI G 120 mf)) → (M1 67 = some (aI G 120 mu)) → (M1 68 = some (aI G 121 (nF mz))) → (M1 69 = some (aI G 726 (nF rr))) → (M1 70 = some (aI G 726 (nF ee))) → (M1 71 = some (aI G 40 (nF lst))) → (M1 72 = some (aI G 40 (nF oa))) → (M1 73 = some (aI G 40 (nF ob))) → (M1 74 = some (aI G 120 s74)) → (M1 75 = some (aI G 12 ak)) → (M1 76 = some (aZ G 12 (bF nm))) → (M1 77 = some (aI G 12 (nF ap))) → (M1 78 = some (aI G 48 pr)) → (M1 79 = some (aI G 48 pf)) → (M1 80 = some (aB G 400 tf)) → (M1 81 = some (aI G 5 fv)) → (M1 82 = some (aZ G 384000 (bF tr))) → (M1 83 = some (aI G 3 (oF gv))) → (M1 84 = some (aI G 3 fo)) → (M1 85 = some (aZ G 40 (bF re))) → (M1 86 = some (aZ G 120 (bF us))) → (M1 87 = some (aZ G 120 (bF nx))) → (M1 99 = some (aJ G 1 of)) → Iv G z ad1 M1 s H1 locs1 → lv_has ls1 7 [(0, .ref b), (1, .ref (ad1 0)), (2, .ref (ad1 60)), (3, .ref (ad1 99)), (4, .int (nI i))] → W p l e room_1 s m #[Value.ref b] below meth c H1 locs1 (cz + 10) (sy + 300) Q (F0 m 1333 ls1 [])) : W p l e room_1 s m #[Value.ref b] below meth c H locs cz sy Q (F0 m 993 ls []) := by
  have h16 := fL.1
  have hw1 := w1.1
  have hlst := ji_lst w3
  rcases (rd_or (rdAll tb len 6 0 0 0) : (∃ g, rdAll tb len 6 0 0 0 = .inl g) ∨ (∃ A u, rdAll tb len 6 0 0 0 = .inr (A, u))) with hc_1 | hc_2
  · skip
    refine lv_aload_n hx hb dL_law_993 rfl (lv_at hl 1 rfl) ?_
    obtain ⟨g, hrd⟩ := hc_1
    refine lv_aload_n hx hb dL_law_994 rfl (lv_at hl 3 rfl) ?_
    refine k_Ni (vx_runSW (As := [.ref (ad 0), .ref (ad 99)]) (rest := []) ⟨hx, hb, hml, hown, hts⟩ (c_L_question_T l hst G z ad M (qa := qa) (qs := qs) (fw := fw) (ra := ra) (rb := rb) (rt := rt) (rv := rv) (len := len) (tb := tb) (sq := sq) (su := su) (kn := kb) (nt := nb) (pn := pb) (av := ab) (ro := rbb) (te := tbb) (g := g) f_0 f_22 f_1 f_2 f_qs f_qs_1 f_qs_2 f_qs_3 f_qs_4 f_qs_5 f_qs_6 w4 w5 (by omega) hrd) (vx_cwSW 2 hts (gSW (lwg_of t_900 rfl) (lwg_of t_901 rfl) (lwg_of t_0 rfl) (lwg_of t_902 rfl)) rfl rfl rfl (by decide +kernel) ⟨Nat.le_of_ble_eq_true rfl, Nat.le_of_ble_eq_true rfl⟩) hI.preS rfl rfl hl.1 rfl (lv_room (Nat.le_of_ble_eq_true rfl)) dL_law_995 ⟨(show _ ≤ (601024 : Nat) from by omega), (show _ ≤ (7293034 : Nat) from by omega)⟩) hI (fun r_3 M_5 H_6 locs_7 hp_4 hI => ?_)
    obtain ⟨a2_20, g2_21, t2_22, v2_23, q2_24, u2_25, kn2_26, nt2_27, pn2_28, av2_29, ro2_30, te2_31, hr_8, hm_9, hm_10, hm_11, hm_12, hm_13, hm_14, hm_15, hm_16, hm_17, hm_18, hF_19⟩ := hp_4
    have hm_32 : M_5 2 = some (aI G 400 (nF tb)) := by rw [hF_19 2 (by omega) (by omega) (by omega) (by omega) (by omega) (by omega) (by omega) (by omega) (by omega) (by omega)]; exact f_2
    have hm_33 : M_5 3 = some (cLaws ad ) := by rw [hF_19 3 (by omega) (by omega) (by omega) (by omega) (by omega) (by omega) (by omega) (by omega) (by omega) (by omega)]; exact f_3
    have hm_34 : M_5 4 = some (aI G 36 (nF le)) := by rw [hF_19 4 (by omega) (by omega) (by omega) (by omega) (by omega) (by omega) (by omega) (by omega) (by omega) (by omega)]; exact f_4
    have hm_35 : M_5 5 = some (aI G 36 (nF mo)) := by rw [hF_19 5 (by omega) (by omega) (by omega) (by omega) (by omega) (by omega) (by omega) (by omega) (by omega) (by omega)]; exact f_5
    have hm_36 : M_5 6 = some (aI G 36 (nF al)) := by rw [hF_19 6 (by omega) (by omega) (by omega) (by omega) (by omega) (by omega) (by omega) (by omega) (by omega) (by omega)]; exact f_6
    have hm_37 : M_5 7 = some (aZ G 6 (bF ho)) := by rw [hF_19 7 (by omega) (by omega) (by omega) (by omega) (by omega) (by omega) (by omega) (by omega) (by omega) (by omega)]; exact f_7
    have hm_38 : M_5 8 = some (cOnes ad jn) := by rw [hF_19 8 (by omega) (by omega) (by omega) (by omega) (by omega) (by omega) (by omega) (by omega) (by omega) (by omega)]; exact f_8
    have hm_39 : M_5 9 = some (aI G 40 (nF hg)) := by rw [hF_19 9 (by omega) (by omega) (by omega) (by omega) (by omega) (by omega) (by omega) (by omega) (by omega) (by omega)]; exact f_9
    have hm_40 : M_5 10 = some (aI G 40 (nF lst)) := by rw [hF_19 10 (by omega) (by omega) (by omega) (by omega) (by omega) (by omega) (by omega) (by omega) (by omega) (by omega)]; exact f_10
    have hm_41 : M_5 11 = some (aI G 40 (nF jd)) := by rw [hF_19 11 (by omega) (by omega) (by omega) (by omega) (by omega) (by omega) (by omega) (by omega) (by omega) (by omega)]; exact f_11
    have hm_42 : M_5 12 = some (cEnds ad 12 s0) := by rw [hF_19 12 (by omega) (by omega) (by omega) (by omega) (by omega) (by omega) (by omega) (by omega) (by omega) (by omega)]; exact f_12
    have hm_43 : M_5 13 = some (aI G 6 (nF r0)) := by rw [hF_19 13 (by omega) (by omega) (by omega) (by omega) (by omega) (by omega) (by omega) (by omega) (by omega) (by omega)]; exact f_13
    have hm_44 : M_5 14 = some (aI G 6 (oF th)) := by rw [hF_19 14 (by omega) (by omega) (by omega) (by omega) (by omega) (by omega) (by omega) (by omega) (by omega) (by omega)]; exact f_14
    have hm_45 : M_5 15 = some (aI G 6 (oF ol)) := by rw [hF_19 15 (by omega) (by omega) (by omega) (by omega) (by omega) (by omega) (by omega) (by omega) (by omega) (by omega)]; exact f_15
    have hm_46 : M_5 19 = some (aZ G 120 (bF mm9)) := by rw [hF_19 19 (by omega) (by omega) (by omega) (by omega) (by omega) (by omega) (by omega) (by omega) (by omega) (by omega)]; exact f_19
    have hm_47 : M_5 20 = some (aI G 120 ff) := by rw [hF_19 20 (by omega) (by omega) (by omega) (by omega) (by omega) (by omega) (by omega) (by omega) (by omega) (by omega)]; exact f_20
    have hm_48 : M_5 21 = some (aI G 120 lq) := by rw [hF_19 21 (by omega) (by omega) (by omega) (by omega) (by omega) (by omega) (by omega) (by omega) (by omega) (by omega)]; exact f_21
    have hm_49 : M_5 23 = some (cMatcher ad qm pz) := by rw [hF_19 23 (by omega) (by omega) (by omega) (by omega) (by omega) (by omega) (by omega) (by omega) (by omega) (by omega)]; exact f_23
    have hm_50 : M_5 24 = some (aJ G 2160 sx) := by rw [hF_19 24 (by omega) (by omega) (by omega) (by omega) (by omega) (by omega) (by omega) (by omega) (by omega) (by omega)]; exact f_24
    have hm_51 : M_5 25 = some (aI G 6 (nF ft)) := by rw [hF_19 25 (by omega) (by omega) (by omega) (by omega) (by omega) (by omega) (by omega) (by omega) (by omega) (by omega)]; exact f_25
    have hm_52 : M_5 26 = some (aJ G 240 rx) := by rw [hF_19 26 (by omega) (by omega) (by omega) (by omega) (by omega) (by omega) (by omega) (by omega) (by omega) (by omega)]; exact f_26
    have hm_53 : M_5 27 = some (aJ G 3 dm) := by rw [hF_19 27 (by omega) (by omega) (by omega) (by omega) (by omega) (by omega) (by omega) (by omega) (by omega) (by omega)]; exact f_27
    have hm_54 : M_5 28 = some (aI G 3 rc) := by rw [hF_19 28 (by omega) (by omega) (by omega) (by omega) (by omega) (by omega) (by omega) (by omega) (by omega) (by omega)]; exact f_28
    have hm_55 : M_5 qa = some (cQuestion ad qa ao vr) := by rw [hF_19 qa (by omega) (by omega) (by omega) (by omega) (by omega) (by omega) (by omega) (by omega) (by omega) (by omega)]; exact f_qa
    have hm_56 : M_5 (qa + 1) = some (aI G 6 (nF kn)) := by rw [hF_19 (qa + 1) (by omega) (by omega) (by omega) (by omega) (by omega) (by omega) (by omega) (by omega) (by omega) (by omega)]; exact f_qa_1
    have hm_57 : M_5 (qa + 2) = some (aZ G 6 (bF nq)) := by rw [hF_19 (qa + 2) (by omega) (by omega) (by omega) (by omega) (by omega) (by omega) (by omega) (by omega) (by omega) (by omega)]; exact f_qa_2
    have hm_58 : M_5 (qa + 3) = some (aI G 6 (nF pn)) := by rw [hF_19 (qa + 3) (by omega) (by omega) (by omega) (by omega) (by omega) (by omega) (by omega) (by omega) (by omega) (by omega)]; exact f_qa_3
    have hm_59 : M_5 (qa + 4) = some (aI G 6 (nF av)) := by rw [hF_19 (qa + 4) (by omega) (by omega) (by omega) (by omega) (by omega) (by omega) (by omega) (by omega) (by omega) (by omega)]; exact f_qa_4
    have hm_60 : M_5 (qa + 5) = some (aI G 24 (nF ro)) := by rw [hF_19 (qa + 5) (by omega) (by omega) (by omega) (by omega) (by omega) (by omega) (by omega) (by omega) (by omega) (by omega)]; exact f_qa_5
    have hm_61 : M_5 (qa + 6) = some (aI G 24 (nF te)) := by rw [hF_19 (qa + 6) (by omega) (by omega) (by omega) (by omega) (by omega) (by omega) (by omega) (by omega) (by omega) (by omega)]; exact f_qa_6
    have hm_62 : M_5 60 = some (cModel ad tw n jn ao vr sn len pt zs bg fw) := by rw [hF_19 60 (by omega) (by omega) (by omega) (by omega) (by omega) (by omega) (by omega) (by omega) (by omega) (by omega)]; exact f_60
    have hm_63 : M_5 61 = some (aI G 36 (nF le)) := by rw [hF_19 61 (by omega) (by omega) (by omega) (by omega) (by omega) (by omega) (by omega) (by omega) (by omega) (by omega)]; exact f_61
    have hm_64 : M_5 62 = some (aI G 36 (nF mo)) := by rw [hF_19 62 (by omega) (by omega) (by omega) (by omega) (by omega) (by omega) (by omega) (by omega) (by omega) (by omega)]; exact f_62
    have hm_65 : M_5 63 = some (aI G 36 (nF al)) := by rw [hF_19 63 (by omega) (by omega) (by omega) (by omega) (by omega) (by omega) (by omega) (by omega) (by omega) (by omega)]; exact f_63
    have hm_66 : M_5 64 = some (aZ G 6 (bF ho)) := by rw [hF_19 64 (by omega) (by omega) (by omega) (by omega) (by omega) (by omega) (by omega) (by omega) (by omega) (by omega)]; exact f_64
    have hm_67 : M_5 65 = some (aI G 120 (nF mk)) := by rw [hF_19 65 (by omega) (by omega) (by omega) (by omega) (by omega) (by omega) (by omega) (by omega) (by omega) (by omega)]; exact f_65
    have hm_68 : M_5 66 = some (aI G 120 mf) := by rw [hF_19 66 (by omega) (by omega) (by omega) (by omega) (by omega) (by omega) (by omega) (by omega) (by omega) (by omega)]; exact f_66
    have hm_69 : M_5 67 = some (aI G 120 mu) := by rw [hF_19 67 (by omega) (by omega) (by omega) (by omega) (by omega) (by omega) (by omega) (by omega) (by omega) (by omega)]; exact f_67
    have hm_70 : M_5 68 = some (aI G 121 (nF mz)) := by rw [hF_19 68 (by omega) (by omega) (by omega) (by omega) (by omega) (by omega) (by omega) (by omega) (by omega) (by omega)]; exact f_68
    have hm_71 : M_5 69 = some (aI G 726 (nF rr)) := by rw [hF_19 69 (by omega) (by omega) (by omega) (by omega) (by omega) (by omega) (by omega) (by omega) (by omega) (by omega)]; exact f_69
    have hm_72 : M_5 70 = some (aI G 726 (nF ee)) := by rw [hF_19 70 (by omega) (by omega) (by omega) (by omega) (by omega) (by omega) (by omega) (by omega) (by omega) (by omega)]; exact f_70
    have hm_73 : M_5 71 = some (aI G 40 (nF lst)) := by rw [hF_19 71 (by omega) (by omega) (by omega) (by omega) (by omega) (by omega) (by omega) (by omega) (by omega) (by omega)]; exact f_71
    have hm_74 : M_5 72 = some (aI G 40 (nF oa)) := by rw [hF_19 72 (by omega) (by omega) (by omega) (by omega) (by omega) (by omega) (by omega) (by omega) (by omega) (by omega)]; exact f_72
    have hm_75 : M_5 73 = some (aI G 40 (nF ob)) := by rw [hF_19 73 (by omega) (by omega) (by omega) (by omega) (by omega) (by omega) (by omega) (by omega) (by omega) (by omega)]; exact f_73
    have hm_76 : M_5 74 = some (aI G 120 s74) := by rw [hF_19 74 (by omega) (by omega) (by omega) (by omega) (by omega) (by omega) (by omega) (by omega) (by omega) (by omega)]; exact f_74
    have hm_77 : M_5 75 = some (aI G 12 ak) := by rw [hF_19 75 (by omega) (by omega) (by omega) (by omega) (by omega) (by omega) (by omega) (by omega) (by omega) (by omega)]; exact f_75
    have hm_78 : M_5 76 = some (aZ G 12 (bF nm)) := by rw [hF_19 76 (by omega) (by omega) (by omega) (by omega) (by omega) (by omega) (by omega) (by omega) (by omega) (by omega)]; exact f_76
    have hm_79 : M_5 77 = some (aI G 12 (nF ap)) := by rw [hF_19 77 (by omega) (by omega) (by omega) (by omega) (by omega) (by omega) (by omega) (by omega) (by omega) (by omega)]; exact f_77
    have hm_80 : M_5 78 = some (aI G 48 pr) := by rw [hF_19 78 (by omega) (by omega) (by omega) (by omega) (by omega) (by omega) (by omega) (by omega) (by omega) (by omega)]; exact f_78
    have hm_81 : M_5 79 = some (aI G 48 pf) := by rw [hF_19 79 (by omega) (by omega) (by omega) (by omega) (by omega) (by omega) (by omega) (by omega) (by omega) (by omega)]; exact f_79
    have hm_82 : M_5 80 = some (aB G 400 tf) := by rw [hF_19 80 (by omega) (by omega) (by omega) (by omega) (by omega) (by omega) (by omega) (by omega) (by omega) (by omega)]; exact f_80
    have hm_83 : M_5 81 = some (aI G 5 fv) := by rw [hF_19 81 (by omega) (by omega) (by omega) (by omega) (by omega) (by omega) (by omega) (by omega) (by omega) (by omega)]; exact f_81
    have hm_84 : M_5 82 = some (aZ G 384000 (bF tr)) := by rw [hF_19 82 (by omega) (by omega) (by omega) (by omega) (by omega) (by omega) (by omega) (by omega) (by omega) (by omega)]; exact f_82
    have hm_85 : M_5 83 = some (aI G 3 (oF gv)) := by rw [hF_19 83 (by omega) (by omega) (by omega) (by omega) (by omega) (by omega) (by omega) (by omega) (by omega) (by omega)]; exact f_83
    have hm_86 : M_5 84 = some (aI G 3 fo) := by rw [hF_19 84 (by omega) (by omega) (by omega) (by omega) (by omega) (by omega) (by omega) (by omega) (by omega) (by omega)]; exact f_84
    have hm_87 : M_5 85 = some (aZ G 40 (bF re)) := by rw [hF_19 85 (by omega) (by omega) (by omega) (by omega) (by omega) (by omega) (by omega) (by omega) (by omega) (by omega)]; exact f_85
    have hm_88 : M_5 86 = some (aZ G 120 (bF us)) := by rw [hF_19 86 (by omega) (by omega) (by omega) (by omega) (by omega) (by omega) (by omega) (by omega) (by omega) (by omega)]; exact f_86
    have hm_89 : M_5 87 = some (aZ G 120 (bF nx)) := by rw [hF_19 87 (by omega) (by omega) (by omega) (by omega) (by omega) (by omega) (by omega) (by omega) (by omega) (by omega)]; exact f_87
    have hm_90 : M_5 99 = some (aJ G 1 of) := by rw [hF_19 99 (by omega) (by omega) (by omega) (by omega) (by omega) (by omega) (by omega) (by omega) (by omega) (by omega)]; exact f_99
    have hm_91 : M_5 16 = some (cLines ad ) := by rw [hF_19 16 (by omega) (by omega) (by omega) (by omega) (by omega) (by omega) (by omega) (by omega) (by omega) (by omega)]; exact h16
    have hL_92 : LSm G ad M_5 n kd fm to sz rl en := fL.keep (fun j hj => hF_19 j (by omega) (by omega) (by omega) (by omega) (by omega) (by omega) (by omega) (by omega) (by omega) (by omega))
    have hF_93 : ∀ j : Nat, j ≠ 0 → j ≠ 1 → j ≠ 22 → j ≠ qs → j ≠ (qs + 1) → j ≠ (qs + 2) → j ≠ (qs + 3) → j ≠ (qs + 4) → j ≠ (qs + 5) → j ≠ (qs + 6) → M_5 j = M j := fun j q0 q1 q2 q3 q4 q5 q6 q7 q8 q9 => (hF_19 j q0 q1 q2 q3 q4 q5 q6 q7 q8 q9)
    rw [hr_8]
    refine lv_istore (lv' := [(5, .int (nI 1)), (0, .ref b), (1, .ref (ad 0)), (2, .ref (ad 60)), (3, .ref (ad 99)), (4, .int (nI i))]) hx hb dL_law_998 hl (by decide) rfl (fun ls hl => ?_)
    refine lv_aload_n hx hb dL_law_1000 rfl (lv_at hl 3 rfl) ?_
    refine k_Ni (va_runV (As := []) (rest := []) ⟨hx, hb, hml, hown, hts⟩ (c_X10_question_a l G z ad M_5 (th := tw) (ln := n) (on := jn) (ao := ao) (vr := vr) (sn := sn) (tp := len) (pt := pt) (zs := zs) (bg := bg) (fa := fw) (f := tf) (tb := tb) (ak := ak) (nt := nm) (ap := ap) (pr := pr) (pf := pf) (g := g) hm_62 hm_82 hm_77 hm_78 hm_79 hm_80 hm_81 w4 w5 w6 hrd) (cwV 0 hts (gV (lwg_of t_1221 rfl) (lwg_of t_1222 rfl) (lwg_of t_1223 rfl) (lwg_of t_13 rfl) (lwg_of t_1224 rfl)) rfl rfl rfl (by decide +kernel) ⟨Nat.le_of_ble_eq_true rfl, Nat.le_of_ble_eq_true rfl⟩) (hI.preV hm_62 rfl) rfl rfl hl.1 rfl (lv_room (Nat.le_of_ble_eq_true rfl)) dL_law_1001 ⟨(show _ ≤ (601024 : Nat) from by omega), (show _ ≤ (7293034 : Nat) from by omega)⟩) hI (fun r_94 M_96 H_97 locs_98 hp_95 hI => ?_)
    obtain ⟨pt2_108, sn2_109, ak2_110, nt2_111, ap2_112, pr2_113, pf2_114, hr_99, hm_100, hm_101, hm_102, hm_103, hm_104, hm_105, hF_106, hP_107⟩ := hp_95
    have hm_115 : M_96 0 = some (cStore ad qa qs (nI g)) := by rw [hF_106 0 (by omega) (by omega) (by omega) (by omega) (by omega) (by omega)]; exact hm_9
    have hm_116 : M_96 1 = some (cTape ad 0) := by rw [hF_106 1 (by omega) (by omega) (by omega) (by omega) (by omega) (by omega)]; exact hm_10
    have hm_117 : M_96 2 = some (aI G 400 (nF tb)) := by rw [hF_106 2 (by omega) (by omega) (by omega) (by omega) (by omega) (by omega)]; exact hm_32
    have hm_118 : M_96 3 = some (cLaws ad ) := by rw [hF_106 3 (by omega) (by omega) (by omega) (by omega) (by omega) (by omega)]; exact hm_33
    have hm_119 : M_96 4 = some (aI G 36 (nF le)) := by rw [hF_106 4 (by omega) (by omega) (by omega) (by omega) (by omega) (by omega)]; exact hm_34
    have hm_120 : M_96 5 = some (aI G 36 (nF mo)) := by rw [hF_106 5 (by omega) (by omega) (by omega) (by omega) (by omega) (by omega)]; exact hm_35
    have hm_121 : M_96 6 = some (aI G 36 (nF al)) := by rw [hF_106 6 (by omega) (by omega) (by omega) (by omega) (by omega) (by omega)]; exact hm_36
    have hm_122 : M_96 7 = some (aZ G 6 (bF ho)) := by rw [hF_106 7 (by omega) (by omega) (by omega) (by omega) (by omega) (by omega)]; exact hm_37
    have hm_123 : M_96 8 = some (cOnes ad jn) := by rw [hF_106 8 (by omega) (by omega) (by omega) (by omega) (by omega) (by omega)]; exact hm_38
    have hm_124 : M_96 9 = some (aI G 40 (nF hg)) := by rw [hF_106 9 (by omega) (by omega) (by omega) (by omega) (by omega) (by omega)]; exact hm_39
    have hm_125 : M_96 10 = some (aI G 40 (nF lst)) := by rw [hF_106 10 (by omega) (by omega) (by omega) (by omega) (by omega) (by omega)]; exact hm_40
    have hm_126 : M_96 11 = some (aI G 40 (nF jd)) := by rw [hF_106 11 (by omega) (by omega) (by omega) (by omega) (by omega) (by omega)]; exact hm_41
    have hm_127 : M_96 12 = some (cEnds ad 12 s0) := by rw [hF_106 12 (by omega) (by omega) (by omega) (by omega) (by omega) (by omega)]; exact hm_42
    have hm_128 : M_96 13 = some (aI G 6 (nF r0)) := by rw [hF_106 13 (by omega) (by omega) (by omega) (by omega) (by omega) (by omega)]; exact hm_43
    have hm_129 : M_96 14 = some (aI G 6 (oF th)) := by rw [hF_106 14 (by omega) (by omega) (by omega) (by omega) (by omega) (by omega)]; exact hm_44
    have hm_130 : M_96 15 = some (aI G 6 (oF ol)) := by rw [hF_106 15 (by omega) (by omega) (by omega) (by omega) (by omega) (by omega)]; exact hm_45
    have hm_131 : M_96 19 = some (aZ G 120 (bF mm9)) := by rw [hF_106 19 (by omega) (by omega) (by omega) (by omega) (by omega) (by omega)]; exact hm_46
    have hm_132 : M_96 20 = some (aI G 120 ff) := by rw [hF_106 20 (by omega) (by omega) (by omega) (by omega) (by omega) (by omega)]; exact hm_47
    have hm_133 : M_96 21 = some (aI G 120 lq) := by rw [hF_106 21 (by omega) (by omega) (by omega) (by omega) (by omega) (by omega)]; exact hm_48
    have hm_134 : M_96 22 = some (cReader ad a2_20 g2_21 t2_22 v2_23) := by rw [hF_106 22 (by omega) (by omega) (by omega) (by omega) (by omega) (by omega)]; exact hm_11
    have hm_135 : M_96 23 = some (cMatcher ad qm pz) := by rw [hF_106 23 (by omega) (by omega) (by omega) (by omega) (by omega) (by omega)]; exact hm_49
    have hm_136 : M_96 24 = some (aJ G 2160 sx) := by rw [hF_106 24 (by omega) (by omega) (by omega) (by omega) (by omega) (by omega)]; exact hm_50
    have hm_137 : M_96 25 = some (aI G 6 (nF ft)) := by rw [hF_106 25 (by omega) (by omega) (by omega) (by omega) (by omega) (by omega)]; exact hm_51
    have hm_138 : M_96 26 = some (aJ G 240 rx) := by rw [hF_106 26 (by omega) (by omega) (by omega) (by omega) (by omega) (by omega)]; exact hm_52
    have hm_139 : M_96 27 = some (aJ G 3 dm) := by rw [hF_106 27 (by omega) (by omega) (by omega) (by omega) (by omega) (by omega)]; exact hm_53
    have hm_140 : M_96 28 = some (aI G 3 rc) := by rw [hF_106 28 (by omega) (by omega) (by omega) (by omega) (by omega) (by omega)]; exact hm_54
    have hm_141 : M_96 qa = some (cQuestion ad qa ao vr) := by rw [hF_106 qa (by omega) (by omega) (by omega) (by omega) (by omega) (by omega)]; exact hm_55
    have hm_142 : M_96 (qa + 1) = some (aI G 6 (nF kn)) := by rw [hF_106 (qa + 1) (by omega) (by omega) (by omega) (by omega) (by omega) (by omega)]; exact hm_56
    have hm_143 : M_96 (qa + 2) = some (aZ G 6 (bF nq)) := by rw [hF_106 (qa + 2) (by omega) (by omega) (by omega) (by omega) (by omega) (by omega)]; exact hm_57
    have hm_144 : M_96 (qa + 3) = some (aI G 6 (nF pn)) := by rw [hF_106 (qa + 3) (by omega) (by omega) (by omega) (by omega) (by omega) (by omega)]; exact hm_58
    have hm_145 : M_96 (qa + 4) = some (aI G 6 (nF av)) := by rw [hF_106 (qa + 4) (by omega) (by omega) (by omega) (by omega) (by omega) (by omega)]; exact hm_59
    have hm_146 : M_96 (qa + 5) = some (aI G 24 (nF ro)) := by rw [hF_106 (qa + 5) (by omega) (by omega) (by omega) (by omega) (by omega) (by omega)]; exact hm_60
    have hm_147 : M_96 (qa + 6) = some (aI G 24 (nF te)) := by rw [hF_106 (qa + 6) (by omega) (by omega) (by omega) (by omega) (by omega) (by omega)]; exact hm_61
    have hm_148 : M_96 qs = some (cQuestion ad qs q2_24 u2_25) := by rw [hF_106 qs (by omega) (by omega) (by omega) (by omega) (by omega) (by omega)]; exact hm_12
    have hm_149 : M_96 (qs + 1) = some (aI G 6 (nF kn2_26)) := by rw [hF_106 (qs + 1) (by omega) (by omega) (by omega) (by omega) (by omega) (by omega)]; exact hm_13
    have hm_150 : M_96 (qs + 2) = some (aZ G 6 (bF nt2_27)) := by rw [hF_106 (qs + 2) (by omega) (by omega) (by omega) (by omega) (by omega) (by omega)]; exact hm_14
    have hm_151 : M_96 (qs + 3) = some (aI G 6 (nF pn2_28)) := by rw [hF_106 (qs + 3) (by omega) (by omega) (by omega) (by omega) (by omega) (by omega)]; exact hm_15
    have hm_152 : M_96 (qs + 4) = some (aI G 6 (nF av2_29)) := by rw [hF_106 (qs + 4) (by omega) (by omega) (by omega) (by omega) (by omega) (by omega)]; exact hm_16
    have hm_153 : M_96 (qs + 5) = some (aI G 24 (nF ro2_30)) := by rw [hF_106 (qs + 5) (by omega) (by omega) (by omega) (by omega) (by omega) (by omega)]; exact hm_17
    have hm_154 : M_96 (qs + 6) = some (aI G 24 (nF te2_31)) := by rw [hF_106 (qs + 6) (by omega) (by omega) (by omega) (by omega) (by omega) (by omega)]; exact hm_18
    have hm_155 : M_96 61 = some (aI G 36 (nF le)) := by rw [hF_106 61 (by omega) (by omega) (by omega) (by omega) (by omega) (by omega)]; exact hm_63
    have hm_156 : M_96 62 = some (aI G 36 (nF mo)) := by rw [hF_106 62 (by omega) (by omega) (by omega) (by omega) (by omega) (by omega)]; exact hm_64
    have hm_157 : M_96 63 = some (aI G 36 (nF al)) := by rw [hF_106 63 (by omega) (by omega) (by omega) (by omega) (by omega) (by omega)]; exact hm_65
    have hm_158 : M_96 64 = some (aZ G 6 (bF ho)) := by rw [hF_106 64 (by omega) (by omega) (by omega) (by omega) (by omega) (by omega)]; exact hm_66
    have hm_159 : M_96 65 = some (aI G 120 (nF mk)) := by rw [hF_106 65 (by omega) (by omega) (by omega) (by omega) (by omega) (by omega)]; exact hm_67
    have hm_160 : M_96 66 = some (aI G 120 mf) := by rw [hF_106 66 (by omega) (by omega) (by omega) (by omega) (by omega) (by omega)]; exact hm_68
    have hm_161 : M_96 67 = some (aI G 120 mu) := by rw [hF_106 67 (by omega) (by omega) (by omega) (by omega) (by omega) (by omega)]; exact hm_69
    have hm_162 : M_96 68 = some (aI G 121 (nF mz)) := by rw [hF_106 68 (by omega) (by omega) (by omega) (by omega) (by omega) (by omega)]; exact hm_70
    have hm_163 : M_96 69 = some (aI G 726 (nF rr)) := by rw [hF_106 69 (by omega) (by omega) (by omega) (by omega) (by omega) (by omega)]; exact hm_71
    have hm_164 : M_96 70 = some (aI G 726 (nF ee)) := by rw [hF_106 70 (by omega) (by omega) (by omega) (by omega) (by omega) (by omega)]; exact hm_72
    have hm_165 : M_96 71 = some (aI G 40 (nF lst)) := by rw [hF_106 71 (by omega) (by omega) (by omega) (by omega) (by omega) (by omega)]; exact hm_73
    have hm_166 : M_96 72 = some (aI G 40 (nF oa)) := by rw [hF_106 72 (by omega) (by omega) (by omega) (by omega) (by omega) (by omega)]; exact hm_74
    have hm_167 : M_96 73 = some (aI G 40 (nF ob)) := by rw [hF_106 73 (by omega) (by omega) (by omega) (by omega) (by omega) (by omega)]; exact hm_75
    have hm_168 : M_96 74 = some (aI G 120 s74) := by rw [hF_106 74 (by omega) (by omega) (by omega) (by omega) (by omega) (by omega)]; exact hm_76
    have hm_169 : M_96 80 = some (aB G 400 tf) := by rw [hF_106 80 (by omega) (by omega) (by omega) (by omega) (by omega) (by omega)]; exact hm_82
    have hm_170 : M_96 81 = some (aI G 5 fv) := by rw [hF_106 81 (by omega) (by omega) (by omega) (by omega) (by omega) (by omega)]; exact hm_83
    have hm_171 : M_96 82 = some (aZ G 384000 (bF tr)) := by rw [hF_106 82 (by omega) (by omega) (by omega) (by omega) (by omega) (by omega)]; exact hm_84
    have hm_172 : M_96 83 = some (aI G 3 (oF gv)) := by rw [hF_106 83 (by omega) (by omega) (by omega) (by omega) (by omega) (by omega)]; exact hm_85
    have hm_173 : M_96 84 = some (aI G 3 fo) := by rw [hF_106 84 (by omega) (by omega) (by omega) (by omega) (by omega) (by omega)]; exact hm_86
    have hm_174 : M_96 85 = some (aZ G 40 (bF re)) := by rw [hF_106 85 (by omega) (by omega) (by omega) (by omega) (by omega) (by omega)]; exact hm_87
    have hm_175 : M_96 86 = some (aZ G 120 (bF us)) := by rw [hF_106 86 (by omega) (by omega) (by omega) (by omega) (by omega) (by omega)]; exact hm_88
    have hm_176 : M_96 87 = some (aZ G 120 (bF nx)) := by rw [hF_106 87 (by omega) (by omega) (by omega) (by omega) (by omega) (by omega)]; exact hm_89
    have hm_177 : M_96 99 = some (aJ G 1 of) := by rw [hF_106 99 (by omega) (by omega) (by omega) (by omega) (by omega) (by omega)]; exact hm_90
    have hm_178 : M_96 16 = some (cLines ad ) := by rw [hF_106 16 (by omega) (by omega) (by omega) (by omega) (by omega) (by omega)]; exact hm_91
    have hL_179 : LSm G ad M_96 n kd fm to sz rl en := hL_92.keep (fun j hj => hF_106 j (by omega) (by omega) (by omega) (by omega) (by omega) (by omega))
    have hF_180 : ∀ j : Nat, j ≠ 0 → j ≠ 1 → j ≠ 22 → j ≠ qs → j ≠ (qs + 1) → j ≠ (qs + 2) → j ≠ (qs + 3) → j ≠ (qs + 4) → j ≠ (qs + 5) → j ≠ (qs + 6) → j ≠ 60 → j ≠ 75 → j ≠ 76 → j ≠ 77 → j ≠ 78 → j ≠ 79 → M_96 j = M j := fun j q0 q1 q2 q3 q4 q5 q6 q7 q8 q9 q10 q11 q12 q13 q14 q15 => (hF_106 j q10 q11 q12 q13 q14 q15).trans (hF_93 j q0 q1 q2 q3 q4 q5 q6 q7 q8 q9)
    rw [hr_99]
    refine lv_istore (lv' := [(6, .int (nI 0)), (5, .int (nI 1)), (0, .ref b), (1, .ref (ad 0)), (2, .ref (ad 60)), (3, .ref (ad 99)), (4, .int (nI i))]) hx hb dL_law_1004 hl (by decide) rfl (fun ls hl => ?_)
    refine lv_aload_n hx hb dL_law_1006 rfl (lv_at hl 4 rfl) ?_
    refine k_Ri (va_runV (As := []) (rest := []) ⟨hx, hb, hml, hown, hts⟩ (c_X10_thrown l G z ad M_96 (th := 1) (ln := n) (on := jn) (ao := ao) (vr := vr) (sn := sn2_109) (tp := 0) (pt := pt2_108) (zs := len) (bg := g) (fa := nI g) hm_100) (cwV 0 hts (gV (lwg_of t_997 rfl) (lwg_of t_998 rfl) (lwg_of t_999 rfl) (lwg_of t_13 rfl) (lwg_of t_1000 rfl)) rfl rfl rfl (by decide +kernel) ⟨Nat.le_of_ble_eq_true rfl, Nat.le_of_ble_eq_true rfl⟩) (hI.preV hm_100 rfl) rfl rfl hl.1 rfl (lv_room (Nat.le_of_ble_eq_true rfl)) dL_law_1007 ⟨(show _ ≤ (601024 : Nat) from by omega), (show _ ≤ (7293034 : Nat) from by omega)⟩) (fun _ h => h) (fun r_181 hp_182 => ?_)
    rw [hp_182]
    refine lv_iload hx hb dL_law_1010 (lv_at hl 1 rfl) ?_
    refine lv_icmp_eq (tgt := 1017) hx hb dL_law_1012 (by decide) (fun c_183 => ?_) (fun c_183 => ?_)
    · -- 1012: nI 1 eq
      refine lv_iload hx hb dL_law_1017 (lv_at hl 1 rfl) ?_
      refine lv_if_ne (tgt := 1034) hx hb dL_law_1019 (by decide) (fun c_184 => ?_) (fun c_184 => ?_)
      · -- 1019: nI 1 ne
        refine lv_goto (tgt := 1333) hx hb dL_law_1034 (by decide) ?_
        refine W.widen (k := cz + 10) (n := sy + 300) (by omega) (by omega) ?_
        exact kk ad M_96 H_97 locs_98 ls n kd fm to sz rl en qa qs (nI g) 0 tb le mo al ho jn hg lst jd s0 r0 th ol e0 mm9 ff lq a2_20 g2_21 t2_22 v2_23 qm pz sx ft rx dm rc ao vr kn nq pn av ro te q2_24 u2_25 kn2_26 nt2_27 pn2_28 av2_29 ro2_30 te2_31 1 sn2_109 pt2_108 len g mk mf mu mz rr ee oa ob s74 ak2_110 nt2_111 ap2_112 pr2_113 pf2_114 tf fv tr gv fo re us nx of hL_179 w1 w2 w3 (Nat.zero_le _) (fun j9 h9 => absurd h9 (Nat.not_lt_zero j9)) (fun j9 h9 => absurd h9 (Nat.not_lt_zero j9)) w7 w8 w9 w10 w11 w12 w13 w14 w15 w16 w17 w18 w19 w20 (w21_k w19 w21 hP_107) (w22_k w19 w22 hP_107) w23 w24 w25 w26 w27 w28 w29 (fun h9 => by rw [hF_180 17 (by omega) (by omega) (by omega) (by omega) (by omega) (by omega) (by omega) (by omega) (by omega) (by omega) (by omega) (by omega) (by omega) (by omega) (by omega) (by omega), hF_180 18 (by omega) (by omega) (by omega) (by omega) (by omega) (by omega) (by omega) (by omega) (by omega) (by omega) (by omega) (by omega) (by omega) (by omega) (by omega) (by omega)]; exact w30 h9) (by rw [hF_180 29 (by omega) (by omega) (by omega) (by omega) (by omega) (by omega) (by omega) (by omega) (by omega) (by omega) (by omega) (by omega) (by omega) (by omega) (by omega) (by omega)]; exact w31) (fun j9 h9 => by rw [hF_180 j9 (by omega) (by omega) (by omega) (by omega) (by omega) (by omega) (by omega) (by omega) (by omega) (by omega) (by omega) (by omega) (by omega) (by omega) (by omega) (by omega)]; exact w32 j9 h9) hm_115 hm_116 hm_117 hm_118 hm_119 hm_120 hm_121 hm_122 hm_123 hm_124 hm_125 hm_126 hm_127 hm_128 hm_129 hm_130 hm_131 hm_132 hm_133 hm_134 hm_135 hm_136 hm_137 hm_138 hm_139 hm_140 hm_141 hm_142 hm_143 hm_144 hm_145 hm_146 hm_147 hm_148 hm_149 hm_150 hm_151 hm_152 hm_153 hm_154 hm_100 hm_155 hm_156 hm_157 hm_158 hm_159 hm_160 hm_161 hm_162 hm_163 hm_164 hm_165 hm_166 hm_167 hm_168 hm_101 hm_102 hm_103 hm_104 hm_105 hm_169 hm_170 hm_171 hm_172 hm_173 hm_174 hm_175 hm_176 hm_177 hI (lv_sub hl [2, 3, 4, 5, 6] rfl)
      · -- 1019: nI 1 eq
        exact absurd c_184 (by decide)
    · -- 1012: nI 1 ne
      exact absurd (by decide) c_183
  · skip
    refine lv_aload_n hx hb dL_law_993 rfl (lv_at hl 1 rfl) ?_
    obtain ⟨A, u, hrd⟩ := hc_2
    refine lv_aload_n hx hb dL_law_994 rfl (lv_at hl 3 rfl) ?_
    refine k_Ni (vx_runSW (As := [.ref (ad 0), .ref (ad 99)]) (rest := []) ⟨hx, hb, hml, hown, hts⟩ (c_L_question l hst G z ad M (qa := qa) (qs := qs) (fw := fw) (ra := ra) (rb := rb) (rt := rt) (rv := rv) (len := len) (tb := tb) (sq := sq) (su := su) (kn := kb) (nt := nb) (pn := pb) (av := ab) (ro := rbb) (te := tbb) (A := A) (u := u) (of := of) f_0 f_22 f_1 f_2 f_qs f_qs_1 f_qs_2 f_qs_3 f_qs_4 f_qs_5 f_qs_6 f_99 w4 w5 (by omega) hrd) (vx_cwSW 2 hts (gSW (lwg_of t_900 rfl) (lwg_of t_901 rfl) (lwg_of t_0 rfl) (lwg_of t_902 rfl)) rfl rfl rfl (by decide +kernel) ⟨Nat.le_of_ble_eq_true rfl, Nat.le_of_ble_eq_true rfl⟩) hI.preS rfl rfl hl.1 rfl (lv_room (Nat.le_of_ble_eq_true rfl)) dL_law_995 ⟨(show _ ≤ (601024 : Nat) from by omega), (show _ ≤ (7293034 : Nat) from by omega)⟩) hI (fun r_185 M_187 H_188 locs_189 hp_186 hI => ?_)
    obtain ⟨a2_204, g2_205, t2_206, v2_207, kn2_208, nt2_209, pn2_210, av2_211, ro2_212, te2_213, hr_190, hm_191, hm_192, hm_193, hm_194, hm_195, hm_196, hm_197, hm_198, hm_199, hm_200, hm_201, hF_202, hP_203⟩ := hp_186
    have hm_214 : M_187 2 = some (aI G 400 (nF tb)) := by rw [hF_202 2 (by omega) (by omega) (by omega) (by omega) (by omega) (by omega) (by omega) (by omega) (by omega) (by omega) (by omega)]; exact f_2
    have hm_215 : M_187 3 = some (cLaws ad ) := by rw [hF_202 3 (by omega) (by omega) (by omega) (by omega) (by omega) (by omega) (by omega) (by omega) (by omega) (by omega) (by omega)]; exact f_3
    have hm_216 : M_187 4 = some (aI G 36 (nF le)) := by rw [hF_202 4 (by omega) (by omega) (by omega) (by omega) (by omega) (by omega) (by omega) (by omega) (by omega) (by omega) (by omega)]; exact f_4
    have hm_217 : M_187 5 = some (aI G 36 (nF mo)) := by rw [hF_202 5 (by omega) (by omega) (by omega) (by omega) (by omega) (by omega) (by omega) (by omega) (by omega) (by omega) (by omega)]; exact f_5
    have hm_218 : M_187 6 = some (aI G 36 (nF al)) := by rw [hF_202 6 (by omega) (by omega) (by omega) (by omega) (by omega) (by omega) (by omega) (by omega) (by omega) (by omega) (by omega)]; exact f_6
    have hm_219 : M_187 7 = some (aZ G 6 (bF ho)) := by rw [hF_202 7 (by omega) (by omega) (by omega) (by omega) (by omega) (by omega) (by omega) (by omega) (by omega) (by omega) (by omega)]; exact f_7
    have hm_220 : M_187 8 = some (cOnes ad jn) := by rw [hF_202 8 (by omega) (by omega) (by omega) (by omega) (by omega) (by omega) (by omega) (by omega) (by omega) (by omega) (by omega)]; exact f_8
    have hm_221 : M_187 9 = some (aI G 40 (nF hg)) := by rw [hF_202 9 (by omega) (by omega) (by omega) (by omega) (by omega) (by omega) (by omega) (by omega) (by omega) (by omega) (by omega)]; exact f_9
    have hm_222 : M_187 10 = some (aI G 40 (nF lst)) := by rw [hF_202 10 (by omega) (by omega) (by omega) (by omega) (by omega) (by omega) (by omega) (by omega) (by omega) (by omega) (by omega)]; exact f_10
    have hm_223 : M_187 11 = some (aI G 40 (nF jd)) := by rw [hF_202 11 (by omega) (by omega) (by omega) (by omega) (by omega) (by omega) (by omega) (by omega) (by omega) (by omega) (by omega)]; exact f_11
    have hm_224 : M_187 12 = some (cEnds ad 12 s0) := by rw [hF_202 12 (by omega) (by omega) (by omega) (by omega) (by omega) (by omega) (by omega) (by omega) (by omega) (by omega) (by omega)]; exact f_12
    have hm_225 : M_187 13 = some (aI G 6 (nF r0)) := by rw [hF_202 13 (by omega) (by omega) (by omega) (by omega) (by omega) (by omega) (by omega) (by omega) (by omega) (by omega) (by omega)]; exact f_13
    have hm_226 : M_187 14 = some (aI G 6 (oF th)) := by rw [hF_202 14 (by omega) (by omega) (by omega) (by omega) (by omega) (by omega) (by omega) (by omega) (by omega) (by omega) (by omega)]; exact f_14
    have hm_227 : M_187 15 = some (aI G 6 (oF ol)) := by rw [hF_202 15 (by omega) (by omega) (by omega) (by omega) (by omega) (by omega) (by omega) (by omega) (by omega) (by omega) (by omega)]; exact f_15
    have hm_228 : M_187 19 = some (aZ G 120 (bF mm9)) := by rw [hF_202 19 (by omega) (by omega) (by omega) (by omega) (by omega) (by omega) (by omega) (by omega) (by omega) (by omega) (by omega)]; exact f_19
    have hm_229 : M_187 20 = some (aI G 120 ff) := by rw [hF_202 20 (by omega) (by omega) (by omega) (by omega) (by omega) (by omega) (by omega) (by omega) (by omega) (by omega) (by omega)]; exact f_20
    have hm_230 : M_187 21 = some (aI G 120 lq) := by rw [hF_202 21 (by omega) (by omega) (by omega) (by omega) (by omega) (by omega) (by omega) (by omega) (by omega) (by omega) (by omega)]; exact f_21
    have hm_231 : M_187 23 = some (cMatcher ad qm pz) := by rw [hF_202 23 (by omega) (by omega) (by omega) (by omega) (by omega) (by omega) (by omega) (by omega) (by omega) (by omega) (by omega)]; exact f_23
    have hm_232 : M_187 24 = some (aJ G 2160 sx) := by rw [hF_202 24 (by omega) (by omega) (by omega) (by omega) (by omega) (by omega) (by omega) (by omega) (by omega) (by omega) (by omega)]; exact f_24
    have hm_233 : M_187 25 = some (aI G 6 (nF ft)) := by rw [hF_202 25 (by omega) (by omega) (by omega) (by omega) (by omega) (by omega) (by omega) (by omega) (by omega) (by omega) (by omega)]; exact f_25
    have hm_234 : M_187 26 = some (aJ G 240 rx) := by rw [hF_202 26 (by omega) (by omega) (by omega) (by omega) (by omega) (by omega) (by omega) (by omega) (by omega) (by omega) (by omega)]; exact f_26
    have hm_235 : M_187 27 = some (aJ G 3 dm) := by rw [hF_202 27 (by omega) (by omega) (by omega) (by omega) (by omega) (by omega) (by omega) (by omega) (by omega) (by omega) (by omega)]; exact f_27
    have hm_236 : M_187 28 = some (aI G 3 rc) := by rw [hF_202 28 (by omega) (by omega) (by omega) (by omega) (by omega) (by omega) (by omega) (by omega) (by omega) (by omega) (by omega)]; exact f_28
    have hm_237 : M_187 qa = some (cQuestion ad qa ao vr) := by rw [hF_202 qa (by omega) (by omega) (by omega) (by omega) (by omega) (by omega) (by omega) (by omega) (by omega) (by omega) (by omega)]; exact f_qa
    have hm_238 : M_187 (qa + 1) = some (aI G 6 (nF kn)) := by rw [hF_202 (qa + 1) (by omega) (by omega) (by omega) (by omega) (by omega) (by omega) (by omega) (by omega) (by omega) (by omega) (by omega)]; exact f_qa_1
    have hm_239 : M_187 (qa + 2) = some (aZ G 6 (bF nq)) := by rw [hF_202 (qa + 2) (by omega) (by omega) (by omega) (by omega) (by omega) (by omega) (by omega) (by omega) (by omega) (by omega) (by omega)]; exact f_qa_2
    have hm_240 : M_187 (qa + 3) = some (aI G 6 (nF pn)) := by rw [hF_202 (qa + 3) (by omega) (by omega) (by omega) (by omega) (by omega) (by omega) (by omega) (by omega) (by omega) (by omega) (by omega)]; exact f_qa_3
    have hm_241 : M_187 (qa + 4) = some (aI G 6 (nF av)) := by rw [hF_202 (qa + 4) (by omega) (by omega) (by omega) (by omega) (by omega) (by omega) (by omega) (by omega) (by omega) (by omega) (by omega)]; exact f_qa_4
    have hm_242 : M_187 (qa + 5) = some (aI G 24 (nF ro)) := by rw [hF_202 (qa + 5) (by omega) (by omega) (by omega) (by omega) (by omega) (by omega) (by omega) (by omega) (by omega) (by omega) (by omega)]; exact f_qa_5
    have hm_243 : M_187 (qa + 6) = some (aI G 24 (nF te)) := by rw [hF_202 (qa + 6) (by omega) (by omega) (by omega) (by omega) (by omega) (by omega) (by omega) (by omega) (by omega) (by omega) (by omega)]; exact f_qa_6
    have hm_244 : M_187 60 = some (cModel ad tw n jn ao vr sn len pt zs bg fw) := by rw [hF_202 60 (by omega) (by omega) (by omega) (by omega) (by omega) (by omega) (by omega) (by omega) (by omega) (by omega) (by omega)]; exact f_60
    have hm_245 : M_187 61 = some (aI G 36 (nF le)) := by rw [hF_202 61 (by omega) (by omega) (by omega) (by omega) (by omega) (by omega) (by omega) (by omega) (by omega) (by omega) (by omega)]; exact f_61
    have hm_246 : M_187 62 = some (aI G 36 (nF mo)) := by rw [hF_202 62 (by omega) (by omega) (by omega) (by omega) (by omega) (by omega) (by omega) (by omega) (by omega) (by omega) (by omega)]; exact f_62
    have hm_247 : M_187 63 = some (aI G 36 (nF al)) := by rw [hF_202 63 (by omega) (by omega) (by omega) (by omega) (by omega) (by omega) (by omega) (by omega) (by omega) (by omega) (by omega)]; exact f_63
    have hm_248 : M_187 64 = some (aZ G 6 (bF ho)) := by rw [hF_202 64 (by omega) (by omega) (by omega) (by omega) (by omega) (by omega) (by omega) (by omega) (by omega) (by omega) (by omega)]; exact f_64
    have hm_249 : M_187 65 = some (aI G 120 (nF mk)) := by rw [hF_202 65 (by omega) (by omega) (by omega) (by omega) (by omega) (by omega) (by omega) (by omega) (by omega) (by omega) (by omega)]; exact f_65
    have hm_250 : M_187 66 = some (aI G 120 mf) := by rw [hF_202 66 (by omega) (by omega) (by omega) (by omega) (by omega) (by omega) (by omega) (by omega) (by omega) (by omega) (by omega)]; exact f_66
    have hm_251 : M_187 67 = some (aI G 120 mu) := by rw [hF_202 67 (by omega) (by omega) (by omega) (by omega) (by omega) (by omega) (by omega) (by omega) (by omega) (by omega) (by omega)]; exact f_67
    have hm_252 : M_187 68 = some (aI G 121 (nF mz)) := by rw [hF_202 68 (by omega) (by omega) (by omega) (by omega) (by omega) (by omega) (by omega) (by omega) (by omega) (by omega) (by omega)]; exact f_68
    have hm_253 : M_187 69 = some (aI G 726 (nF rr)) := by rw [hF_202 69 (by omega) (by omega) (by omega) (by omega) (by omega) (by omega) (by omega) (by omega) (by omega) (by omega) (by omega)]; exact f_69
    have hm_254 : M_187 70 = some (aI G 726 (nF ee)) := by rw [hF_202 70 (by omega) (by omega) (by omega) (by omega) (by omega) (by omega) (by omega) (by omega) (by omega) (by omega) (by omega)]; exact f_70
    have hm_255 : M_187 71 = some (aI G 40 (nF lst)) := by rw [hF_202 71 (by omega) (by omega) (by omega) (by omega) (by omega) (by omega) (by omega) (by omega) (by omega) (by omega) (by omega)]; exact f_71
    have hm_256 : M_187 72 = some (aI G 40 (nF oa)) := by rw [hF_202 72 (by omega) (by omega) (by omega) (by omega) (by omega) (by omega) (by omega) (by omega) (by omega) (by omega) (by omega)]; exact f_72
    have hm_257 : M_187 73 = some (aI G 40 (nF ob)) := by rw [hF_202 73 (by omega) (by omega) (by omega) (by omega) (by omega) (by omega) (by omega) (by omega) (by omega) (by omega) (by omega)]; exact f_73
    have hm_258 : M_187 74 = some (aI G 120 s74) := by rw [hF_202 74 (by omega) (by omega) (by omega) (by omega) (by omega) (by omega) (by omega) (by omega) (by omega) (by omega) (by omega)]; exact f_74
    have hm_259 : M_187 75 = some (aI G 12 ak) := by rw [hF_202 75 (by omega) (by omega) (by omega) (by omega) (by omega) (by omega) (by omega) (by omega) (by omega) (by omega) (by omega)]; exact f_75
    have hm_260 : M_187 76 = some (aZ G 12 (bF nm)) := by rw [hF_202 76 (by omega) (by omega) (by omega) (by omega) (by omega) (by omega) (by omega) (by omega) (by omega) (by omega) (by omega)]; exact f_76
    have hm_261 : M_187 77 = some (aI G 12 (nF ap)) := by rw [hF_202 77 (by omega) (by omega) (by omega) (by omega) (by omega) (by omega) (by omega) (by omega) (by omega) (by omega) (by omega)]; exact f_77
    have hm_262 : M_187 78 = some (aI G 48 pr) := by rw [hF_202 78 (by omega) (by omega) (by omega) (by omega) (by omega) (by omega) (by omega) (by omega) (by omega) (by omega) (by omega)]; exact f_78
    have hm_263 : M_187 79 = some (aI G 48 pf) := by rw [hF_202 79 (by omega) (by omega) (by omega) (by omega) (by omega) (by omega) (by omega) (by omega) (by omega) (by omega) (by omega)]; exact f_79
    have hm_264 : M_187 80 = some (aB G 400 tf) := by rw [hF_202 80 (by omega) (by omega) (by omega) (by omega) (by omega) (by omega) (by omega) (by omega) (by omega) (by omega) (by omega)]; exact f_80
    have hm_265 : M_187 81 = some (aI G 5 fv) := by rw [hF_202 81 (by omega) (by omega) (by omega) (by omega) (by omega) (by omega) (by omega) (by omega) (by omega) (by omega) (by omega)]; exact f_81
    have hm_266 : M_187 82 = some (aZ G 384000 (bF tr)) := by rw [hF_202 82 (by omega) (by omega) (by omega) (by omega) (by omega) (by omega) (by omega) (by omega) (by omega) (by omega) (by omega)]; exact f_82
    have hm_267 : M_187 83 = some (aI G 3 (oF gv)) := by rw [hF_202 83 (by omega) (by omega) (by omega) (by omega) (by omega) (by omega) (by omega) (by omega) (by omega) (by omega) (by omega)]; exact f_83
    have hm_268 : M_187 84 = some (aI G 3 fo) := by rw [hF_202 84 (by omega) (by omega) (by omega) (by omega) (by omega) (by omega) (by omega) (by omega) (by omega) (by omega) (by omega)]; exact f_84
    have hm_269 : M_187 85 = some (aZ G 40 (bF re)) := by rw [hF_202 85 (by omega) (by omega) (by omega) (by omega) (by omega) (by omega) (by omega) (by omega) (by omega) (by omega) (by omega)]; exact f_85
    have hm_270 : M_187 86 = some (aZ G 120 (bF us)) := by rw [hF_202 86 (by omega) (by omega) (by omega) (by omega) (by omega) (by omega) (by omega) (by omega) (by omega) (by omega) (by omega)]; exact f_86
    have hm_271 : M_187 87 = some (aZ G 120 (bF nx)) := by rw [hF_202 87 (by omega) (by omega) (by omega) (by omega) (by omega) (by omega) (by omega) (by omega) (by omega) (by omega) (by omega)]; exact f_87
    have hm_272 : M_187 16 = some (cLines ad ) := by rw [hF_202 16 (by omega) (by omega) (by omega) (by omega) (by omega) (by omega) (by omega) (by omega) (by omega) (by omega) (by omega)]; exact h16
    have hL_273 : LSm G ad M_187 n kd fm to sz rl en := fL.keep (fun j hj => hF_202 j (by omega) (by omega) (by omega) (by omega) (by omega) (by omega) (by omega) (by omega) (by omega) (by omega) (by omega))
    have hF_274 : ∀ j : Nat, j ≠ 0 → j ≠ 1 → j ≠ 22 → j ≠ qs → j ≠ (qs + 1) → j ≠ (qs + 2) → j ≠ (qs + 3) → j ≠ (qs + 4) → j ≠ (qs + 5) → j ≠ (qs + 6) → j ≠ 99 → M_187 j = M j := fun j q0 q1 q2 q3 q4 q5 q6 q7 q8 q9 q10 => (hF_202 j q0 q1 q2 q3 q4 q5 q6 q7 q8 q9 q10)
    rw [hr_190]
    refine lv_istore (lv' := [(5, .int (nI 0)), (0, .ref b), (1, .ref (ad 0)), (2, .ref (ad 60)), (3, .ref (ad 99)), (4, .int (nI i))]) hx hb dL_law_998 hl (by decide) rfl (fun ls hl => ?_)
    refine lv_aload_n hx hb dL_law_1000 rfl (lv_at hl 3 rfl) ?_
    refine k_Ni (va_runV (As := []) (rest := []) ⟨hx, hb, hml, hown, hts⟩ (c_X10_question l G z ad M_187 (th := tw) (ln := n) (on := jn) (ao := ao) (vr := vr) (sn := sn) (tp := len) (pt := pt) (zs := zs) (bg := bg) (fa := fw) (f := tf) (tb := tb) (ak := ak) (nt := nm) (ap := ap) (pr := pr) (pf := pf) (A := A) (u := u) hm_244 hm_264 hm_259 hm_260 hm_261 hm_262 hm_263 w4 w5 w6 hrd) (cwV 0 hts (gV (lwg_of t_1221 rfl) (lwg_of t_1222 rfl) (lwg_of t_1223 rfl) (lwg_of t_13 rfl) (lwg_of t_1224 rfl)) rfl rfl rfl (by decide +kernel) ⟨Nat.le_of_ble_eq_true rfl, Nat.le_of_ble_eq_true rfl⟩) (hI.preV hm_244 rfl) rfl rfl hl.1 rfl (lv_room (Nat.le_of_ble_eq_true rfl)) dL_law_1001 ⟨(show _ ≤ (601024 : Nat) from by omega), (show _ ≤ (7293034 : Nat) from by omega)⟩) hI (fun r_275 M_277 H_278 locs_279 hp_276 hI => ?_)
    obtain ⟨pt2_289, bg2_290, ak2_291, nt2_292, ap2_293, pr2_294, pf2_295, hr_280, hm_281, hm_282, hm_283, hm_284, hm_285, hm_286, hF_287, hP_288⟩ := hp_276
    have hm_296 : M_277 0 = some (cStore ad qs qa (-1)) := by rw [hF_287 0 (by omega) (by omega) (by omega) (by omega) (by omega) (by omega)]; exact hm_191
    have hm_297 : M_277 1 = some (cTape ad 0) := by rw [hF_287 1 (by omega) (by omega) (by omega) (by omega) (by omega) (by omega)]; exact hm_192
    have hm_298 : M_277 2 = some (aI G 400 (nF tb)) := by rw [hF_287 2 (by omega) (by omega) (by omega) (by omega) (by omega) (by omega)]; exact hm_214
    have hm_299 : M_277 3 = some (cLaws ad ) := by rw [hF_287 3 (by omega) (by omega) (by omega) (by omega) (by omega) (by omega)]; exact hm_215
    have hm_300 : M_277 4 = some (aI G 36 (nF le)) := by rw [hF_287 4 (by omega) (by omega) (by omega) (by omega) (by omega) (by omega)]; exact hm_216
    have hm_301 : M_277 5 = some (aI G 36 (nF mo)) := by rw [hF_287 5 (by omega) (by omega) (by omega) (by omega) (by omega) (by omega)]; exact hm_217
    have hm_302 : M_277 6 = some (aI G 36 (nF al)) := by rw [hF_287 6 (by omega) (by omega) (by omega) (by omega) (by omega) (by omega)]; exact hm_218
    have hm_303 : M_277 7 = some (aZ G 6 (bF ho)) := by rw [hF_287 7 (by omega) (by omega) (by omega) (by omega) (by omega) (by omega)]; exact hm_219
    have hm_304 : M_277 8 = some (cOnes ad jn) := by rw [hF_287 8 (by omega) (by omega) (by omega) (by omega) (by omega) (by omega)]; exact hm_220
    have hm_305 : M_277 9 = some (aI G 40 (nF hg)) := by rw [hF_287 9 (by omega) (by omega) (by omega) (by omega) (by omega) (by omega)]; exact hm_221
    have hm_306 : M_277 10 = some (aI G 40 (nF lst)) := by rw [hF_287 10 (by omega) (by omega) (by omega) (by omega) (by omega) (by omega)]; exact hm_222
    have hm_307 : M_277 11 = some (aI G 40 (nF jd)) := by rw [hF_287 11 (by omega) (by omega) (by omega) (by omega) (by omega) (by omega)]; exact hm_223
    have hm_308 : M_277 12 = some (cEnds ad 12 s0) := by rw [hF_287 12 (by omega) (by omega) (by omega) (by omega) (by omega) (by omega)]; exact hm_224
    have hm_309 : M_277 13 = some (aI G 6 (nF r0)) := by rw [hF_287 13 (by omega) (by omega) (by omega) (by omega) (by omega) (by omega)]; exact hm_225
    have hm_310 : M_277 14 = some (aI G 6 (oF th)) := by rw [hF_287 14 (by omega) (by omega) (by omega) (by omega) (by omega) (by omega)]; exact hm_226
    have hm_311 : M_277 15 = some (aI G 6 (oF ol)) := by rw [hF_287 15 (by omega) (by omega) (by omega) (by omega) (by omega) (by omega)]; exact hm_227
    have hm_312 : M_277 19 = some (aZ G 120 (bF mm9)) := by rw [hF_287 19 (by omega) (by omega) (by omega) (by omega) (by omega) (by omega)]; exact hm_228
    have hm_313 : M_277 20 = some (aI G 120 ff) := by rw [hF_287 20 (by omega) (by omega) (by omega) (by omega) (by omega) (by omega)]; exact hm_229
    have hm_314 : M_277 21 = some (aI G 120 lq) := by rw [hF_287 21 (by omega) (by omega) (by omega) (by omega) (by omega) (by omega)]; exact hm_230
    have hm_315 : M_277 22 = some (cReader ad a2_204 g2_205 t2_206 v2_207) := by rw [hF_287 22 (by omega) (by omega) (by omega) (by omega) (by omega) (by omega)]; exact hm_193
    have hm_316 : M_277 23 = some (cMatcher ad qm pz) := by rw [hF_287 23 (by omega) (by omega) (by omega) (by omega) (by omega) (by omega)]; exact hm_231
    have hm_317 : M_277 24 = some (aJ G 2160 sx) := by rw [hF_287 24 (by omega) (by omega) (by omega) (by omega) (by omega) (by omega)]; exact hm_232
    have hm_318 : M_277 25 = some (aI G 6 (nF ft)) := by rw [hF_287 25 (by omega) (by omega) (by omega) (by omega) (by omega) (by omega)]; exact hm_233
    have hm_319 : M_277 26 = some (aJ G 240 rx) := by rw [hF_287 26 (by omega) (by omega) (by omega) (by omega) (by omega) (by omega)]; exact hm_234
    have hm_320 : M_277 27 = some (aJ G 3 dm) := by rw [hF_287 27 (by omega) (by omega) (by omega) (by omega) (by omega) (by omega)]; exact hm_235
    have hm_321 : M_277 28 = some (aI G 3 rc) := by rw [hF_287 28 (by omega) (by omega) (by omega) (by omega) (by omega) (by omega)]; exact hm_236
    have hm_322 : M_277 qa = some (cQuestion ad qa ao vr) := by rw [hF_287 qa (by omega) (by omega) (by omega) (by omega) (by omega) (by omega)]; exact hm_237
    have hm_323 : M_277 (qa + 1) = some (aI G 6 (nF kn)) := by rw [hF_287 (qa + 1) (by omega) (by omega) (by omega) (by omega) (by omega) (by omega)]; exact hm_238
    have hm_324 : M_277 (qa + 2) = some (aZ G 6 (bF nq)) := by rw [hF_287 (qa + 2) (by omega) (by omega) (by omega) (by omega) (by omega) (by omega)]; exact hm_239
    have hm_325 : M_277 (qa + 3) = some (aI G 6 (nF pn)) := by rw [hF_287 (qa + 3) (by omega) (by omega) (by omega) (by omega) (by omega) (by omega)]; exact hm_240
    have hm_326 : M_277 (qa + 4) = some (aI G 6 (nF av)) := by rw [hF_287 (qa + 4) (by omega) (by omega) (by omega) (by omega) (by omega) (by omega)]; exact hm_241
    have hm_327 : M_277 (qa + 5) = some (aI G 24 (nF ro)) := by rw [hF_287 (qa + 5) (by omega) (by omega) (by omega) (by omega) (by omega) (by omega)]; exact hm_242
    have hm_328 : M_277 (qa + 6) = some (aI G 24 (nF te)) := by rw [hF_287 (qa + 6) (by omega) (by omega) (by omega) (by omega) (by omega) (by omega)]; exact hm_243
    have hm_329 : M_277 qs = some (cQuestion ad qs A.length u) := by rw [hF_287 qs (by omega) (by omega) (by omega) (by omega) (by omega) (by omega)]; exact hm_194
    have hm_330 : M_277 (qs + 1) = some (aI G 6 (nF kn2_208)) := by rw [hF_287 (qs + 1) (by omega) (by omega) (by omega) (by omega) (by omega) (by omega)]; exact hm_195
    have hm_331 : M_277 (qs + 2) = some (aZ G 6 (bF nt2_209)) := by rw [hF_287 (qs + 2) (by omega) (by omega) (by omega) (by omega) (by omega) (by omega)]; exact hm_196
    have hm_332 : M_277 (qs + 3) = some (aI G 6 (nF pn2_210)) := by rw [hF_287 (qs + 3) (by omega) (by omega) (by omega) (by omega) (by omega) (by omega)]; exact hm_197
    have hm_333 : M_277 (qs + 4) = some (aI G 6 (nF av2_211)) := by rw [hF_287 (qs + 4) (by omega) (by omega) (by omega) (by omega) (by omega) (by omega)]; exact hm_198
    have hm_334 : M_277 (qs + 5) = some (aI G 24 (nF ro2_212)) := by rw [hF_287 (qs + 5) (by omega) (by omega) (by omega) (by omega) (by omega) (by omega)]; exact hm_199
    have hm_335 : M_277 (qs + 6) = some (aI G 24 (nF te2_213)) := by rw [hF_287 (qs + 6) (by omega) (by omega) (by omega) (by omega) (by omega) (by omega)]; exact hm_200
    have hm_336 : M_277 61 = some (aI G 36 (nF le)) := by rw [hF_287 61 (by omega) (by omega) (by omega) (by omega) (by omega) (by omega)]; exact hm_245
    have hm_337 : M_277 62 = some (aI G 36 (nF mo)) := by rw [hF_287 62 (by omega) (by omega) (by omega) (by omega) (by omega) (by omega)]; exact hm_246
    have hm_338 : M_277 63 = some (aI G 36 (nF al)) := by rw [hF_287 63 (by omega) (by omega) (by omega) (by omega) (by omega) (by omega)]; exact hm_247
    have hm_339 : M_277 64 = some (aZ G 6 (bF ho)) := by rw [hF_287 64 (by omega) (by omega) (by omega) (by omega) (by omega) (by omega)]; exact hm_248
    have hm_340 : M_277 65 = some (aI G 120 (nF mk)) := by rw [hF_287 65 (by omega) (by omega) (by omega) (by omega) (by omega) (by omega)]; exact hm_249
    have hm_341 : M_277 66 = some (aI G 120 mf) := by rw [hF_287 66 (by omega) (by omega) (by omega) (by omega) (by omega) (by omega)]; exact hm_250
    have hm_342 : M_277 67 = some (aI G 120 mu) := by rw [hF_287 67 (by omega) (by omega) (by omega) (by omega) (by omega) (by omega)]; exact hm_251
    have hm_343 : M_277 68 = some (aI G 121 (nF mz)) := by rw [hF_287 68 (by omega) (by omega) (by omega) (by omega) (by omega) (by omega)]; exact hm_252
    have hm_344 : M_277 69 = some (aI G 726 (nF rr)) := by rw [hF_287 69 (by omega) (by omega) (by omega) (by omega) (by omega) (by omega)]; exact hm_253
    have hm_345 : M_277 70 = some (aI G 726 (nF ee)) := by rw [hF_287 70 (by omega) (by omega) (by omega) (by omega) (by omega) (by omega)]; exact hm_254
    have hm_346 : M_277 71 = some (aI G 40 (nF lst)) := by rw [hF_287 71 (by omega) (by omega) (by omega) (by omega) (by omega) (by omega)]; exact hm_255
    have hm_347 : M_277 72 = some (aI G 40 (nF oa)) := by rw [hF_287 72 (by omega) (by omega) (by omega) (by omega) (by omega) (by omega)]; exact hm_256
    have hm_348 : M_277 73 = some (aI G 40 (nF ob)) := by rw [hF_287 73 (by omega) (by omega) (by omega) (by omega) (by omega) (by omega)]; exact hm_257
    have hm_349 : M_277 74 = some (aI G 120 s74) := by rw [hF_287 74 (by omega) (by omega) (by omega) (by omega) (by omega) (by omega)]; exact hm_258
    have hm_350 : M_277 80 = some (aB G 400 tf) := by rw [hF_287 80 (by omega) (by omega) (by omega) (by omega) (by omega) (by omega)]; exact hm_264
    have hm_351 : M_277 81 = some (aI G 5 fv) := by rw [hF_287 81 (by omega) (by omega) (by omega) (by omega) (by omega) (by omega)]; exact hm_265
    have hm_352 : M_277 82 = some (aZ G 384000 (bF tr)) := by rw [hF_287 82 (by omega) (by omega) (by omega) (by omega) (by omega) (by omega)]; exact hm_266
    have hm_353 : M_277 83 = some (aI G 3 (oF gv)) := by rw [hF_287 83 (by omega) (by omega) (by omega) (by omega) (by omega) (by omega)]; exact hm_267
    have hm_354 : M_277 84 = some (aI G 3 fo) := by rw [hF_287 84 (by omega) (by omega) (by omega) (by omega) (by omega) (by omega)]; exact hm_268
    have hm_355 : M_277 85 = some (aZ G 40 (bF re)) := by rw [hF_287 85 (by omega) (by omega) (by omega) (by omega) (by omega) (by omega)]; exact hm_269
    have hm_356 : M_277 86 = some (aZ G 120 (bF us)) := by rw [hF_287 86 (by omega) (by omega) (by omega) (by omega) (by omega) (by omega)]; exact hm_270
    have hm_357 : M_277 87 = some (aZ G 120 (bF nx)) := by rw [hF_287 87 (by omega) (by omega) (by omega) (by omega) (by omega) (by omega)]; exact hm_271
    have hm_358 : M_277 99 = some (aJ G 1 (vp_updL of 0 ((nI A.length).toInt64))) := by rw [hF_287 99 (by omega) (by omega) (by omega) (by omega) (by omega) (by omega)]; exact hm_201
    have hm_359 : M_277 16 = some (cLines ad ) := by rw [hF_287 16 (by omega) (by omega) (by omega) (by omega) (by omega) (by omega)]; exact hm_272
    have hL_360 : LSm G ad M_277 n kd fm to sz rl en := hL_273.keep (fun j hj => hF_287 j (by omega) (by omega) (by omega) (by omega) (by omega) (by omega))
    have hF_361 : ∀ j : Nat, j ≠ 0 → j ≠ 1 → j ≠ 22 → j ≠ qs → j ≠ (qs + 1) → j ≠ (qs + 2) → j ≠ (qs + 3) → j ≠ (qs + 4) → j ≠ (qs + 5) → j ≠ (qs + 6) → j ≠ 99 → j ≠ 60 → j ≠ 75 → j ≠ 76 → j ≠ 77 → j ≠ 78 → j ≠ 79 → M_277 j = M j := fun j q0 q1 q2 q3 q4 q5 q6 q7 q8 q9 q10 q11 q12 q13 q14 q15 q16 => (hF_287 j q11 q12 q13 q14 q15 q16).trans (hF_274 j q0 q1 q2 q3 q4 q5 q6 q7 q8 q9 q10)
    rw [hr_280]
    refine lv_istore (lv' := [(6, .int (nI A.length)), (5, .int (nI 0)), (0, .ref b), (1, .ref (ad 0)), (2, .ref (ad 60)), (3, .ref (ad 99)), (4, .int (nI i))]) hx hb dL_law_1004 hl (by decide) rfl (fun ls hl => ?_)
    refine lv_aload_n hx hb dL_law_1006 rfl (lv_at hl 4 rfl) ?_
    refine k_Ri (va_runV (As := []) (rest := []) ⟨hx, hb, hml, hown, hts⟩ (c_X10_thrown l G z ad M_277 (th := 0) (ln := n) (on := jn) (ao := A.length) (vr := u) (sn := u) (tp := 0) (pt := pt2_289) (zs := len) (bg := bg2_290) (fa := (-1)) hm_281) (cwV 0 hts (gV (lwg_of t_997 rfl) (lwg_of t_998 rfl) (lwg_of t_999 rfl) (lwg_of t_13 rfl) (lwg_of t_1000 rfl)) rfl rfl rfl (by decide +kernel) ⟨Nat.le_of_ble_eq_true rfl, Nat.le_of_ble_eq_true rfl⟩) (hI.preV hm_281 rfl) rfl rfl hl.1 rfl (lv_room (Nat.le_of_ble_eq_true rfl)) dL_law_1007 ⟨(show _ ≤ (601024 : Nat) from by omega), (show _ ≤ (7293034 : Nat) from by omega)⟩) (fun _ h => h) (fun r_362 hp_363 => ?_)
    rw [hp_363]
    refine lv_iload hx hb dL_law_1010 (lv_at hl 1 rfl) ?_
    refine lv_icmp_eq (tgt := 1017) hx hb dL_law_1012 (by decide) (fun c_364 => ?_) (fun c_364 => ?_)
    · -- 1012: nI 0 eq
      refine lv_iload hx hb dL_law_1017 (lv_at hl 1 rfl) ?_
      refine lv_if_ne (tgt := 1034) hx hb dL_law_1019 (by decide) (fun c_365 => ?_) (fun c_365 => ?_)
      · -- 1019: nI 0 ne
        exact absurd (by decide) c_365
      · -- 1019: nI 0 eq
        refine lv_aload_n hx hb dL_law_1022 rfl (lv_at hl 5 rfl) ?_
        refine lv_iconst (v := nI 0) hx hb dL_law_1023 (by decide) ?_
        refine h_lald (i := 0) hx hb hI hm_358 (by omega) (by decide) dL_law_1024 ?_
        refine n_eql (show _ = (nI A.length).toInt64 from updL_0) ?_
        refine lv_iload hx hb dL_law_1025 (lv_at hl 0 rfl) ?_
        refine lv_i2l (v := (nI A.length).toInt64) hx hb dL_law_1027 rfl ?_
        refine W.lcmp hx hb dL_law_1028 ?_
        refine lv_if_eq (tgt := 1034) hx hb dL_law_1029 (by decide) (fun c_366 => ?_) (fun c_366 => ?_)
        · -- 1029: lg_cmp ((nI A.length).toInt64) ((nI A.length).toInt64) eq
          have c_366 : (nI A.length).toInt64 = (nI A.length).toInt64 := (lg_cmp_eq _ _).mp c_366
          refine lv_goto (tgt := 1333) hx hb dL_law_1034 (by decide) ?_
          refine W.widen (k := cz + 10) (n := sy + 300) (by omega) (by omega) ?_
          exact kk ad M_277 H_278 locs_279 ls n kd fm to sz rl en qs qa (-1) 0 tb le mo al ho jn hg lst jd s0 r0 th ol e0 mm9 ff lq a2_204 g2_205 t2_206 v2_207 qm pz sx ft rx dm rc A.length u kn2_208 nt2_209 pn2_210 av2_211 ro2_212 te2_213 ao vr kn nq pn av ro te 0 u pt2_289 len bg2_290 mk mf mu mz rr ee oa ob s74 ak2_291 nt2_292 ap2_293 pr2_294 pf2_295 tf fv tr gv fo re us nx (vp_updL of 0 ((nI A.length).toInt64)) hL_360 w1 w2 w3 (Nat.zero_le _) (fun j9 h9 => absurd h9 (Nat.not_lt_zero j9)) (fun j9 h9 => absurd h9 (Nat.not_lt_zero j9)) w7 w8 w9 w10 w11 w12 w13 w14 w15 w16 w17 w18 hP_203.2.1.2 hP_203.1 (q21 hP_203.2.2 hP_288.2.2) (q22 hP_203.2.2 hP_288.2.2) (q23 hP_203.2.2) (q24 hP_203.2.2) (hpos_of hrd hP_203.2.2) w27 w26 w28.symm w29 (fun h9 => by rw [hF_361 17 (by omega) (by omega) (by omega) (by omega) (by omega) (by omega) (by omega) (by omega) (by omega) (by omega) (by omega) (by omega) (by omega) (by omega) (by omega) (by omega) (by omega), hF_361 18 (by omega) (by omega) (by omega) (by omega) (by omega) (by omega) (by omega) (by omega) (by omega) (by omega) (by omega) (by omega) (by omega) (by omega) (by omega) (by omega) (by omega)]; exact w30 h9) (by rw [hF_361 29 (by omega) (by omega) (by omega) (by omega) (by omega) (by omega) (by omega) (by omega) (by omega) (by omega) (by omega) (by omega) (by omega) (by omega) (by omega) (by omega) (by omega)]; exact w31) (fun j9 h9 => by rw [hF_361 j9 (by omega) (by omega) (by omega) (by omega) (by omega) (by omega) (by omega) (by omega) (by omega) (by omega) (by omega) (by omega) (by omega) (by omega) (by omega) (by omega) (by omega)]; exact w32 j9 h9) hm_296 hm_297 hm_298 hm_299 hm_300 hm_301 hm_302 hm_303 hm_304 hm_305 hm_306 hm_307 hm_308 hm_309 hm_310 hm_311 hm_312 hm_313 hm_314 hm_315 hm_316 hm_317 hm_318 hm_319 hm_320 hm_321 hm_329 hm_330 hm_331 hm_332 hm_333 hm_334 hm_335 hm_322 hm_323 hm_324 hm_325 hm_326 hm_327 hm_328 hm_281 hm_336 hm_337 hm_338 hm_339 hm_340 hm_341 hm_342 hm_343 hm_344 hm_345 hm_346 hm_347 hm_348 hm_349 hm_282 hm_283 hm_284 hm_285 hm_286 hm_350 hm_351 hm_352 hm_353 hm_354 hm_355 hm_356 hm_357 hm_358 hI (lv_sub hl [2, 3, 4, 5, 6] rfl)
        · -- 1029: lg_cmp ((nI A.length).toInt64) ((nI A.length).toInt64) ne
          have c_366 : (nI A.length).toInt64 ≠ (nI A.length).toInt64 := (fun h => c_366 ((lg_cmp_eq _ _).mpr h))
          exact absurd rfl c_366
    · -- 1012: nI 0 ne
      exact absurd (by decide) c_364
