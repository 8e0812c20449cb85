def kbit (x : Int32) (k : Nat) : Bool := x.toBitVec.getLsbD k
theorem kbit_u : ∀ k, k < 32 → (((nI k).toUInt32 &&& Int32.toUInt32 31).toBitVec % 32).toNat = k := by decide +kernel
theorem kbit_ush (x : Int32) {k : Nat} (hk : k < 32) : (x.toUInt32 >>> ((nI k).toUInt32 &&& Int32.toUInt32 31)).toInt32 &&& nI 1 = bI (kbit x k) := by
  rw [pk_and _ 1 (by decide), pk_ushr x (nI k) k (kbit_u k hk)]
  have h : kbit x k = decide (x.toBitVec.toNat / 2 ^ k % 2 = 1) := by
    rw [kbit, ← BitVec.testBit_toNat, Nat.testBit_eq_decide_div_mod_eq]
  rw [h]
  by_cases h2 : x.toBitVec.toNat / 2 ^ k % 2 = 1
  · rw [decide_eq_true h2, h2]; rfl
  · rw [decide_eq_false h2, show x.toBitVec.toNat / 2 ^ k % 2 = 0 by omega]; rfl
theorem and_0 {r x : Int64} (h : r &&& x = 0) : ∀ s, inS r s = true → ¬ inS x s = true := fun s h1 h2 => by
  have h3 := inS_and r x s
  rw [h, inS_0, h1, h2] at h3
  cases h3
theorem and_n0 {r x : Int64} (h : r &&& x ≠ 0) : ∃ s, inS r s = true ∧ inS x s = true := by
  by_cases hc : ∃ s, inS r s = true ∧ inS x s = true
  · exact hc
  · refine absurd (inS_ext (fun s _ => ?_)) h
    rw [inS_and, inS_0]
    cases h1 : inS r s with
    | false => rfl
    | true =>
      cases h2 : inS x s with
      | false => rfl
      | true => exact absurd ⟨s, h1, h2⟩ hc
section WY
variable {n : Nat} {kd : Nat → Nat} {fm to : Nat → Int32} {sz : Nat → Nat} {en : Nat → Nat → Nat} {lst : Nat → Nat} {ks d : Int32}
/-- what lies one line farther than the things that are P -/
def nxP (kd : Nat → Nat) (fm to : Nat → Int32) (sz : Nat → Nat) (en : Nat → Nat → Nat) (lst : Nat → Nat) (ks d : Int32) (P : Nat → Prop) (m t : Nat) : Prop := ∃ l, l < m ∧ kbit ks (kd l) = true ∧ decide (fm l ≤ d ∧ d ≤ to l) = true ∧ (∃ s, aS (thE (en l)) lst (sz l) s ∧ P s) ∧ aS (thE (en l)) lst (sz l) t
def Rch (n : Nat) (kd : Nat → Nat) (fm to : Nat → Int32) (sz : Nat → Nat) (en : Nat → Nat → Nat) (lst : Nat → Nat) (ks d : Int32) (a : Nat) : Nat → Nat → Prop
  | 0, t => t = a
  | i + 1, t => Rch n kd fm to sz en lst ks d a i t ∨ nxP kd fm to sz en lst ks d (Rch n kd fm to sz en lst ks d a i) n t
theorem nxP_0 {P : Nat → Prop} {t : Nat} : inS 0 t = true ↔ nxP kd fm to sz en lst ks d P 0 t := ⟨fun h => (by rw [inS_0] at h; cases h), fun ⟨i, h, _⟩ => absurd h (Nat.not_lt_zero i)⟩
theorem nxP_no {P : Nat → Prop} {m : Nat} {y : Int64} (h : ∀ t, inS y t = true ↔ nxP kd fm to sz en lst ks d P m t) (hn : ¬ (kbit ks (kd m) = true ∧ decide (fm m ≤ d ∧ d ≤ to m) = true ∧ ∃ s, aS (thE (en m)) lst (sz m) s ∧ P s)) : ∀ t, inS y t = true ↔ nxP kd fm to sz en lst ks d P (m + 1) t := fun t => (h t).trans ⟨fun ⟨l, h1, h2⟩ => ⟨l, by omega, h2⟩, fun ⟨l, h1, h2, h3, h4, h5⟩ => by
  by_cases e : l = m
  · subst e; exact absurd ⟨h2, h3, h4⟩ hn
  · exact ⟨l, by omega, h2, h3, h4, h5⟩⟩
theorem nxP_yes {P : Nat → Prop} {m : Nat} {y r : Int64} (h : ∀ t, inS y t = true ↔ nxP kd fm to sz en lst ks d P m t) (h1 : kbit ks (kd m) = true) (h2 : decide (fm m ≤ d ∧ d ≤ to m) = true) (h3 : ∃ s, aS (thE (en m)) lst (sz m) s ∧ P s) (hr : ∀ t, inS r t = true ↔ aS (thE (en m)) lst (sz m) t) : ∀ t, inS (y ||| r) t = true ↔ nxP kd fm to sz en lst ks d P (m + 1) t := fun t => by
  rw [inS_or, Bool.or_eq_true, h t, hr t]
  constructor
  · rintro (⟨l, a, b⟩ | a)
    · exact ⟨l, by omega, b⟩
    · exact ⟨m, by omega, h1, h2, h3, a⟩
  · rintro ⟨l, a, b1, b2, b3, b4⟩
    by_cases e : l = m
    · subst e; exact Or.inr b4
    · exact Or.inl ⟨l, by omega, b1, b2, b3, b4⟩
theorem or_0 (y : Int64) : y ||| 0 = y := inS_ext (fun t _ => by rw [inS_or, inS_0, Bool.or_false])
theorem nxP_congr {P P' : Nat → Prop} {m t : Nat} (h : ∀ s, P s ↔ P' s) : nxP kd fm to sz en lst ks d P m t ↔ nxP kd fm to sz en lst ks d P' m t := by
  constructor
  · rintro ⟨l, a, b1, b2, ⟨s, c1, c2⟩, b4⟩; exact ⟨l, a, b1, b2, ⟨s, c1, (h s).mp c2⟩, b4⟩
  · rintro ⟨l, a, b1, b2, ⟨s, c1, c2⟩, b4⟩; exact ⟨l, a, b1, b2, ⟨s, c1, (h s).mpr c2⟩, b4⟩
theorem Rch_stop {a i : Nat} (h : ∀ t, Rch n kd fm to sz en lst ks d a (i + 1) t ↔ Rch n kd fm to sz en lst ks d a i t) : ∀ j t, Rch n kd fm to sz en lst ks d a (i + j) t ↔ Rch n kd fm to sz en lst ks d a i t := by
  intro j
  induction j with
  | zero => intro t; exact Iff.rfl
  | succ j ih =>
    intro t
    show (Rch n kd fm to sz en lst ks d a (i + j) t ∨ nxP kd fm to sz en lst ks d (Rch n kd fm to sz en lst ks d a (i + j)) n t) ↔ _
    rw [ih t, nxP_congr ih]
    exact h t
end WY

/-- X3_nextTo -/
abbrev rm_c_X3_nextTo : Room := { frames := 3, cells := 0, slots := 0, locals := 64 }
set_option maxHeartbeats 4000000 in
set_option maxRecDepth 100000 in
theorem c_X3_nextTo (l : Launch) (G : GG) (z : Nat) (ad : Nat → Nat) (M : Mem) {n : Nat} {kd : Nat → Nat} {fm : Nat → Int32} {to : Nat → Int32} {sz : Nat → Nat} {rl : Nat → Nat → Nat} {en : Nat → Nat → Nat} {jn : Nat} {lst : Nat → Nat} {x : Int64} {ks : Int32} {d : Int32} (hL : LSm G ad M n kd fm to sz rl en) (h8 : M 8 = some (cOnes ad jn)) (h10 : M 10 = some (aI G 40 (nF lst))) (hw : LSw n kd sz rl en) (hlst : ∀ u, u < 40 → lst u < 40) : Met l yX3_nextTo wsX3_nextTo rm_c_X3_nextTo (Pr G z ad M [.ref (ad 16), .long x, .int ks, .int d, .ref (ad 8)]) (vp_Sl (fun r : Int64 => ∀ t, inS r t = true ↔ nxP kd fm to sz en lst ks d (fun s => inS x s = true) n t)) 0 0 (fun _ => False) := by
  refine Met.ofW (cc := cX3_nextTo) (maxL := 12) (ret := (some .long)) (by decide) rfl ?_
  intro p e s m args below meth c s₁ B hml hv
  obtain ⟨rfl, hv⟩ := hv
  have hI := Iv.entry hv
  have hx := B.exec
  have hb := B.bytes
  have hr := B.returns
  have hts := atoms_spec (ws := wsX3_nextTo) B.pre
  have hown : s.vm.findClass RX3 = some m.cls := findClass_of_methodNamed B.named
  have hlocks := B.notSynchronized
  have i_RX3 : ∀ w ∈ u_ws RX3 TX3 4, w ∈ wsX3_nextTo := fun w h => List.mem_cons_of_mem _ (iu_X3 w h)
  have f_12 := hts _ (List.mem_cons_of_mem _ (lwg_of t_145 rfl))
  have cl_37 := hts _ (List.mem_cons_of_mem _ (lwg_of t_350 rfl))
  have i_RX2 : ∀ w ∈ u_ws RX2 TX2 4, w ∈ wsX3_nextTo := fun w h => List.mem_cons_of_mem _ (iu_X2 w h)
  have hl := lv_entry ([.ref (ad 16), .long x, .int ks, .int d, .ref (ad 8)]) (n := 12) (Nat.le_of_ble_eq_true rfl)
  rw [lg_entry_eq]
  generalize (lg_sl ([.ref (ad 16), .long x, .int ks, .int d, .ref (ad 8)]) ++ List.replicate (12 - (lg_sl ([.ref (ad 16), .long x, .int ks, .int d, .ref (ad 8)])).length) Slot.unset).toArray = ls at hl ⊢
  have hl : lv_has ls 12 [(0, .ref (ad 16)), (1, .long x), (3, .int ks), (4, .int d), (5, .ref (ad 8))] := hl
  refine w_q (fun Q hQ => ?_)
  have h16 := hL.1
  obtain ⟨mcn, ed, h17, hed⟩ := id hL.2.1
  have hw1 := hw.1
  refine lv_lconst (v := 0) hx hb dX3_nextTo_0 (by decide) ?_
  refine lv_lstore (lv' := [(6, .long (0 : Int64)), (0, .ref (ad 16)), (1, .long x), (3, .int ks), (4, .int d), (5, .ref (ad 8))]) hx hb dX3_nextTo_1 hl (by decide) rfl (fun ls hl => ?_)
  refine lv_iconst (v := nI 0) hx hb dX3_nextTo_3 (by decide) ?_
  refine lv_istore (lv' := [(8, .int (nI 0)), (6, .long (0 : Int64)), (0, .ref (ad 16)), (1, .long x), (3, .int ks), (4, .int d), (5, .ref (ad 8))]) hx hb dX3_nextTo_4 hl (by decide) rfl (fun ls hl => ?_)
  have lp6_1 : ∀ (fuel : Nat) (i : Nat) (y : Int64) (ls : Array Slot), (n - i) < fuel → (i ≤ n) → (∀ t, inS y t = true ↔ nxP kd fm to sz en lst ks d (fun s => inS x s = true) i t) → lv_has ls 12 [(0, .ref (ad 16)), (1, .long x), (3, .int ks), (4, .int d), (5, .ref (ad 8)), (6, .long y), (8, .int (nI i))] → W p l e (headSpec wsX3_nextTo rm_c_X3_nextTo).room s m ([.ref (ad 16), .long x, .int ks, .int d, .ref (ad 8)] : List Value).toArray below meth c s.heap [] 0 0 Q (F0 m 6 ls []) := by
    intro fuel
    induction fuel with
    | zero => intro i y ls hfu hi hy hl; exact absurd hfu (Nat.not_lt_zero _)
    | succ fuel ih_2 =>
      intro i y ls hfu hi hy hl
      have hw1 := hw.1
      refine lv_iload hx hb dX3_nextTo_6 (lv_at hl 6 rfl) ?_
      refine lv_aload_n hx hb dX3_nextTo_8 rfl (lv_at hl 0 rfl) ?_
      refine h_get (C := RX3) (T := TX3) (N := 4) hx hb hts i_RX3 hown hI h16 rfl 0 (by decide) f_12 rfl rfl dX3_nextTo_9 ?_
      refine k_Ri (va_runV (As := []) (rest := [.int (nI i)]) ⟨hx, hb, hml, hown, hts⟩ (c_Jx4a65c_size_8abf5 l G z ad M (n := n) hL.2.1) (cwV 0 hts (gV (lwg_of t_328 rfl) (lwg_of t_329 rfl) (lwg_of t_330 rfl) (lwg_of t_9 rfl) (lwg_of t_331 rfl)) rfl rfl rfl (by decide +kernel) ⟨Nat.le_of_ble_eq_true rfl, Nat.le_of_ble_eq_true rfl⟩) (hI.preV h17 rfl) rfl rfl hl.1 rfl (lv_room (Nat.le_of_ble_eq_true rfl)) dX3_nextTo_12 ⟨Nat.le_of_ble_eq_true rfl, Nat.le_of_ble_eq_true rfl⟩) (fun _ h => h) (fun r_3 hp_4 => ?_)
      rw [hp_4]
      refine lv_icmp_ge (tgt := 92) hx hb dX3_nextTo_15 (by decide) (fun c_5 => ?_) (fun c_5 => ?_)
      · -- 15: nI i ge
        have c_5 : n ≤ i := (nI_leI (a := n) (b := i) (by omega) (by omega)).mp (c_5)
        refine lv_lload hx hb dX3_nextTo_92 (lv_at hl 5 rfl) ?_
        subst hQ
        exact e_Rl hx hb hr hlocks (by rw [show n = i by omega]; exact hy) dX3_nextTo_94
      · -- 15: nI i lt
        have c_5 : i < n := by have h := mt (nI_leI (a := n) (b := i) (by omega) (by omega)).mpr c_5; omega
        have hw1 := hw.1
        obtain ⟨hk6, hs6, hje⟩ := hw.2 i (by omega)
        refine lv_aload_n hx hb dX3_nextTo_18 rfl (lv_at hl 0 rfl) ?_
        refine h_get (C := RX3) (T := TX3) (N := 4) hx hb hts i_RX3 hown hI h16 rfl 0 (by decide) f_12 rfl rfl dX3_nextTo_19 ?_
        refine lv_iload hx hb dX3_nextTo_22 (lv_at hl 6 rfl) ?_
        refine k_Rq (va_runV (As := [.int (nI i)]) (rest := []) ⟨hx, hb, hml, hown, hts⟩ (c_Jx4a65c_get_915e3 l G z ad M (n := n) (i := i) hL.2.1 (by omega) (by omega)) (cwV 1 hts (gV (lwg_of t_336 rfl) (lwg_of t_337 rfl) (lwg_of t_338 rfl) (lwg_of t_9 rfl) (lwg_of t_339 rfl)) rfl rfl rfl (by decide +kernel) ⟨Nat.le_of_ble_eq_true rfl, Nat.le_of_ble_eq_true rfl⟩) (hI.preV h17 rfl) rfl rfl hl.1 rfl (lv_room (Nat.le_of_ble_eq_true rfl)) dX3_nextTo_24 ⟨Nat.le_of_ble_eq_true rfl, Nat.le_of_ble_eq_true rfl⟩) (fun _ h => h) (fun r_6 hp_7 => ?_)
        rw [hp_7]; show W _ _ _ _ _ _ _ _ _ _ _ _ _ _ _ (F0 m 27 ls (.ref (ad (100 + 5 * i)) :: []))
        refine h_cast (q := (RX2, TX2, 4)) hx hb hown cl_37 hI (hL.2.2 i (by omega)).1 rfl dX3_nextTo_27 ?_
        refine lv_astore (lv' := [(9, .ref (ad (100 + 5 * i))), (0, .ref (ad 16)), (1, .long x), (3, .int ks), (4, .int d), (5, .ref (ad 8)), (6, .long y), (8, .int (nI i))]) hx hb dX3_nextTo_30 hl (by decide) rfl (fun ls hl => ?_)
        refine lv_iload_n hx hb dX3_nextTo_32 rfl (lv_at hl 3 rfl) ?_
        refine lv_aload hx hb dX3_nextTo_33 (lv_at hl 0 rfl) ?_
        refine h_getN (C := RX2) (T := TX2) (N := 4) hx hb hts i_RX2 hown hI (hL.2.2 i (by omega)).1 rfl 0 (by decide) (nwf_at (i := 9) (q := ("LineStore$Lines", 75, "LineStore$Line", "kind", "I", "LineStore")) hI rfl) rfl rfl dX3_nextTo_35 ?_
        refine lv_iushr (v := (ks.toUInt32 >>> ((nI (kd i)).toUInt32 &&& Int32.toUInt32 31)).toInt32) hx hb dX3_nextTo_38 rfl ?_
        refine lv_iconst (v := nI 1) hx hb dX3_nextTo_39 (by decide) ?_
        refine lv_iand hx hb dX3_nextTo_40 ?_
        refine n_eq (show _ = bI (kbit ks (kd i)) from kbit_ush ks (by omega)) ?_
        refine lv_if_eq (tgt := 86) hx hb dX3_nextTo_41 (by decide) (fun c_8 => ?_) (fun c_8 => ?_)
        · -- 41: bI (kbit ks (kd i)) eq
          have c_8 : kbit ks (kd i) = false := bI_f (c_8)
          refine lv_iinc (v := nI (i + 1)) (lv' := [(8, .int (nI (i + 1))), (9, .ref (ad (100 + 5 * i))), (0, .ref (ad 16)), (1, .long x), (3, .int ks), (4, .int d), (5, .ref (ad 8)), (6, .long y)]) hx hb dX3_nextTo_86 hl (k := 7) rfl (nI_add i 1) (by decide) rfl (fun ls hl => ?_)
          refine lv_goto (tgt := 6) hx hb dX3_nextTo_89 (by decide) ?_
          exact ih_2 (i + 1) y ls (by omega) (by omega) (nxP_no hy (fun h => by rw [show kbit ks (kd i) = false by assumption] at h; cases h.1)) (lv_sub hl [2, 3, 4, 5, 6, 7, 0] rfl)
        · -- 41: bI (kbit ks (kd i)) ne
          have c_8 : kbit ks (kd i) = true := bI_t (c_8)
          refine lv_aload hx hb dX3_nextTo_44 (lv_at hl 0 rfl) ?_
          refine lv_iload hx hb dX3_nextTo_46 (lv_at hl 4 rfl) ?_
          refine k_Ri (va_runV (As := [.int d]) (rest := []) ⟨hx, hb, hml, hown, hts⟩ (c_X2_isInForce l G z ad M (k := 100 + 5 * i) (kd := kd i) (fm := fm i) (to := to i) (d := d) (hL.2.2 i (by omega)).1) (cwV 1 hts (gV (lwg_of t_821 rfl) (lwg_of t_356 rfl) (lwg_of t_357 rfl) (lwg_of t_21 rfl) (lwg_of t_358 rfl)) rfl rfl rfl (by decide +kernel) ⟨Nat.le_of_ble_eq_true rfl, Nat.le_of_ble_eq_true rfl⟩) (hI.preV (hL.2.2 i (by omega)).1 rfl) rfl rfl hl.1 rfl (lv_room (Nat.le_of_ble_eq_true rfl)) dX3_nextTo_48 ⟨Nat.le_of_ble_eq_true rfl, Nat.le_of_ble_eq_true rfl⟩) (fun _ h => h) (fun r_9 hp_10 => ?_)
          rw [hp_10]
          refine lv_if_eq (tgt := 86) hx hb dX3_nextTo_51 (by decide) (fun c_11 => ?_) (fun c_11 => ?_)
          · -- 51: bI (decide ((fm i) ≤ d ∧ d ≤ (to i))) eq
            have c_11 : decide ((fm i) ≤ d ∧ d ≤ (to i)) = false := bI_f (c_11)
            refine lv_iinc (v := nI (i + 1)) (lv' := [(8, .int (nI (i + 1))), (9, .ref (ad (100 + 5 * i))), (0, .ref (ad 16)), (1, .long x), (3, .int ks), (4, .int d), (5, .ref (ad 8)), (6, .long y)]) hx hb dX3_nextTo_86 hl (k := 7) rfl (nI_add i 1) (by decide) rfl (fun ls hl => ?_)
            refine lv_goto (tgt := 6) hx hb dX3_nextTo_89 (by decide) ?_
            exact ih_2 (i + 1) y ls (by omega) (by omega) (nxP_no hy (fun h => by rw [show decide (fm i ≤ d ∧ d ≤ to i) = false by assumption] at h; cases h.2.1)) (lv_sub hl [2, 3, 4, 5, 6, 7, 0] rfl)
          · -- 51: bI (decide ((fm i) ≤ d ∧ d ≤ (to i))) ne
            have c_11 : decide ((fm i) ≤ d ∧ d ≤ (to i)) = true := bI_t (c_11)
            refine lv_aload hx hb dX3_nextTo_54 (lv_at hl 0 rfl) ?_
            refine h_getN (C := RX2) (T := TX2) (N := 4) hx hb hts i_RX2 hown hI (hL.2.2 i (by omega)).1 rfl 3 (by decide) (nwf_at (i := 6) (q := ("LineStore$Lines", 43, "LineStore$Line", "ends", "LLineStore$Ends;", "LineStore")) hI rfl) rfl rfl dX3_nextTo_56 ?_
            refine lv_aload hx hb dX3_nextTo_59 (lv_at hl 5 rfl) ?_
            refine k_Rl (va_runV (As := [.ref (ad 8)]) (rest := []) ⟨hx, hb, hml, hown, hts⟩ (c_X0_allThings l G z ad M (k := 100 + 5 * i + 1) (sz := sz i) (th := (thE (en i))) (jn := jn) (lst := lst) (hL.2.2 i (by omega)).2.1 (hL.2.2 i (by omega)).2.2.2.1 h8 h10 (by omega) (thE_ok _ _) (thE_lt _ _) hlst) (cwV 1 hts (gV (lwg_of t_982 rfl) (lwg_of t_983 rfl) (lwg_of t_984 rfl) (lwg_of t_5 rfl) (lwg_of t_985 rfl)) rfl rfl rfl (by decide +kernel) ⟨Nat.le_of_ble_eq_true rfl, Nat.le_of_ble_eq_true rfl⟩) (hI.preV (hL.2.2 i (by omega)).2.1 rfl) rfl rfl hl.1 rfl (lv_room (Nat.le_of_ble_eq_true rfl)) dX3_nextTo_61 ⟨Nat.le_of_ble_eq_true rfl, Nat.le_of_ble_eq_true rfl⟩) (fun _ h => h) (fun r_12 hp_13 => ?_)
            refine lv_lstore (lv' := [(10, .long r_12), (9, .ref (ad (100 + 5 * i))), (0, .ref (ad 16)), (1, .long x), (3, .int ks), (4, .int d), (5, .ref (ad 8)), (6, .long y), (8, .int (nI i))]) hx hb dX3_nextTo_64 hl (by decide) rfl (fun ls hl => ?_)
            refine lv_lload hx hb dX3_nextTo_66 (lv_at hl 7 rfl) ?_
            refine lv_lload hx hb dX3_nextTo_68 (lv_at hl 0 rfl) ?_
            refine lv_lload_n hx hb dX3_nextTo_70 rfl (lv_at hl 3 rfl) ?_
            refine lv_land hx hb dX3_nextTo_71 ?_
            refine lv_lconst (v := 0) hx hb dX3_nextTo_72 (by decide) ?_
            refine W.lcmp hx hb dX3_nextTo_73 ?_
            refine lv_if_eq (tgt := 82) hx hb dX3_nextTo_74 (by decide) (fun c_14 => ?_) (fun c_14 => ?_)
            · -- 74: lg_cmp (r_12 &&& x) (0 : Int64) eq
              have c_14 : r_12 &&& x = (0 : Int64) := (lg_cmp_eq _ _).mp c_14
              refine lv_lconst (v := 0) hx hb dX3_nextTo_82 (by decide) ?_
              refine lv_lor hx hb dX3_nextTo_83 ?_
              refine lv_lstore (lv' := [(6, .long (y ||| (0 : Int64))), (10, .long r_12), (9, .ref (ad (100 + 5 * i))), (0, .ref (ad 16)), (1, .long x), (3, .int ks), (4, .int d), (5, .ref (ad 8)), (8, .int (nI i))]) hx hb dX3_nextTo_84 hl (by decide) rfl (fun ls hl => ?_)
              refine lv_iinc (v := nI (i + 1)) (lv' := [(8, .int (nI (i + 1))), (6, .long (y ||| (0 : Int64))), (10, .long r_12), (9, .ref (ad (100 + 5 * i))), (0, .ref (ad 16)), (1, .long x), (3, .int ks), (4, .int d), (5, .ref (ad 8))]) hx hb dX3_nextTo_86 hl (k := 8) rfl (nI_add i 1) (by decide) rfl (fun ls hl => ?_)
              refine lv_goto (tgt := 6) hx hb dX3_nextTo_89 (by decide) ?_
              exact ih_2 (i + 1) (y ||| (0 : Int64)) ls (by omega) (by omega) (by rw [or_0]; exact nxP_no hy (fun h => by obtain ⟨_, _, s9, h8, h7⟩ := h; exact and_0 (by assumption) s9 ((hp_13 s9).mpr h8) h7)) (lv_sub hl [4, 5, 6, 7, 8, 1, 0] rfl)
            · -- 74: lg_cmp (r_12 &&& x) (0 : Int64) ne
              have c_14 : r_12 &&& x ≠ (0 : Int64) := (fun h => c_14 ((lg_cmp_eq _ _).mpr h))
              refine lv_lload hx hb dX3_nextTo_77 (lv_at hl 0 rfl) ?_
              refine lv_goto (tgt := 83) hx hb dX3_nextTo_79 (by decide) ?_
              refine lv_lor hx hb dX3_nextTo_83 ?_
              refine lv_lstore (lv' := [(6, .long (y ||| r_12)), (10, .long r_12), (9, .ref (ad (100 + 5 * i))), (0, .ref (ad 16)), (1, .long x), (3, .int ks), (4, .int d), (5, .ref (ad 8)), (8, .int (nI i))]) hx hb dX3_nextTo_84 hl (by decide) rfl (fun ls hl => ?_)
              refine lv_iinc (v := nI (i + 1)) (lv' := [(8, .int (nI (i + 1))), (6, .long (y ||| r_12)), (10, .long r_12), (9, .ref (ad (100 + 5 * i))), (0, .ref (ad 16)), (1, .long x), (3, .int ks), (4, .int d), (5, .ref (ad 8))]) hx hb dX3_nextTo_86 hl (k := 8) rfl (nI_add i 1) (by decide) rfl (fun ls hl => ?_)
              refine lv_goto (tgt := 6) hx hb dX3_nextTo_89 (by decide) ?_
              exact ih_2 (i + 1) (y ||| r_12) ls (by omega) (by omega) (nxP_yes hy (by assumption) (by assumption) (by obtain ⟨s9, h8, h7⟩ := and_n0 (by assumption); exact ⟨s9, (hp_13 s9).mp h8, h7⟩) hp_13) (lv_sub hl [4, 5, 6, 7, 8, 1, 0] rfl)
  exact lp6_1 ((n - 0) + 1) 0 (0 : Int64) ls (Nat.lt_succ_self _) (by omega) (fun t => nxP_0) (lv_sub hl [2, 3, 4, 5, 6, 1, 0] rfl)

theorem cntB_lt {p q : Nat → Bool} {n k : Nat} (h : ∀ i, i < n → p i = true → q i = true) (hk : k < n) (h1 : p k = false) (h2 : q k = true) : cntB p n < cntB q n := by
  induction n with
  | zero => exact absurd hk (Nat.not_lt_zero k)
  | succ n ih =>
    by_cases e : k = n
    · subst e
      rw [cntB_f h1, cntB_t h2]
      exact Nat.lt_succ_of_le (cntB_mono (fun i hi => h i (by omega)))
    · have h3 := ih (fun i hi => h i (by omega)) (by omega)
      simp only [cntB]
      by_cases hp : p n = true
      · rw [if_pos hp, if_pos (h n (by omega) hp)]; omega
      · rw [if_neg hp]; split <;> omega
theorem or_grow {x y : Int64} (h : x ||| y ≠ x) : ∃ t, inS x t = false ∧ inS (x ||| y) t = true := by
  by_cases hc : ∃ t, inS x t = false ∧ inS (x ||| y) t = true
  · exact hc
  · refine absurd (inS_ext (fun t _ => ?_)) h
    cases h1 : inS x t with
    | true => rw [inS_or, h1]; rfl
    | false =>
      cases h2 : inS (x ||| y) t with
      | false => rfl
      | true => exact absurd ⟨t, h1, h2⟩ hc
theorem shl1 {a : Nat} (ha : a < 40) (t : Nat) : inS ((1 : Int64) <<< ((nI a).toInt64 &&& 63)) t = true ↔ t = a := by rw [inS_shl (by omega), decide_eq_true_eq]

/-- X3_fewestBetween -/
abbrev rm_c_X3_fewestBetween : Room := { frames := 4, cells := 0, slots := 0, locals := 95 }
set_option maxHeartbeats 4000000 in
set_option maxRecDepth 100000 in
theorem c_X3_fewestBetween (l : Launch) (G : GG) (z : Nat) (ad : Nat → Nat) (M : Mem) {n : Nat} {kd : Nat → Nat} {fm : Nat → Int32} {to : Nat → Int32} {sz : Nat → Nat} {rl : Nat → Nat → Nat} {en : Nat → Nat → Nat} {jn : Nat} {lst : Nat → Nat} {a : Nat} {b : Nat} {ks : Int32} {d : Int32} (hL : LSm G ad M n kd fm to sz rl en) (h8 : M 8 = some (cOnes ad jn)) (h10 : M 10 = some (aI G 40 (nF lst))) (hw : LSw n kd sz rl en) (hlst : ∀ u, u < 40 → lst u < 40) (ha : a < 40) (hb4 : b < 40) : Met l yX3_fewestBetween wsX3_fewestBetween rm_c_X3_fewestBetween (Pr G z ad M [.ref (ad 16), .int (nI a), .int (nI b), .int ks, .int d, .ref (ad 8)]) (vp_Si (fun r : Int32 => ∃ o : Option Nat, r = oI o ∧ (∀ i, o = some i → i < 40 ∧ Rch n kd fm to sz en lst ks d a i b ∧ ∀ j, j < i → ¬ Rch n kd fm to sz en lst ks d a j b) ∧ (o = none → ∀ j, ¬ Rch n kd fm to sz en lst ks d a j b))) 0 0 (fun _ => False) := by
  refine Met.ofW (cc := cX3_fewestBetween) (maxL := 11) (ret := (some .int)) (by decide) rfl ?_
  intro p e s m args below meth c s₁ B hml hv
  obtain ⟨rfl, hv⟩ := hv
  have hI := Iv.entry hv
  have hx := B.exec
  have hb := B.bytes
  have hr := B.returns
  have hts := atoms_spec (ws := wsX3_fewestBetween) B.pre
  have hown : s.vm.findClass RX3 = some m.cls := findClass_of_methodNamed B.named
  have hlocks := B.notSynchronized
  have st_100 := hts _ (List.mem_cons_of_mem _ (lwg_of t_419 rfl))
  have si_100 := hts _ (List.mem_cons_of_mem _ (lwg_of t_1 rfl))
  have hl := lv_entry ([.ref (ad 16), .int (nI a), .int (nI b), .int ks, .int d, .ref (ad 8)]) (n := 11) (Nat.le_of_ble_eq_true rfl)
  rw [lg_entry_eq]
  generalize (lg_sl ([.ref (ad 16), .int (nI a), .int (nI b), .int ks, .int d, .ref (ad 8)]) ++ List.replicate (11 - (lg_sl ([.ref (ad 16), .int (nI a), .int (nI b), .int ks, .int d, .ref (ad 8)])).length) Slot.unset).toArray = ls at hl ⊢
  have hl : lv_has ls 11 [(0, .ref (ad 16)), (1, .int (nI a)), (2, .int (nI b)), (3, .int ks), (4, .int d), (5, .ref (ad 8))] := hl
  refine w_q (fun Q hQ => ?_)
  have h16 := hL.1
  obtain ⟨mcn, ed, h17, hed⟩ := id hL.2.1
  have hw1 := hw.1
  refine lv_lconst (v := 1) hx hb dX3_fewestBetween_0 (by decide) ?_
  refine lv_iload_n hx hb dX3_fewestBetween_1 rfl (lv_at hl 1 rfl) ?_
  refine lv_lshl (v := (1 : Int64) <<< ((nI a).toInt64 &&& 63)) hx hb dX3_fewestBetween_2 rfl ?_
  refine lv_lstore (lv' := [(6, .long ((1 : Int64) <<< ((nI a).toInt64 &&& 63))), (0, .ref (ad 16)), (1, .int (nI a)), (2, .int (nI b)), (3, .int ks), (4, .int d), (5, .ref (ad 8))]) hx hb dX3_fewestBetween_3 hl (by decide) rfl (fun ls hl => ?_)
  refine lv_iconst (v := nI 0) hx hb dX3_fewestBetween_5 (by decide) ?_
  refine lv_istore (lv' := [(8, .int (nI 0)), (6, .long ((1 : Int64) <<< ((nI a).toInt64 &&& 63))), (0, .ref (ad 16)), (1, .int (nI a)), (2, .int (nI b)), (3, .int ks), (4, .int d), (5, .ref (ad 8))]) hx hb dX3_fewestBetween_6 hl (by decide) rfl (fun ls hl => ?_)
  have lp8_1 : ∀ (fuel : Nat) (i : Nat) (y : Int64) (ls : Array Slot), (40 - i) < fuel → (i ≤ 40) → (∀ t, inS y t = true ↔ Rch n kd fm to sz en lst ks d a i t) → (∀ t, inS y t = true → t < 40) → (∀ j, j < i → ¬ Rch n kd fm to sz en lst ks d a j b) → (i + 1 ≤ cntB (inS y) 40) → lv_has ls 11 [(0, .ref (ad 16)), (1, .int (nI a)), (2, .int (nI b)), (3, .int ks), (4, .int d), (5, .ref (ad 8)), (6, .long y), (8, .int (nI i))] → W p l e (headSpec wsX3_fewestBetween rm_c_X3_fewestBetween).room s m ([.ref (ad 16), .int (nI a), .int (nI b), .int ks, .int d, .ref (ad 8)] : List Value).toArray below meth c s.heap [] 0 0 Q (F0 m 8 ls []) := by
    intro fuel
    induction fuel with
    | zero => intro i y ls hfu hi hy hy4 hno hct hl; exact absurd hfu (Nat.not_lt_zero _)
    | succ fuel ih_2 =>
      intro i y ls hfu hi hy hy4 hno hct hl
      have hw1 := hw.1
      refine lv_iload hx hb dX3_fewestBetween_8 (lv_at hl 7 rfl) ?_
      refine lv_bipush (v := nI 40) hx hb dX3_fewestBetween_10 (by decide) ?_
      refine lv_icmp_ge (tgt := 63) hx hb dX3_fewestBetween_12 (by decide) (fun c_3 => ?_) (fun c_3 => ?_)
      · -- 12: nI i ge
        have c_3 : 40 ≤ i := (nI_leI (a := 40) (b := i) (by omega) (by omega)).mp (c_3)
        refine lv_iconst (v := (-1)) hx hb dX3_fewestBetween_63 (by decide) ?_
        subst hQ
        exact e_Ri hx hb hr rfl hlocks (⟨none, rfl, fun i9 h => (by cases h), fun _ j => (by have := cntB_le (inS y) 40; omega)⟩) dX3_fewestBetween_64
      · -- 12: nI i lt
        have c_3 : i < 40 := by have h := mt (nI_leI (a := 40) (b := i) (by omega) (by omega)).mpr c_3; omega
        refine lv_lload hx hb dX3_fewestBetween_15 (lv_at hl 6 rfl) ?_
        refine lv_iload_n hx hb dX3_fewestBetween_17 rfl (lv_at hl 2 rfl) ?_
        refine k_Ri (va_runSN (As := [.long y, .int (nI b)]) (rest := []) ⟨hx, hb, hml, hown, hts⟩ (c_X9_isIn l G z ad M (x := y) (t := b) (by omega)) ⟨va_cnB 2 hts (gU (lwg_of t_420 rfl)) rfl rfl rfl (nwm_at (i := 6) (q := ("LineStore$Lines", 100, ⟨"LineStore", "isIn", "(JI)Z"⟩, "LineStore")) hI rfl) si_100 (by decide +kernel) ⟨Nat.le_of_ble_eq_true rfl, Nat.le_of_ble_eq_true rfl⟩, st_100, trivial⟩ hI.preS rfl rfl hl.1 rfl (lv_room (Nat.le_of_ble_eq_true rfl)) dX3_fewestBetween_18 ⟨Nat.le_of_ble_eq_true rfl, Nat.le_of_ble_eq_true rfl⟩) (fun _ h => h) (fun r_4 hp_5 => ?_)
        rw [hp_5]
        refine lv_if_eq (tgt := 27) hx hb dX3_fewestBetween_21 (by decide) (fun c_6 => ?_) (fun c_6 => ?_)
        · -- 21: bI (inS y b) eq
          have c_6 : inS y b = false := bI_f (c_6)
          refine lv_lload hx hb dX3_fewestBetween_27 (lv_at hl 6 rfl) ?_
          refine lv_aload_n hx hb dX3_fewestBetween_29 rfl (lv_at hl 0 rfl) ?_
          refine lv_lload hx hb dX3_fewestBetween_30 (lv_at hl 6 rfl) ?_
          refine lv_iload_n hx hb dX3_fewestBetween_32 rfl (lv_at hl 3 rfl) ?_
          refine lv_iload hx hb dX3_fewestBetween_33 (lv_at hl 4 rfl) ?_
          refine lv_aload hx hb dX3_fewestBetween_35 (lv_at hl 5 rfl) ?_
          refine k_Rl (va_runV (As := [.long y, .int ks, .int d, .ref (ad 8)]) (rest := [.long y]) ⟨hx, hb, hml, hown, hts⟩ (c_X3_nextTo l G z ad M (n := n) (kd := kd) (fm := fm) (to := to) (sz := sz) (rl := rl) (en := en) (jn := jn) (lst := lst) (x := y) (ks := ks) (d := d) hL h8 h10 hw hlst) (cwV 4 hts (gV (lwg_of t_978 rfl) (lwg_of t_980 rfl) (lwg_of ts_21 rfl) (lwg_of t_6 rfl) (lwg_of t_981 rfl)) rfl rfl rfl (by decide +kernel) ⟨Nat.le_of_ble_eq_true rfl, Nat.le_of_ble_eq_true rfl⟩) (hI.preV h16 rfl) rfl rfl hl.1 rfl (lv_room (Nat.le_of_ble_eq_true rfl)) dX3_fewestBetween_37 ⟨Nat.le_of_ble_eq_true rfl, Nat.le_of_ble_eq_true rfl⟩) (fun _ h => h) (fun r_7 hp_8 => ?_)
          refine lv_lor hx hb dX3_fewestBetween_40 ?_
          refine lv_lstore (lv' := [(9, .long (y ||| r_7)), (0, .ref (ad 16)), (1, .int (nI a)), (2, .int (nI b)), (3, .int ks), (4, .int d), (5, .ref (ad 8)), (6, .long y), (8, .int (nI i))]) hx hb dX3_fewestBetween_41 hl (by decide) rfl (fun ls hl => ?_)
          have hy2 : ∀ t, inS (y ||| r_7) t = true ↔ Rch n kd fm to sz en lst ks d a (i + 1) t := fun t => by
            rw [inS_or, Bool.or_eq_true, hy t, hp_8 t]
            exact or_congr Iff.rfl (nxP_congr hy)
          have hz4 : ∀ t, inS (y ||| r_7) t = true → t < 40 := fun t h => by
            rw [inS_or, Bool.or_eq_true] at h
            rcases h with h | h
            · exact hy4 t h
            · obtain ⟨l9, _, _, _, _, i9, _, u9, h8, h7⟩ := (hp_8 t).mp h
              rw [← h7]; exact hlst u9 (thE_some h8).2
          refine lv_lload hx hb dX3_fewestBetween_43 (lv_at hl 0 rfl) ?_
          refine lv_lload hx hb dX3_fewestBetween_45 (lv_at hl 7 rfl) ?_
          refine W.lcmp hx hb dX3_fewestBetween_47 ?_
          refine lv_if_ne (tgt := 53) hx hb dX3_fewestBetween_48 (by decide) (fun c_9 => ?_) (fun c_9 => ?_)
          · -- 48: lg_cmp (y ||| r_7) y ne
            have c_9 : y ||| r_7 ≠ y := (fun h => c_9 ((lg_cmp_eq _ _).mpr h))
            refine lv_lload hx hb dX3_fewestBetween_53 (lv_at hl 0 rfl) ?_
            refine lv_lstore (lv' := [(6, .long (y ||| r_7)), (9, .long (y ||| r_7)), (0, .ref (ad 16)), (1, .int (nI a)), (2, .int (nI b)), (3, .int ks), (4, .int d), (5, .ref (ad 8)), (8, .int (nI i))]) hx hb dX3_fewestBetween_55 hl (by decide) rfl (fun ls hl => ?_)
            refine lv_iinc (v := nI (i + 1)) (lv' := [(8, .int (nI (i + 1))), (6, .long (y ||| r_7)), (9, .long (y ||| r_7)), (0, .ref (ad 16)), (1, .int (nI a)), (2, .int (nI b)), (3, .int ks), (4, .int d), (5, .ref (ad 8))]) hx hb dX3_fewestBetween_57 hl (k := 8) rfl (nI_add i 1) (by decide) rfl (fun ls hl => ?_)
            refine lv_goto (tgt := 8) hx hb dX3_fewestBetween_60 (by decide) ?_
            exact ih_2 (i + 1) (y ||| r_7) ls (by omega) (by omega) (hy2) (hz4) (lt_s2 hno (fun h => by rw [(hy b).mpr h] at *; simp_all)) (by
      obtain ⟨t9, h8, h7⟩ := or_grow (by assumption)
      have h9 := cntB_lt (p := inS y) (fun t _ h => by rw [inS_or, h]; rfl) (hz4 t9 h7) h8 h7
      omega) (lv_sub hl [3, 4, 5, 6, 7, 8, 1, 0] rfl)
          · -- 48: lg_cmp (y ||| r_7) y eq
            have c_9 : y ||| r_7 = y := (lg_cmp_eq _ _).mp c_9
            refine lv_iconst (v := (-1)) hx hb dX3_fewestBetween_51 (by decide) ?_
            subst hQ
            exact e_Ri hx hb hr rfl hlocks (⟨none, rfl, fun i9 h => (by cases h), fun _ j => (by
      have hst := Rch_stop (i := i) (fun t => by rw [← hy2 t, ← hy t, show y ||| r_7 = y by assumption])
      intro hj
      by_cases hji : j < i
      · exact hno j hji hj
      · have h8 := (hst (j - i) b).mp (by rw [show i + (j - i) = j by omega]; exact hj)
        rw [← hy b] at h8
        simp_all)⟩) dX3_fewestBetween_52
        · -- 21: bI (inS y b) ne
          have c_6 : inS y b = true := bI_t (c_6)
          refine lv_iload hx hb dX3_fewestBetween_24 (lv_at hl 7 rfl) ?_
          subst hQ
          exact e_Ri hx hb hr rfl hlocks (⟨some i, rfl, fun i9 h => (by cases h; exact ⟨by omega, (hy b).mp (by assumption), hno⟩), fun h => (by cases h)⟩) dX3_fewestBetween_26
  exact lp8_1 ((40 - 0) + 1) 0 ((1 : Int64) <<< ((nI a).toInt64 &&& 63)) ls (Nat.lt_succ_self _) (by omega) (fun t => shl1 ha t) (fun t h => by rw [(shl1 ha t).mp h]; exact ha) (fun j hj => absurd hj (Nat.not_lt_zero j)) (by
      have h9 : 0 < cntB (inS ((1 : Int64) <<< ((nI a).toInt64 &&& 63))) 40 := Nat.lt_of_le_of_lt (Nat.zero_le _) (cntB_lt (p := fun _ => false) (fun _ _ h => by cases h) ha rfl ((shl1 ha a).mpr rfl))
      omega) (lv_sub hl [2, 3, 4, 5, 6, 7, 1, 0] rfl)
