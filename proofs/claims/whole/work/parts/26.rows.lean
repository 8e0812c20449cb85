theorem nI_dec {a : Nat} (h : 1 ≤ a) : nI a + (-1) = nI (a - 1) := by
  obtain ⟨b, rfl⟩ : ∃ b, a = b + 1 := ⟨a - 1, by omega⟩
  rw [← nI_add, Int32.add_assoc, show nI 1 + (-1 : Int32) = 0 from by decide, Int32.add_zero]
  rfl
theorem updL_self (g : Nat → Int64) (k : Nat) (x : Int64) : vp_updL g k x k = x := va_up_self g k x
theorem updL_ne (g : Nat → Int64) {k j : Nat} (x : Int64) (h : j ≠ k) : vp_updL g k x j = g j := va_up_ne g x h
theorem inS_not (x : Int64) (t : Nat) : inS (x ^^^ (-1)) t = (decide (t < 64) && !inS x t) := by
  have h : (-1 : Int64).toBitVec = BitVec.allOnes 64 := by decide
  simp only [inS, Int64.toBitVec_xor, h, BitVec.getLsbD_xor, BitVec.getLsbD_allOnes]
  by_cases ht : t < 64
  · simp [ht]
  · rw [BitVec.getLsbD_of_ge _ _ (by omega)]; simp [ht]
/-- of each atom below m there is a line, or, of an atom with not, there is none -/
def aw (rx : Nat → Int64) (nt : Nat → Bool) (q m t : Nat) : Prop := ∀ i, i < m → inS (rx (i * 40 + q)) t = !(nt i)
section AW
variable {rx : Nat → Int64} {nt : Nat → Bool} {q i : Nat} {y d2 : Int64}
theorem aw_0 : ∀ t, inS d2 t = true ↔ inS d2 t = true ∧ aw rx nt q 0 t := fun t => ⟨fun h => ⟨h, fun i hi => absurd hi (Nat.not_lt_zero i)⟩, fun h => h.1⟩
theorem aw_pos (h : ∀ t, inS y t = true ↔ inS d2 t = true ∧ aw rx nt q i t) (hn : nt i = false) : ∀ t, inS (y &&& rx (i * 40 + q)) t = true ↔ inS d2 t = true ∧ aw rx nt q (i + 1) t := fun t => by
  rw [inS_and, Bool.and_eq_true, h t]
  constructor
  · rintro ⟨⟨h1, h2⟩, h3⟩
    exact ⟨h1, lt_s2 h2 (by rw [h3, hn]; rfl)⟩
  · rintro ⟨h1, h2⟩
    refine ⟨⟨h1, fun j hj => h2 j (by omega)⟩, ?_⟩
    rw [h2 i (by omega), hn]; rfl
theorem aw_neg (h : ∀ t, inS y t = true ↔ inS d2 t = true ∧ aw rx nt q i t) (hn : nt i = true) : ∀ t, inS (y &&& (rx (i * 40 + q) ^^^ (-1))) t = true ↔ inS d2 t = true ∧ aw rx nt q (i + 1) t := fun t => by
  rw [inS_and, inS_not, Bool.and_eq_true, Bool.and_eq_true, h t]
  constructor
  · rintro ⟨⟨h1, h2⟩, h3, h4⟩
    exact ⟨h1, lt_s2 h2 (by rw [hn]; simpa using h4)⟩
  · rintro ⟨h1, h2⟩
    refine ⟨⟨h1, fun j hj => h2 j (by omega)⟩, ?_, ?_⟩
    · apply decide_eq_true
      apply Decidable.byContradiction
      intro ht
      rw [inS_big (by omega)] at h1
      cases h1
    · rw [h2 i (by omega), hn]; rfl
end AW
/-- one of the fits below n of atom i holds a, b and t -/
def rT (sx : Nat → Int64) (i a b t : Nat) : Nat → Bool
  | 0 => false
  | f + 1 => rT sx i a b t f || (inS (sx ((i * 120 + f) * 3)) a && (inS (sx ((i * 120 + f) * 3 + 1)) b && inS (sx ((i * 120 + f) * 3 + 2)) t))
def rwR (sx : Nat → Int64) (g : Nat → Int64) (i a n : Nat) : Prop := ∀ b, b < 40 → ∀ t, inS (g (i * 40 + b)) t = rT sx i a b t n
def oth (g rx : Nat → Int64) (i : Nat) : Prop := ∀ j, j < i * 40 ∨ i * 40 + 40 ≤ j → g j = rx j
section RW
variable {sx g rx : Nat → Int64} {i a f j : Nat}
theorem rwR_no (h : rwR sx g i a f) (hn : inS (sx ((i * 120 + f) * 3)) a = false) : rwR sx g i a (f + 1) := fun b hb t => by rw [h b hb t, rT, hn, Bool.false_and, Bool.or_false]
theorem rwR_0 (h : ∀ b, b < 40 → g (i * 40 + b) = 0) : rwR sx g i a 0 := fun b hb t => by rw [h b hb, inS_0]; rfl
theorem oth_up {x : Int64} (h : oth g rx i) (hj : j < 40) : oth (vp_updL g (i * 40 + j) x) rx i := fun k hk => by rw [updL_ne _ _ (by omega)]; exact h k hk
/-- the rows of the b below j are done for one fit more -/
def rwJ (sx : Nat → Int64) (g : Nat → Int64) (i a f j : Nat) : Prop := ∀ b, b < 40 → ∀ t, inS (g (i * 40 + b)) t = rT sx i a b t (if b < j then f + 1 else f)
theorem rwJ_0 (h : rwR sx g i a f) : rwJ sx g i a f 0 := fun b hb t => by rw [if_neg (Nat.not_lt_zero b)]; exact h b hb t
theorem rwJ_e (h : rwJ sx g i a f 40) : rwR sx g i a (f + 1) := fun b hb t => by rw [h b hb t, if_pos hb]
theorem rwJ_no (h : rwJ sx g i a f j) (hn : inS (sx ((i * 120 + f) * 3 + 1)) j = false) : rwJ sx g i a f (j + 1) := fun b hb t => by
  rw [h b hb t]
  by_cases e : b = j
  · subst e
    rw [if_neg (Nat.lt_irrefl b), if_pos (Nat.lt_succ_self b), rT, hn, Bool.false_and, Bool.and_false, Bool.or_false]
  · by_cases h2 : b < j
    · rw [if_pos h2, if_pos (by omega)]
    · rw [if_neg h2, if_neg (by omega)]
theorem rwJ_yes (hj : j < 40) (h : rwJ sx g i a f j) (ha : inS (sx ((i * 120 + f) * 3)) a = true) (hn : inS (sx ((i * 120 + f) * 3 + 1)) j = true) : rwJ sx (vp_updL g (i * 40 + j) (g (i * 40 + j) ||| sx ((i * 120 + f) * 3 + 2))) i a f (j + 1) := fun b hb t => by
  by_cases e : b = j
  · subst e
    rw [updL_self, inS_or, h b hb t, if_neg (Nat.lt_irrefl b), if_pos (Nat.lt_succ_self b), rT, hn, ha, Bool.true_and, Bool.true_and]
  · rw [updL_ne _ _ (by omega), h b hb t]
    by_cases h2 : b < j
    · rw [if_pos h2, if_pos (by omega)]
    · rw [if_neg h2, if_neg (by omega)]
end RW

/-- X4_member -/
abbrev rm_c_X4_member : Room := { frames := 1, cells := 0, slots := 0, locals := 22 }
set_option maxHeartbeats 4000000 in
set_option maxRecDepth 100000 in
theorem c_X4_member (l : Launch) (G : GG) (z : Nat) (ad : Nat → Nat) (M : Mem) {x : Int64} {q : Nat}  (hq : q < cntB (inS x) 40) : Met l yX4_member wsX4_member rm_c_X4_member (Pr G z ad M [.long x, .int (nI q)]) (vp_Si (fun r : Int32 => ∃ t, t < 40 ∧ r = nI t ∧ inS x t = true ∧ cntB (inS x) t = q)) 0 0 (fun _ => False) := by
  refine Met.ofW (cc := cX4_member) (maxL := 5) (ret := (some .int)) (by decide) rfl ?_
  intro p e s m args below meth c s₁ B hml hv
  obtain ⟨rfl, hv⟩ := hv
  have hI := Iv.entry hv
  have hx := B.exec
  have hb := B.bytes
  have hr := B.returns
  have hts := atoms_spec (ws := wsX4_member) B.pre
  have hown : s.vm.findClass RX4 = some m.cls := findClass_of_methodNamed B.named
  have hlocks := B.notSynchronized
  have st_84 := hts _ (List.mem_cons_of_mem _ (lwg_of t_419 rfl))
  have si_84 := hts _ (List.mem_cons_of_mem _ (lwg_of t_1 rfl))
  have hl := lv_entry ([.long x, .int (nI q)]) (n := 5) (Nat.le_of_ble_eq_true rfl)
  rw [lg_entry_eq]
  generalize (lg_sl ([.long x, .int (nI q)]) ++ List.replicate (5 - (lg_sl ([.long x, .int (nI q)])).length) Slot.unset).toArray = ls at hl ⊢
  have hl : lv_has ls 5 [(0, .long x), (2, .int (nI q))] := hl
  refine w_q (fun Q hQ => ?_)
  have hle := cntB_le (inS x) 40
  refine lv_iload_n hx hb dX4_member_0 rfl (lv_at hl 1 rfl) ?_
  refine lv_istore_n (lv' := [(3, .int (nI q)), (0, .long x), (2, .int (nI q))]) hx hb dX4_member_1 rfl hl (by decide) rfl (fun ls hl => ?_)
  refine lv_iconst (v := nI 0) hx hb dX4_member_2 (by decide) ?_
  refine lv_istore (lv' := [(4, .int (nI 0)), (3, .int (nI q)), (0, .long x), (2, .int (nI q))]) hx hb dX4_member_3 hl (by decide) rfl (fun ls hl => ?_)
  have lp5_1 : ∀ (fuel : Nat) (i : Nat) (lf : Nat) (ls : Array Slot), (40 - i) < fuel → (i ≤ 40) → (lf + cntB (inS x) i = q) → lv_has ls 5 [(0, .long x), (2, .int (nI q)), (3, .int (nI lf)), (4, .int (nI i))] → W p l e (headSpec wsX4_member rm_c_X4_member).room s m ([.long x, .int (nI q)] : List Value).toArray below meth c s.heap [] 0 0 Q (F0 m 5 ls []) := by
    intro fuel
    induction fuel with
    | zero => intro i lf ls hfu hi hlf hl; exact absurd hfu (Nat.not_lt_zero _)
    | succ fuel ih_2 =>
      intro i lf ls hfu hi hlf hl
      have hle := cntB_le (inS x) 40
      refine lv_iload hx hb dX4_member_5 (lv_at hl 3 rfl) ?_
      refine lv_bipush (v := nI 40) hx hb dX4_member_7 (by decide) ?_
      refine lv_icmp_ge (tgt := 37) hx hb dX4_member_9 (by decide) (fun c_3 => ?_) (fun c_3 => ?_)
      · -- 9: nI i ge
        have c_3 : 40 ≤ i := (nI_leI (a := 40) (b := i) (by omega) (by omega)).mp (c_3)
        exact absurd hq (by rw [show 40 = i by omega]; omega)
      · -- 9: nI i lt
        have c_3 : i < 40 := by have h := mt (nI_leI (a := 40) (b := i) (by omega) (by omega)).mpr c_3; omega
        refine lv_lload_n hx hb dX4_member_12 rfl (lv_at hl 0 rfl) ?_
        refine lv_iload hx hb dX4_member_13 (lv_at hl 3 rfl) ?_
        refine k_Ri (va_runSN (As := [.long x, .int (nI i)]) (rest := []) ⟨hx, hb, hml, hown, hts⟩ (c_X9_isIn l G z ad M (x := x) (t := i) (by omega)) ⟨va_cnB 2 hts (gU (lwg_of t_420 rfl)) rfl rfl rfl (nwm_at (i := 8) (q := ("LineStore$Matcher", 84, ⟨"LineStore", "isIn", "(JI)Z"⟩, "LineStore")) hI rfl) si_84 (by decide +kernel) ⟨Nat.le_of_ble_eq_true rfl, Nat.le_of_ble_eq_true rfl⟩, st_84, trivial⟩ hI.preS rfl rfl hl.1 rfl (lv_room (Nat.le_of_ble_eq_true rfl)) dX4_member_15 ⟨Nat.le_of_ble_eq_true rfl, Nat.le_of_ble_eq_true rfl⟩) (fun _ h => h) (fun r_4 hp_5 => ?_)
        rw [hp_5]
        refine lv_if_eq (tgt := 31) hx hb dX4_member_18 (by decide) (fun c_6 => ?_) (fun c_6 => ?_)
        · -- 18: bI (inS x i) eq
          have c_6 : inS x i = false := bI_f (c_6)
          refine lv_iinc (v := nI (i + 1)) (lv' := [(4, .int (nI (i + 1))), (0, .long x), (2, .int (nI q)), (3, .int (nI lf))]) hx hb dX4_member_31 hl (k := 3) rfl (nI_add i 1) (by decide) rfl (fun ls hl => ?_)
          refine lv_goto (tgt := 5) hx hb dX4_member_34 (by decide) ?_
          exact ih_2 (i + 1) lf ls (by omega) (by omega) (by rw [cntB_f (by assumption)]; exact hlf) (lv_sub hl [1, 2, 3, 0] rfl)
        · -- 18: bI (inS x i) ne
          have c_6 : inS x i = true := bI_t (c_6)
          refine lv_iload_n hx hb dX4_member_21 rfl (lv_at hl 2 rfl) ?_
          refine lv_if_ne (tgt := 28) hx hb dX4_member_22 (by decide) (fun c_7 => ?_) (fun c_7 => ?_)
          · -- 22: nI lf ne
            have c_7 : lf ≠ 0 := by have h := mt (nI_eq (a := lf) (b := 0) (by omega) (by omega)).mpr c_7; omega
            refine lv_iinc (v := nI (lf - 1)) (lv' := [(3, .int (nI (lf - 1))), (0, .long x), (2, .int (nI q)), (4, .int (nI i))]) hx hb dX4_member_28 hl (k := 2) rfl (nI_dec (by omega)) (by decide) rfl (fun ls hl => ?_)
            refine lv_iinc (v := nI (i + 1)) (lv' := [(4, .int (nI (i + 1))), (3, .int (nI (lf - 1))), (0, .long x), (2, .int (nI q))]) hx hb dX4_member_31 hl (k := 3) rfl (nI_add i 1) (by decide) rfl (fun ls hl => ?_)
            refine lv_goto (tgt := 5) hx hb dX4_member_34 (by decide) ?_
            exact ih_2 (i + 1) (lf - 1) ls (by omega) (by omega) (by rw [cntB_t (by assumption)]; omega) (lv_sub hl [2, 3, 1, 0] rfl)
          · -- 22: nI lf eq
            have c_7 : lf = 0 := (nI_eq (a := lf) (b := 0) (by omega) (by omega)).mp (c_7)
            refine lv_iload hx hb dX4_member_25 (lv_at hl 3 rfl) ?_
            subst hQ
            exact e_Ri hx hb hr rfl hlocks (⟨i, by omega, rfl, by assumption, by omega⟩) dX4_member_27
  exact lp5_1 ((40 - 0) + 1) 0 q ls (Nat.lt_succ_self _) (by omega) (rfl) (lv_sub hl [2, 3, 1, 0] rfl)

/-- X4_answersWith -/
abbrev rm_c_X4_answersWith : Room := { frames := 1, cells := 0, slots := 0, locals := 21 }
set_option maxHeartbeats 4000000 in
set_option maxRecDepth 100000 in
theorem c_X4_answersWith (l : Launch) (G : GG) (z : Nat) (ad : Nat → Nat) (M : Mem) {qm : Nat} {pz : Nat} {aa : Nat} {uv : Nat} {nt : Nat → Bool} {rx : Nat → Int64} {dm : Nat → Int64} {q : Nat} (h23 : M 23 = some (cMatcher ad qm pz)) (h26 : M 26 = some (aJ G 240 rx)) (h27 : M 27 = some (aJ G 3 dm)) (hk : M qm = some (cQuestion ad qm aa uv)) (q2 : M (qm + 2) = some (aZ G 6 (bF nt))) (haa : aa ≤ 6) (hq : q < 40) : Met l yX4_answersWith wsX4_answersWith rm_c_X4_answersWith (Pr G z ad M [.ref (ad 23), .int (nI q)]) (vp_Sl (fun r : Int64 => ∀ t, inS r t = true ↔ inS (dm 2) t = true ∧ aw rx nt q aa t)) 0 0 (fun _ => False) := by
  refine Met.ofW (cc := cX4_answersWith) (maxL := 7) (ret := (some .long)) (by decide) rfl ?_
  intro p e s m args below meth c s₁ B hml hv
  obtain ⟨rfl, hv⟩ := hv
  have hI := Iv.entry hv
  have hx := B.exec
  have hb := B.bytes
  have hr := B.returns
  have hts := atoms_spec (ws := wsX4_answersWith) B.pre
  have hown : s.vm.findClass RX4 = some m.cls := findClass_of_methodNamed B.named
  have hlocks := B.notSynchronized
  have i_RX4 : ∀ w ∈ u_ws RX4 TX4 7, w ∈ wsX4_answersWith := fun w h => List.mem_cons_of_mem _ (iu_X4 w h)
  have f_22 := hts _ (List.mem_cons_of_mem _ (lwg_of t_218 rfl))
  have f_31 := hts _ (List.mem_cons_of_mem _ (lwg_of t_220 rfl))
  have f_19 := hts _ (List.mem_cons_of_mem _ (lwg_of t_217 rfl))
  have k_138 := hts _ (List.mem_cons_of_mem _ (lwg_of t_425 rfl))
  have hl := lv_entry ([.ref (ad 23), .int (nI q)]) (n := 7) (Nat.le_of_ble_eq_true rfl)
  rw [lg_entry_eq]
  generalize (lg_sl ([.ref (ad 23), .int (nI q)]) ++ List.replicate (7 - (lg_sl ([.ref (ad 23), .int (nI q)])).length) Slot.unset).toArray = ls at hl ⊢
  have hl : lv_has ls 7 [(0, .ref (ad 23)), (1, .int (nI q))] := hl
  refine w_q (fun Q hQ => ?_)
  refine lv_aload_n hx hb dX4_answersWith_0 rfl (lv_at hl 0 rfl) ?_
  refine h_get (C := RX4) (T := TX4) (N := 7) hx hb hts i_RX4 hown hI h23 rfl 3 (by decide) f_22 rfl rfl dX4_answersWith_1 ?_
  refine lv_iconst (v := nI 2) hx hb dX4_answersWith_4 (by decide) ?_
  refine h_lald (i := 2) hx hb hI h27 (by omega) (by decide) dX4_answersWith_5 ?_
  refine lv_lstore_n (lv' := [(2, .long (dm 2)), (0, .ref (ad 23)), (1, .int (nI q))]) hx hb dX4_answersWith_6 rfl hl (by decide) rfl (fun ls hl => ?_)
  refine lv_iconst (v := nI 0) hx hb dX4_answersWith_7 (by decide) ?_
  refine lv_istore (lv' := [(4, .int (nI 0)), (2, .long (dm 2)), (0, .ref (ad 23)), (1, .int (nI q))]) hx hb dX4_answersWith_8 hl (by decide) rfl (fun ls hl => ?_)
  have lp10_1 : ∀ (fuel : Nat) (i : Nat) (y : Int64) (ls : Array Slot), (aa - i) < fuel → (i ≤ aa) → (∀ t, inS y t = true ↔ inS (dm 2) t = true ∧ aw rx nt q i t) → lv_has ls 7 [(0, .ref (ad 23)), (1, .int (nI q)), (2, .long y), (4, .int (nI i))] → W p l e (headSpec wsX4_answersWith rm_c_X4_answersWith).room s m ([.ref (ad 23), .int (nI q)] : List Value).toArray below meth c s.heap [] 0 0 Q (F0 m 10 ls []) := by
    intro fuel
    induction fuel with
    | zero => intro i y ls hfu hi hy hl; exact absurd hfu (Nat.not_lt_zero _)
    | succ fuel ih_2 =>
      intro i y ls hfu hi hy hl
      refine lv_iload hx hb dX4_answersWith_10 (lv_at hl 3 rfl) ?_
      refine lv_aload_n hx hb dX4_answersWith_12 rfl (lv_at hl 0 rfl) ?_
      refine h_get (C := RX4) (T := TX4) (N := 7) hx hb hts i_RX4 hown hI h23 rfl 5 (by decide) f_31 rfl rfl dX4_answersWith_13 ?_
      refine k_Ri (va_runV (As := []) (rest := [.int (nI i)]) ⟨hx, hb, hml, hown, hts⟩ (c_X6_atoms l G z ad M (k := qm) (aa := aa) (uv := uv) hk) (cwV 0 hts (gV (lwg_of t_323 rfl) (lwg_of t_316 rfl) (lwg_of t_317 rfl) (lwg_of t_12 rfl) (lwg_of t_318 rfl)) rfl rfl rfl (by decide +kernel) ⟨Nat.le_of_ble_eq_true rfl, Nat.le_of_ble_eq_true rfl⟩) (hI.preV hk rfl) rfl rfl hl.1 rfl (lv_room (Nat.le_of_ble_eq_true rfl)) dX4_answersWith_16 ⟨Nat.le_of_ble_eq_true rfl, Nat.le_of_ble_eq_true rfl⟩) (fun _ h => h) (fun r_3 hp_4 => ?_)
      rw [hp_4]
      refine lv_icmp_ge (tgt := 68) hx hb dX4_answersWith_19 (by decide) (fun c_5 => ?_) (fun c_5 => ?_)
      · -- 19: nI i ge
        have c_5 : aa ≤ i := (nI_leI (a := aa) (b := i) (by omega) (by omega)).mp (c_5)
        refine lv_lload_n hx hb dX4_answersWith_68 rfl (lv_at hl 2 rfl) ?_
        subst hQ
        exact e_Rl hx hb hr hlocks (by rw [show aa = i by omega]; exact hy) dX4_answersWith_69
      · -- 19: nI i lt
        have c_5 : i < aa := by have h := mt (nI_leI (a := aa) (b := i) (by omega) (by omega)).mpr c_5; omega
        refine lv_aload_n hx hb dX4_answersWith_22 rfl (lv_at hl 0 rfl) ?_
        refine h_get (C := RX4) (T := TX4) (N := 7) hx hb hts i_RX4 hown hI h23 rfl 2 (by decide) f_19 rfl rfl dX4_answersWith_23 ?_
        refine lv_iload hx hb dX4_answersWith_26 (lv_at hl 3 rfl) ?_
        refine lv_bipush (v := nI 40) hx hb dX4_answersWith_28 (by decide) ?_
        refine lv_imul hx hb dX4_answersWith_30 ?_
        refine n_eq (pk_mul i 40) ?_
        refine lv_iload_n hx hb dX4_answersWith_31 rfl (lv_at hl 1 rfl) ?_
        refine lv_iadd hx hb dX4_answersWith_32 ?_
        refine n_eq (nI_add (i * 40) q) ?_
        refine h_lald (i := (i * 40) + q) hx hb hI h26 (by omega) (by decide) dX4_answersWith_33 ?_
        refine lv_lstore (lv' := [(5, .long (rx ((i * 40) + q))), (0, .ref (ad 23)), (1, .int (nI q)), (2, .long y), (4, .int (nI i))]) hx hb dX4_answersWith_34 hl (by decide) rfl (fun ls hl => ?_)
        refine lv_lload_n hx hb dX4_answersWith_36 rfl (lv_at hl 3 rfl) ?_
        refine lv_aload_n hx hb dX4_answersWith_37 rfl (lv_at hl 1 rfl) ?_
        refine h_get (C := RX4) (T := TX4) (N := 7) hx hb hts i_RX4 hown hI h23 rfl 5 (by decide) f_31 rfl rfl dX4_answersWith_38 ?_
        refine lv_iload hx hb dX4_answersWith_41 (lv_at hl 4 rfl) ?_
        refine k_Ri (va_runV (As := [.int (nI i)]) (rest := [.long y]) ⟨hx, hb, hml, hown, hts⟩ (c_X6_isNot l G z ad M (k := qm) (aa := aa) (uv := uv) (nt := nt) (i := i) hk q2 (by omega)) (cwV 1 hts (gV (lwg_of t_393 rfl) (lwg_of t_394 rfl) (lwg_of t_395 rfl) (lwg_of t_12 rfl) (lwg_of t_396 rfl)) rfl rfl rfl (by decide +kernel) ⟨Nat.le_of_ble_eq_true rfl, Nat.le_of_ble_eq_true rfl⟩) (hI.preV hk rfl) rfl rfl hl.1 rfl (lv_room (Nat.le_of_ble_eq_true rfl)) dX4_answersWith_43 ⟨Nat.le_of_ble_eq_true rfl, Nat.le_of_ble_eq_true rfl⟩) (fun _ h => h) (fun r_6 hp_7 => ?_)
        rw [hp_7]
        refine lv_if_eq (tgt := 58) hx hb dX4_answersWith_46 (by decide) (fun c_8 => ?_) (fun c_8 => ?_)
        · -- 46: bI (nt i) eq
          have c_8 : nt i = false := bI_f (c_8)
          refine lv_lload hx hb dX4_answersWith_58 (lv_at hl 0 rfl) ?_
          refine lv_land hx hb dX4_answersWith_60 ?_
          refine lv_lstore_n (lv' := [(2, .long (y &&& (rx ((i * 40) + q)))), (5, .long (rx ((i * 40) + q))), (0, .ref (ad 23)), (1, .int (nI q)), (4, .int (nI i))]) hx hb dX4_answersWith_61 rfl hl (by decide) rfl (fun ls hl => ?_)
          refine lv_iinc (v := nI (i + 1)) (lv' := [(4, .int (nI (i + 1))), (2, .long (y &&& (rx ((i * 40) + q)))), (5, .long (rx ((i * 40) + q))), (0, .ref (ad 23)), (1, .int (nI q))]) hx hb dX4_answersWith_62 hl (k := 4) rfl (nI_add i 1) (by decide) rfl (fun ls hl => ?_)
          refine lv_goto (tgt := 10) hx hb dX4_answersWith_65 (by decide) ?_
          exact ih_2 (i + 1) (y &&& (rx ((i * 40) + q))) ls (by omega) (by omega) (aw_pos hy (by assumption)) (lv_sub hl [3, 4, 1, 0] rfl)
        · -- 46: bI (nt i) ne
          have c_8 : nt i = true := bI_t (c_8)
          refine lv_lload hx hb dX4_answersWith_49 (lv_at hl 0 rfl) ?_
          refine lv_ldc2 hx hb hown k_138 dX4_answersWith_51 ?_
          refine lv_lxor hx hb dX4_answersWith_54 ?_
          refine lv_goto (tgt := 60) hx hb dX4_answersWith_55 (by decide) ?_
          refine lv_land hx hb dX4_answersWith_60 ?_
          refine lv_lstore_n (lv' := [(2, .long (y &&& ((rx ((i * 40) + q)) ^^^ (-1)))), (5, .long (rx ((i * 40) + q))), (0, .ref (ad 23)), (1, .int (nI q)), (4, .int (nI i))]) hx hb dX4_answersWith_61 rfl hl (by decide) rfl (fun ls hl => ?_)
          refine lv_iinc (v := nI (i + 1)) (lv' := [(4, .int (nI (i + 1))), (2, .long (y &&& ((rx ((i * 40) + q)) ^^^ (-1)))), (5, .long (rx ((i * 40) + q))), (0, .ref (ad 23)), (1, .int (nI q))]) hx hb dX4_answersWith_62 hl (k := 4) rfl (nI_add i 1) (by decide) rfl (fun ls hl => ?_)
          refine lv_goto (tgt := 10) hx hb dX4_answersWith_65 (by decide) ?_
          exact ih_2 (i + 1) (y &&& ((rx ((i * 40) + q)) ^^^ (-1))) ls (by omega) (by omega) (aw_neg hy (by assumption)) (lv_sub hl [3, 4, 1, 0] rfl)
  exact lp10_1 ((aa - 0) + 1) 0 (dm 2) ls (Nat.lt_succ_self _) (by omega) (aw_0) (lv_sub hl [2, 3, 1, 0] rfl)

/-- X4_fillRow -/
abbrev rm_c_X4_fillRow : Room := { frames := 1, cells := 0, slots := 0, locals := 22 }
set_option maxHeartbeats 4000000 in
set_option maxRecDepth 100000 in
theorem c_X4_fillRow (l : Launch) (G : GG) (z : Nat) (ad : Nat → Nat) (M : Mem) {qm : Nat} {pz : Nat} {sx : Nat → Int64} {ft : Nat → Nat} {rx : Nat → Int64} {i : Nat} {a : Nat} (h23 : M 23 = some (cMatcher ad qm pz)) (h24 : M 24 = some (aJ G 2160 sx)) (h25 : M 25 = some (aI G 6 (nF ft))) (h26 : M 26 = some (aJ G 240 rx)) (hi : i < 6) (ha : a < 40) (hft : ft i ≤ 120) : Met l yX4_fillRow wsX4_fillRow rm_c_X4_fillRow (Pr G z ad M [.ref (ad 23), .int (nI i), .int (nI a)]) (Nv G z ad (fun (M' : Mem) => ∃ r2 : Nat → Int64, M' 26 = some (aJ G 240 r2) ∧ (∀ j : Nat, j ≠ 26 → M' j = M j) ∧ (rwR sx r2 i a (ft i) ∧ oth r2 rx i))) 0 0 (fr z) := by
  refine Met.ofW (cc := cX4_fillRow) (maxL := 7) (ret := none) (by decide) rfl ?_
  intro p e s m args below meth c s₁ B hml hv
  obtain ⟨rfl, hv⟩ := hv
  have hI := Iv.entry hv
  have hx := B.exec
  have hb := B.bytes
  have hr := B.returns
  have hts := atoms_spec (ws := wsX4_fillRow) B.pre
  have hown : s.vm.findClass RX4 = some m.cls := findClass_of_methodNamed B.named
  have hlocks := B.notSynchronized
  have i_RX4 : ∀ w ∈ u_ws RX4 TX4 7, w ∈ wsX4_fillRow := fun w h => List.mem_cons_of_mem _ (iu_X4 w h)
  have f_15 := hts _ (List.mem_cons_of_mem _ (lwg_of t_216 rfl))
  have f_9 := hts _ (List.mem_cons_of_mem _ (lwg_of t_215 rfl))
  have st_84 := hts _ (List.mem_cons_of_mem _ (lwg_of t_419 rfl))
  have si_84 := hts _ (List.mem_cons_of_mem _ (lwg_of t_1 rfl))
  have f_19 := hts _ (List.mem_cons_of_mem _ (lwg_of t_217 rfl))
  have hl := lv_entry ([.ref (ad 23), .int (nI i), .int (nI a)]) (n := 7) (Nat.le_of_ble_eq_true rfl)
  rw [lg_entry_eq]
  generalize (lg_sl ([.ref (ad 23), .int (nI i), .int (nI a)]) ++ List.replicate (7 - (lg_sl ([.ref (ad 23), .int (nI i), .int (nI a)])).length) Slot.unset).toArray = ls at hl ⊢
  have hl : lv_has ls 7 [(0, .ref (ad 23)), (1, .int (nI i)), (2, .int (nI a))] := hl
  refine w_q (fun Q hQ => ?_)
  refine lv_iload_n hx hb dX4_fillRow_0 rfl (lv_at hl 1 rfl) ?_
  refine lv_bipush (v := nI 40) hx hb dX4_fillRow_1 (by decide) ?_
  refine lv_imul hx hb dX4_fillRow_3 ?_
  refine n_eq (pk_mul i 40) ?_
  refine lv_istore_n (lv' := [(3, .int (nI (i * 40))), (0, .ref (ad 23)), (1, .int (nI i)), (2, .int (nI a))]) hx hb dX4_fillRow_4 rfl hl (by decide) rfl (fun ls hl => ?_)
  refine lv_iconst (v := nI 0) hx hb dX4_fillRow_5 (by decide) ?_
  refine lv_istore (lv' := [(4, .int (nI 0)), (3, .int (nI (i * 40))), (0, .ref (ad 23)), (1, .int (nI i)), (2, .int (nI a))]) hx hb dX4_fillRow_6 hl (by decide) rfl (fun ls hl => ?_)
  have lp8_1 : ∀ (fuel : Nat) (j : Nat) (g : Nat → Int64) (Mx : Mem) (Hx : Heap) (locsx : List Loc) (ls : Array Slot), (40 - j) < fuel → (j ≤ 40) → (∀ b, b < j → g (i * 40 + b) = 0) → (oth g rx i) → Iv G z ad Mx s Hx locsx → Mx 26 = some (aJ G 240 g) → (∀ j : Nat, j ≠ 26 → Mx j = M j) → lv_has ls 7 [(0, .ref (ad 23)), (1, .int (nI i)), (2, .int (nI a)), (3, .int (nI (i * 40))), (4, .int (nI j))] → W p l e (headSpec wsX4_fillRow rm_c_X4_fillRow).room s m ([.ref (ad 23), .int (nI i), .int (nI a)] : List Value).toArray below meth c Hx locsx 0 0 Q (F0 m 8 ls []) := by
    intro fuel
    induction fuel with
    | zero => intro j g Mx Hx locsx ls hfu hj hz ho hI hm_2 hF_4 hl; exact absurd hfu (Nat.not_lt_zero _)
    | succ fuel ih_5 =>
      intro j g Mx Hx locsx ls hfu hj hz ho hI hm_2 hF_4 hl
      have hm_6 : Mx 23 = some (cMatcher ad qm pz) := by rw [hF_4 23 (by omega)]; exact h23
      have hm_7 : Mx 24 = some (aJ G 2160 sx) := by rw [hF_4 24 (by omega)]; exact h24
      have hm_8 : Mx 25 = some (aI G 6 (nF ft)) := by rw [hF_4 25 (by omega)]; exact h25
      refine lv_iload hx hb dX4_fillRow_8 (lv_at hl 4 rfl) ?_
      refine lv_bipush (v := nI 40) hx hb dX4_fillRow_10 (by decide) ?_
      refine lv_icmp_ge (tgt := 31) hx hb dX4_fillRow_12 (by decide) (fun c_9 => ?_) (fun c_9 => ?_)
      · -- 12: nI j ge
        have c_9 : 40 ≤ j := (nI_leI (a := 40) (b := j) (by omega) (by omega)).mp (c_9)
        refine lv_iconst (v := nI 0) hx hb dX4_fillRow_31 (by decide) ?_
        refine lv_istore (lv' := [(4, .int (nI 0)), (0, .ref (ad 23)), (1, .int (nI i)), (2, .int (nI a)), (3, .int (nI (i * 40)))]) hx hb dX4_fillRow_32 hl (by decide) rfl (fun ls hl => ?_)
        have lp34_10 : ∀ (fuel : Nat) (f : Nat) (g : Nat → Int64) (Mx : Mem) (Hx : Heap) (locsx : List Loc) (ls : Array Slot), (ft i - f) < fuel → (f ≤ ft i) → (rwR sx g i a f) → (oth g rx i) → Iv G z ad Mx s Hx locsx → Mx 26 = some (aJ G 240 g) → (∀ j : Nat, j ≠ 26 → Mx j = M j) → lv_has ls 7 [(0, .ref (ad 23)), (1, .int (nI i)), (2, .int (nI a)), (3, .int (nI (i * 40))), (4, .int (nI f))] → W p l e (headSpec wsX4_fillRow rm_c_X4_fillRow).room s m ([.ref (ad 23), .int (nI i), .int (nI a)] : List Value).toArray below meth c Hx locsx 0 0 Q (F0 m 34 ls []) := by
          intro fuel
          induction fuel with
          | zero => intro f g Mx Hx locsx ls hfu hf hR ho hI hm_11 hF_13 hl; exact absurd hfu (Nat.not_lt_zero _)
          | succ fuel ih_14 =>
            intro f g Mx Hx locsx ls hfu hf hR ho hI hm_11 hF_13 hl
            have hm_15 : Mx 23 = some (cMatcher ad qm pz) := by rw [hF_13 23 (by omega)]; exact h23
            have hm_16 : Mx 24 = some (aJ G 2160 sx) := by rw [hF_13 24 (by omega)]; exact h24
            have hm_17 : Mx 25 = some (aI G 6 (nF ft)) := by rw [hF_13 25 (by omega)]; exact h25
            refine lv_iload hx hb dX4_fillRow_34 (lv_at hl 4 rfl) ?_
            refine lv_aload_n hx hb dX4_fillRow_36 rfl (lv_at hl 0 rfl) ?_
            refine h_get (C := RX4) (T := TX4) (N := 7) hx hb hts i_RX4 hown hI hm_15 rfl 1 (by decide) f_15 rfl rfl dX4_fillRow_37 ?_
            refine lv_iload_n hx hb dX4_fillRow_40 rfl (lv_at hl 1 rfl) ?_
            refine h_iald (i := i) hx hb hI hm_17 (by omega) (by decide) dX4_fillRow_41 ?_
            refine lv_icmp_ge (tgt := 133) hx hb dX4_fillRow_42 (by decide) (fun c_18 => ?_) (fun c_18 => ?_)
            · -- 42: nI f ge
              have c_18 : ft i ≤ f := (nI_leI (a := ft i) (b := f) (by omega) (by omega)).mp (c_18)
              subst hQ
              exact e_Nv hx hb hr hlocks hI ⟨g, hm_11, (fun j q0 => hF_13 j q0), ⟨(by rw [show ft i = f by omega]; exact hR), ho⟩⟩ dX4_fillRow_133
            · -- 42: nI f lt
              have c_18 : f < ft i := by have h := mt (nI_leI (a := ft i) (b := f) (by omega) (by omega)).mpr c_18; omega
              refine lv_iload_n hx hb dX4_fillRow_45 rfl (lv_at hl 1 rfl) ?_
              refine lv_bipush (v := nI 120) hx hb dX4_fillRow_46 (by decide) ?_
              refine lv_imul hx hb dX4_fillRow_48 ?_
              refine n_eq (pk_mul i 120) ?_
              refine lv_iload hx hb dX4_fillRow_49 (lv_at hl 4 rfl) ?_
              refine lv_iadd hx hb dX4_fillRow_51 ?_
              refine n_eq (nI_add (i * 120) f) ?_
              refine lv_iconst (v := nI 3) hx hb dX4_fillRow_52 (by decide) ?_
              refine lv_imul hx hb dX4_fillRow_53 ?_
              refine n_eq (pk_mul ((i * 120) + f) 3) ?_
              refine lv_istore (lv' := [(5, .int (nI (((i * 120) + f) * 3))), (0, .ref (ad 23)), (1, .int (nI i)), (2, .int (nI a)), (3, .int (nI (i * 40))), (4, .int (nI f))]) hx hb dX4_fillRow_54 hl (by decide) rfl (fun ls hl => ?_)
              refine lv_aload_n hx hb dX4_fillRow_56 rfl (lv_at hl 1 rfl) ?_
              refine h_get (C := RX4) (T := TX4) (N := 7) hx hb hts i_RX4 hown hI hm_15 rfl 0 (by decide) f_9 rfl rfl dX4_fillRow_57 ?_
              refine lv_iload hx hb dX4_fillRow_60 (lv_at hl 0 rfl) ?_
              refine h_lald (i := ((i * 120) + f) * 3) hx hb hI hm_16 (by omega) (by decide) dX4_fillRow_62 ?_
              refine lv_iload_n hx hb dX4_fillRow_63 rfl (lv_at hl 3 rfl) ?_
              refine k_Ri (va_runSN (As := [.long (sx (((i * 120) + f) * 3)), .int (nI a)]) (rest := []) ⟨hx, hb, hml, hown, hts⟩ (c_X9_isIn l G z ad Mx (x := sx (((i * 120) + f) * 3)) (t := a) (by omega)) ⟨va_cnB 2 hts (gU (lwg_of t_420 rfl)) rfl rfl rfl (nwm_at (i := 8) (q := ("LineStore$Matcher", 84, ⟨"LineStore", "isIn", "(JI)Z"⟩, "LineStore")) hI rfl) si_84 (by decide +kernel) ⟨Nat.le_of_ble_eq_true rfl, Nat.le_of_ble_eq_true rfl⟩, st_84, trivial⟩ hI.preS rfl rfl hl.1 rfl (lv_room (Nat.le_of_ble_eq_true rfl)) dX4_fillRow_64 ⟨Nat.le_of_ble_eq_true rfl, Nat.le_of_ble_eq_true rfl⟩) (fun _ h => h) (fun r_19 hp_20 => ?_)
              rw [hp_20]
              refine lv_if_ne (tgt := 73) hx hb dX4_fillRow_67 (by decide) (fun c_21 => ?_) (fun c_21 => ?_)
              · -- 67: bI (inS (sx (((i * 120) + f) * 3)) a) ne
                have c_21 : inS (sx (((i * 120) + f) * 3)) a = true := bI_t (c_21)
                refine lv_iconst (v := nI 0) hx hb dX4_fillRow_73 (by decide) ?_
                refine lv_istore (lv' := [(6, .int (nI 0)), (5, .int (nI (((i * 120) + f) * 3))), (0, .ref (ad 23)), (1, .int (nI i)), (2, .int (nI a)), (3, .int (nI (i * 40))), (4, .int (nI f))]) hx hb dX4_fillRow_74 hl (by decide) rfl (fun ls hl => ?_)
                have lp76_22 : ∀ (fuel : Nat) (j : Nat) (g2 : Nat → Int64) (Mx : Mem) (Hx : Heap) (locsx : List Loc) (ls : Array Slot), (40 - j) < fuel → (j ≤ 40) → (rwJ sx g2 i a f j) → (oth g2 rx i) → Iv G z ad Mx s Hx locsx → Mx 26 = some (aJ G 240 g2) → (∀ j : Nat, j ≠ 26 → Mx j = M j) → lv_has ls 7 [(0, .ref (ad 23)), (1, .int (nI i)), (2, .int (nI a)), (3, .int (nI (i * 40))), (4, .int (nI f)), (5, .int (nI ((i * 120 + f) * 3))), (6, .int (nI j))] → W p l e (headSpec wsX4_fillRow rm_c_X4_fillRow).room s m ([.ref (ad 23), .int (nI i), .int (nI a)] : List Value).toArray below meth c Hx locsx 0 0 Q (F0 m 76 ls []) := by
                  intro fuel
                  induction fuel with
                  | zero => intro j g2 Mx Hx locsx ls hfu hj hJ ho2 hI hm_23 hF_25 hl; exact absurd hfu (Nat.not_lt_zero _)
                  | succ fuel ih_26 =>
                    intro j g2 Mx Hx locsx ls hfu hj hJ ho2 hI hm_23 hF_25 hl
                    have hm_27 : Mx 23 = some (cMatcher ad qm pz) := by rw [hF_25 23 (by omega)]; exact h23
                    have hm_28 : Mx 24 = some (aJ G 2160 sx) := by rw [hF_25 24 (by omega)]; exact h24
                    have hm_29 : Mx 25 = some (aI G 6 (nF ft)) := by rw [hF_25 25 (by omega)]; exact h25
                    refine lv_iload hx hb dX4_fillRow_76 (lv_at hl 6 rfl) ?_
                    refine lv_bipush (v := nI 40) hx hb dX4_fillRow_78 (by decide) ?_
                    refine lv_icmp_ge (tgt := 127) hx hb dX4_fillRow_80 (by decide) (fun c_30 => ?_) (fun c_30 => ?_)
                    · -- 80: nI j ge
                      have c_30 : 40 ≤ j := (nI_leI (a := 40) (b := j) (by omega) (by omega)).mp (c_30)
                      refine lv_iinc (v := nI (f + 1)) (lv' := [(4, .int (nI (f + 1))), (0, .ref (ad 23)), (1, .int (nI i)), (2, .int (nI a)), (3, .int (nI (i * 40))), (5, .int (nI ((i * 120 + f) * 3))), (6, .int (nI j))]) hx hb dX4_fillRow_127 hl (k := 4) rfl (nI_add f 1) (by decide) rfl (fun ls hl => ?_)
                      refine lv_goto (tgt := 34) hx hb dX4_fillRow_130 (by decide) ?_
                      exact ih_14 (f + 1) g2 Mx Hx locsx ls (by omega) (by omega) (rwJ_e (by rw [show 40 = j by omega]; exact hJ)) (ho2) hI hm_23 (fun j q0 => hF_25 j q0) (lv_sub hl [1, 2, 3, 4, 0] rfl)
                    · -- 80: nI j lt
                      have c_30 : j < 40 := by have h := mt (nI_leI (a := 40) (b := j) (by omega) (by omega)).mpr c_30; omega
                      refine lv_aload_n hx hb dX4_fillRow_83 rfl (lv_at hl 0 rfl) ?_
                      refine h_get (C := RX4) (T := TX4) (N := 7) hx hb hts i_RX4 hown hI hm_27 rfl 0 (by decide) f_9 rfl rfl dX4_fillRow_84 ?_
                      refine lv_iload hx hb dX4_fillRow_87 (lv_at hl 5 rfl) ?_
                      refine lv_iconst (v := nI 1) hx hb dX4_fillRow_89 (by decide) ?_
                      refine lv_iadd hx hb dX4_fillRow_90 ?_
                      refine n_eq (nI_add ((i * 120 + f) * 3) 1) ?_
                      refine h_lald (i := ((i * 120 + f) * 3) + 1) hx hb hI hm_28 (by omega) (by decide) dX4_fillRow_91 ?_
                      refine lv_iload hx hb dX4_fillRow_92 (lv_at hl 6 rfl) ?_
                      refine k_Ri (va_runSN (As := [.long (sx (((i * 120 + f) * 3) + 1)), .int (nI j)]) (rest := []) ⟨hx, hb, hml, hown, hts⟩ (c_X9_isIn l G z ad Mx (x := sx (((i * 120 + f) * 3) + 1)) (t := j) (by omega)) ⟨va_cnB 2 hts (gU (lwg_of t_420 rfl)) rfl rfl rfl (nwm_at (i := 8) (q := ("LineStore$Matcher", 84, ⟨"LineStore", "isIn", "(JI)Z"⟩, "LineStore")) hI rfl) si_84 (by decide +kernel) ⟨Nat.le_of_ble_eq_true rfl, Nat.le_of_ble_eq_true rfl⟩, st_84, trivial⟩ hI.preS rfl rfl hl.1 rfl (lv_room (Nat.le_of_ble_eq_true rfl)) dX4_fillRow_94 ⟨Nat.le_of_ble_eq_true rfl, Nat.le_of_ble_eq_true rfl⟩) (fun _ h => h) (fun r_31 hp_32 => ?_)
                      rw [hp_32]
                      refine lv_if_eq (tgt := 121) hx hb dX4_fillRow_97 (by decide) (fun c_33 => ?_) (fun c_33 => ?_)
                      · -- 97: bI (inS (sx (((i * 120 + f) * 3) + 1)) j) eq
                        have c_33 : inS (sx (((i * 120 + f) * 3) + 1)) j = false := bI_f (c_33)
                        refine lv_iinc (v := nI (j + 1)) (lv' := [(6, .int (nI (j + 1))), (0, .ref (ad 23)), (1, .int (nI i)), (2, .int (nI a)), (3, .int (nI (i * 40))), (4, .int (nI f)), (5, .int (nI ((i * 120 + f) * 3)))]) hx hb dX4_fillRow_121 hl (k := 6) rfl (nI_add j 1) (by decide) rfl (fun ls hl => ?_)
                        refine lv_goto (tgt := 76) hx hb dX4_fillRow_124 (by decide) ?_
                        exact ih_26 (j + 1) g2 Mx Hx locsx ls (by omega) (by omega) (rwJ_no hJ (by assumption)) (ho2) hI hm_23 (fun j q0 => hF_25 j q0) (lv_sub hl [1, 2, 3, 4, 5, 6, 0] rfl)
                      · -- 97: bI (inS (sx (((i * 120 + f) * 3) + 1)) j) ne
                        have c_33 : inS (sx (((i * 120 + f) * 3) + 1)) j = true := bI_t (c_33)
                        refine lv_aload_n hx hb dX4_fillRow_100 rfl (lv_at hl 0 rfl) ?_
                        refine h_get (C := RX4) (T := TX4) (N := 7) hx hb hts i_RX4 hown hI hm_27 rfl 2 (by decide) f_19 rfl rfl dX4_fillRow_101 ?_
                        refine lv_iload_n hx hb dX4_fillRow_104 rfl (lv_at hl 3 rfl) ?_
                        refine lv_iload hx hb dX4_fillRow_105 (lv_at hl 6 rfl) ?_
                        refine lv_iadd hx hb dX4_fillRow_107 ?_
                        refine n_eq (nI_add (i * 40) j) ?_
                        refine lv_dup2_11 hx hb dX4_fillRow_108 rfl rfl ?_
                        refine h_lald (i := (i * 40) + j) hx hb hI hm_23 (by omega) (by decide) dX4_fillRow_109 ?_
                        refine lv_aload_n hx hb dX4_fillRow_110 rfl (lv_at hl 0 rfl) ?_
                        refine h_get (C := RX4) (T := TX4) (N := 7) hx hb hts i_RX4 hown hI hm_27 rfl 0 (by decide) f_9 rfl rfl dX4_fillRow_111 ?_
                        refine lv_iload hx hb dX4_fillRow_114 (lv_at hl 5 rfl) ?_
                        refine lv_iconst (v := nI 2) hx hb dX4_fillRow_116 (by decide) ?_
                        refine lv_iadd hx hb dX4_fillRow_117 ?_
                        refine n_eq (nI_add ((i * 120 + f) * 3) 2) ?_
                        refine h_lald (i := ((i * 120 + f) * 3) + 2) hx hb hI hm_28 (by omega) (by decide) dX4_fillRow_118 ?_
                        refine lv_lor hx hb dX4_fillRow_119 ?_
                        refine h_last (i := (i * 40) + j) (x := (g2 ((i * 40) + j)) ||| (sx (((i * 120 + f) * 3) + 2))) hx hb hI hm_23 (by omega) (by decide) dX4_fillRow_120 (fun M_34 H_35 locs_36 eM_37 hI => ?_)
                        have hm_38 : M_34 23 = some (cMatcher ad qm pz) := by rw [eM_37, va_up_ne _ _ (by decide)]; exact hm_27
                        have hm_39 : M_34 24 = some (aJ G 2160 sx) := by rw [eM_37, va_up_ne _ _ (by decide)]; exact hm_28
                        have hm_40 : M_34 25 = some (aI G 6 (nF ft)) := by rw [eM_37, va_up_ne _ _ (by decide)]; exact hm_29
                        have hm_41 : M_34 26 = some (aJ G 240 (vp_updL g2 ((i * 40) + j) ((g2 ((i * 40) + j)) ||| (sx (((i * 120 + f) * 3) + 2))))) := by rw [eM_37]; exact va_up_self _ _ _
                        have hF_42 : ∀ j : Nat, j ≠ 26 → M_34 j = M j := fun j q0 => by rw [eM_37, va_up_ne _ _ q0]; exact hF_25 j q0
                        refine lv_iinc (v := nI (j + 1)) (lv' := [(6, .int (nI (j + 1))), (0, .ref (ad 23)), (1, .int (nI i)), (2, .int (nI a)), (3, .int (nI (i * 40))), (4, .int (nI f)), (5, .int (nI ((i * 120 + f) * 3)))]) hx hb dX4_fillRow_121 hl (k := 6) rfl (nI_add j 1) (by decide) rfl (fun ls hl => ?_)
                        refine lv_goto (tgt := 76) hx hb dX4_fillRow_124 (by decide) ?_
                        exact ih_26 (j + 1) (vp_updL g2 ((i * 40) + j) ((g2 ((i * 40) + j)) ||| (sx (((i * 120 + f) * 3) + 2)))) M_34 H_35 locs_36 ls (by omega) (by omega) (rwJ_yes (by omega) hJ (by assumption) (by assumption)) (oth_up ho2 (by omega)) hI hm_41 (fun j q0 => hF_42 j q0) (lv_sub hl [1, 2, 3, 4, 5, 6, 0] rfl)
                exact lp76_22 ((40 - 0) + 1) 0 g Mx Hx locsx ls (Nat.lt_succ_self _) (by omega) (rwJ_0 hR) (ho) hI hm_11 (fun j q0 => hF_13 j q0) (lv_sub hl [2, 3, 4, 5, 6, 1, 0] rfl)
              · -- 67: bI (inS (sx (((i * 120) + f) * 3)) a) eq
                have c_21 : inS (sx (((i * 120) + f) * 3)) a = false := bI_f (c_21)
                refine lv_goto (tgt := 127) hx hb dX4_fillRow_70 (by decide) ?_
                refine lv_iinc (v := nI (f + 1)) (lv' := [(4, .int (nI (f + 1))), (5, .int (nI (((i * 120) + f) * 3))), (0, .ref (ad 23)), (1, .int (nI i)), (2, .int (nI a)), (3, .int (nI (i * 40)))]) hx hb dX4_fillRow_127 hl (k := 5) rfl (nI_add f 1) (by decide) rfl (fun ls hl => ?_)
                refine lv_goto (tgt := 34) hx hb dX4_fillRow_130 (by decide) ?_
                exact ih_14 (f + 1) g Mx Hx locsx ls (by omega) (by omega) (rwR_no hR (by assumption)) (ho) hI hm_11 (fun j q0 => hF_13 j q0) (lv_sub hl [2, 3, 4, 5, 0] rfl)
        exact lp34_10 ((ft i - 0) + 1) 0 g Mx Hx locsx ls (Nat.lt_succ_self _) (by omega) (rwR_0 (fun b hb => hz b (by omega))) (ho) hI hm_2 (fun j q0 => hF_4 j q0) (lv_sub hl [1, 2, 3, 4, 0] rfl)
      · -- 12: nI j lt
        have c_9 : j < 40 := by have h := mt (nI_leI (a := 40) (b := j) (by omega) (by omega)).mpr c_9; omega
        refine lv_aload_n hx hb dX4_fillRow_15 rfl (lv_at hl 0 rfl) ?_
        refine h_get (C := RX4) (T := TX4) (N := 7) hx hb hts i_RX4 hown hI hm_6 rfl 2 (by decide) f_19 rfl rfl dX4_fillRow_16 ?_
        refine lv_iload_n hx hb dX4_fillRow_19 rfl (lv_at hl 3 rfl) ?_
        refine lv_iload hx hb dX4_fillRow_20 (lv_at hl 4 rfl) ?_
        refine lv_iadd hx hb dX4_fillRow_22 ?_
        refine n_eq (nI_add (i * 40) j) ?_
        refine lv_lconst (v := 0) hx hb dX4_fillRow_23 (by decide) ?_
        refine h_last (i := (i * 40) + j) (x := (0 : Int64)) hx hb hI hm_2 (by omega) (by decide) dX4_fillRow_24 (fun M_43 H_44 locs_45 eM_46 hI => ?_)
        have hm_47 : M_43 23 = some (cMatcher ad qm pz) := by rw [eM_46, va_up_ne _ _ (by decide)]; exact hm_6
        have hm_48 : M_43 24 = some (aJ G 2160 sx) := by rw [eM_46, va_up_ne _ _ (by decide)]; exact hm_7
        have hm_49 : M_43 25 = some (aI G 6 (nF ft)) := by rw [eM_46, va_up_ne _ _ (by decide)]; exact hm_8
        have hm_50 : M_43 26 = some (aJ G 240 (vp_updL g ((i * 40) + j) (0 : Int64))) := by rw [eM_46]; exact va_up_self _ _ _
        have hF_51 : ∀ j : Nat, j ≠ 26 → M_43 j = M j := fun j q0 => by rw [eM_46, va_up_ne _ _ q0]; exact hF_4 j q0
        refine lv_iinc (v := nI (j + 1)) (lv' := [(4, .int (nI (j + 1))), (0, .ref (ad 23)), (1, .int (nI i)), (2, .int (nI a)), (3, .int (nI (i * 40)))]) hx hb dX4_fillRow_25 hl (k := 4) rfl (nI_add j 1) (by decide) rfl (fun ls hl => ?_)
        refine lv_goto (tgt := 8) hx hb dX4_fillRow_28 (by decide) ?_
        exact ih_5 (j + 1) (vp_updL g ((i * 40) + j) (0 : Int64)) M_43 H_44 locs_45 ls (by omega) (by omega) (lt_s2 (fun b hb => (updL_ne _ _ (by omega)).trans (hz b hb)) (updL_self _ _ _)) (oth_up ho (by omega)) hI hm_50 (fun j q0 => hF_51 j q0) (lv_sub hl [1, 2, 3, 4, 0] rfl)
  exact lp8_1 ((40 - 0) + 1) 0 rx M s.heap [] ls (Nat.lt_succ_self _) (by omega) (fun b hb => absurd hb (Nat.not_lt_zero b)) (fun _ _ => rfl) hI h26 (fun j _ => rfl) (lv_sub hl [2, 3, 4, 1, 0] rfl)
