/-- the things that the first n ends have in the role x, as they count now -/
def tS (rl : Nat → Nat) (th : Nat → Option Nat) (lst : Nat → Nat) (x : Nat) (n t : Nat) : Prop := ∃ i, i < n ∧ rl i = x ∧ ∃ u, th i = some u ∧ lst u = t
def aS (th : Nat → Option Nat) (lst : Nat → Nat) (n t : Nat) : Prop := ∃ i, i < n ∧ ∃ u, th i = some u ∧ lst u = t
theorem tS_0 {rl : Nat → Nat} {th : Nat → Option Nat} {lst : Nat → Nat} {x t : Nat} : inS 0 t = true ↔ tS rl th lst x 0 t := ⟨fun h => (by rw [inS_0] at h; cases h), fun ⟨i, h, _⟩ => absurd h (Nat.not_lt_zero i)⟩
theorem aS_0 {th : Nat → Option Nat} {lst : Nat → Nat} {t : Nat} : inS 0 t = true ↔ aS th lst 0 t := ⟨fun h => (by rw [inS_0] at h; cases h), fun ⟨i, h, _⟩ => absurd h (Nat.not_lt_zero i)⟩
theorem tS_no {rl : Nat → Nat} {th : Nat → Option Nat} {lst : Nat → Nat} {x n : Nat} {y : Int64} (h : ∀ t, inS y t = true ↔ tS rl th lst x n t) (hn : rl n ≠ x ∨ th n = none) : ∀ t, inS y t = true ↔ tS rl th lst x (n + 1) t := fun t => (h t).trans ⟨fun ⟨i, h1, h2⟩ => ⟨i, by omega, h2⟩, fun ⟨i, h1, h2, u, h3, h4⟩ => by
  by_cases hi : i = n
  · subst hi
    rcases hn with hn | hn
    · exact absurd h2 hn
    · rw [hn] at h3; cases h3
  · exact ⟨i, by omega, h2, u, h3, h4⟩⟩
theorem tS_yes {rl : Nat → Nat} {th : Nat → Option Nat} {lst : Nat → Nat} {x n u : Nat} {y : Int64} (h : ∀ t, inS y t = true ↔ tS rl th lst x n t) (hr : rl n = x) (hu : th n = some u) (hl : lst u < 64) : ∀ t, inS (y ||| (1 : Int64) <<< ((nI (lst u)).toInt64 &&& 63)) t = true ↔ tS rl th lst x (n + 1) t := fun t => by
  rw [inS_or, inS_shl hl, Bool.or_eq_true, decide_eq_true_eq, h t]
  constructor
  · rintro (⟨i, h1, h2⟩ | rfl)
    · exact ⟨i, by omega, h2⟩
    · exact ⟨n, by omega, hr, u, hu, rfl⟩
  · rintro ⟨i, h1, h2, v, h3, h4⟩
    by_cases hi : i = n
    · subst hi
      rw [hu] at h3
      cases h3
      exact Or.inr h4.symm
    · exact Or.inl ⟨i, by omega, h2, v, h3, h4⟩
theorem aS_no {th : Nat → Option Nat} {lst : Nat → Nat} {n : Nat} {y : Int64} (h : ∀ t, inS y t = true ↔ aS th lst n t) (hn : th n = none) : ∀ t, inS y t = true ↔ aS th lst (n + 1) t := fun t => (h t).trans ⟨fun ⟨i, h1, h2⟩ => ⟨i, by omega, h2⟩, fun ⟨i, h1, u, h3, h4⟩ => by
  by_cases hi : i = n
  · subst hi
    rw [hn] at h3; cases h3
  · exact ⟨i, by omega, u, h3, h4⟩⟩
theorem aS_yes {th : Nat → Option Nat} {lst : Nat → Nat} {n u : Nat} {y : Int64} (h : ∀ t, inS y t = true ↔ aS th lst n t) (hu : th n = some u) (hl : lst u < 64) : ∀ t, inS (y ||| (1 : Int64) <<< ((nI (lst u)).toInt64 &&& 63)) t = true ↔ aS th lst (n + 1) t := fun t => by
  rw [inS_or, inS_shl hl, Bool.or_eq_true, decide_eq_true_eq, h t]
  constructor
  · rintro (⟨i, h1, h2⟩ | rfl)
    · exact ⟨i, by omega, h2⟩
    · exact ⟨n, by omega, u, hu, rfl⟩
  · rintro ⟨i, h1, v, h3, h4⟩
    by_cases hi : i = n
    · subst hi
      rw [hu] at h3
      cases h3
      exact Or.inr h4.symm
    · exact Or.inl ⟨i, by omega, v, h3, h4⟩

/-- X0_thingsInRole -/
abbrev rm_c_X0_thingsInRole : Room := { frames := 1, cells := 0, slots := 0, locals := 21 }
set_option maxHeartbeats 4000000 in
set_option maxRecDepth 100000 in
theorem c_X0_thingsInRole (l : Launch) (G : GG) (z : Nat) (ad : Nat → Nat) (M : Mem) {k : Nat} {sz : Nat} {rl : Nat → Nat} {th : Nat → Option Nat} {jn : Nat} {lst : Nat → Nat} {x : Nat} (hk : M k = some (cEnds ad k sz)) (hk1 : M (k + 1) = some (aI G 6 (nF rl))) (hk2 : M (k + 2) = some (aI G 6 (oF th))) (h8 : M 8 = some (cOnes ad jn)) (h10 : M 10 = some (aI G 40 (nF lst))) (hsz : sz ≤ 6) (ok_th : ∀ j, j < sz → oK (th j)) (hth : ∀ j, j < sz → ∀ u, th j = some u → u < 40) (hlst : ∀ u, u < 40 → lst u < 40) (hrl : ∀ j, j < sz → rl j < 6) (hx6 : x < 6) : Met l yX0_thingsInRole wsX0_thingsInRole rm_c_X0_thingsInRole (Pr G z ad M [.ref (ad k), .int (nI x), .ref (ad 8)]) (vp_Sl (fun r : Int64 => ∀ t, inS r t = true ↔ tS rl th lst x sz t)) 0 0 (fun _ => False) := by
  refine Met.ofW (cc := cX0_thingsInRole) (maxL := 6) (ret := (some .long)) (by decide) rfl ?_
  intro p e s m args below meth c s₁ B hml hv
  obtain ⟨rfl, hv⟩ := hv
  have hI := Iv.entry hv
  have hx := B.exec
  have hb := B.bytes
  have hr := B.returns
  have hts := atoms_spec (ws := wsX0_thingsInRole) B.pre
  have hown : s.vm.findClass RX0 = some m.cls := findClass_of_methodNamed B.named
  have hlocks := B.notSynchronized
  have i_RX0 : ∀ w ∈ u_ws RX0 TX0 4, w ∈ wsX0_thingsInRole := fun w h => List.mem_cons_of_mem _ (iu_X0 w h)
  have f_21 := hts _ (List.mem_cons_of_mem _ (lwg_of t_103 rfl))
  have f_9 := hts _ (List.mem_cons_of_mem _ (lwg_of t_100 rfl))
  have f_15 := hts _ (List.mem_cons_of_mem _ (lwg_of t_101 rfl))
  have hl := lv_entry ([.ref (ad k), .int (nI x), .ref (ad 8)]) (n := 6) (Nat.le_of_ble_eq_true rfl)
  rw [lg_entry_eq]
  generalize (lg_sl ([.ref (ad k), .int (nI x), .ref (ad 8)]) ++ List.replicate (6 - (lg_sl ([.ref (ad k), .int (nI x), .ref (ad 8)])).length) Slot.unset).toArray = ls at hl ⊢
  have hl : lv_has ls 6 [(0, .ref (ad k)), (1, .int (nI x)), (2, .ref (ad 8))] := hl
  refine w_q (fun Q hQ => ?_)
  refine lv_lconst (v := 0) hx hb dX0_thingsInRole_0 (by decide) ?_
  refine lv_lstore_n (lv' := [(3, .long (0 : Int64)), (0, .ref (ad k)), (1, .int (nI x)), (2, .ref (ad 8))]) hx hb dX0_thingsInRole_1 rfl hl (by decide) rfl (fun ls hl => ?_)
  refine lv_iconst (v := nI 0) hx hb dX0_thingsInRole_2 (by decide) ?_
  refine lv_istore (lv' := [(5, .int (nI 0)), (3, .long (0 : Int64)), (0, .ref (ad k)), (1, .int (nI x)), (2, .ref (ad 8))]) hx hb dX0_thingsInRole_3 hl (by decide) rfl (fun ls hl => ?_)
  have lp5_1 : ∀ (fuel : Nat) (i : Nat) (y : Int64) (ls : Array Slot), (sz - i) < fuel → (i ≤ sz) → (∀ t, inS y t = true ↔ tS rl th lst x i t) → lv_has ls 6 [(0, .ref (ad k)), (1, .int (nI x)), (2, .ref (ad 8)), (3, .long y), (5, .int (nI i))] → W p l e (headSpec wsX0_thingsInRole rm_c_X0_thingsInRole).room s m ([.ref (ad k), .int (nI x), .ref (ad 8)] : List Value).toArray below meth c s.heap [] 0 0 Q (F0 m 5 ls []) := by
    intro fuel
    induction fuel with
    | zero => intro i y ls hfu hi hy hl; exact absurd hfu (Nat.not_lt_zero _)
    | succ fuel ih_2 =>
      intro i y ls hfu hi hy hl
      refine lv_iload hx hb dX0_thingsInRole_5 (lv_at hl 4 rfl) ?_
      refine lv_aload_n hx hb dX0_thingsInRole_7 rfl (lv_at hl 0 rfl) ?_
      refine h_get (C := RX0) (T := TX0) (N := 4) hx hb hts i_RX0 hown hI hk rfl 3 (by decide) f_21 rfl rfl dX0_thingsInRole_8 ?_
      refine lv_icmp_ge (tgt := 58) hx hb dX0_thingsInRole_11 (by decide) (fun c_3 => ?_) (fun c_3 => ?_)
      · -- 11: nI i ge
        have c_3 : sz ≤ i := (nI_leI (a := sz) (b := i) (by omega) (by omega)).mp (c_3)
        refine lv_lload_n hx hb dX0_thingsInRole_58 rfl (lv_at hl 3 rfl) ?_
        subst hQ
        exact e_Rl hx hb hr hlocks (by rw [show sz = i by omega]; exact hy) dX0_thingsInRole_59
      · -- 11: nI i lt
        have c_3 : i < sz := by have h := mt (nI_leI (a := sz) (b := i) (by omega) (by omega)).mpr c_3; omega
        have hri := hrl i (by omega)
        refine lv_aload_n hx hb dX0_thingsInRole_14 rfl (lv_at hl 0 rfl) ?_
        refine h_get (C := RX0) (T := TX0) (N := 4) hx hb hts i_RX0 hown hI hk rfl 0 (by decide) f_9 rfl rfl dX0_thingsInRole_15 ?_
        refine lv_iload hx hb dX0_thingsInRole_18 (lv_at hl 4 rfl) ?_
        refine h_iald (i := i) hx hb hI hk1 (by omega) (by decide) dX0_thingsInRole_20 ?_
        refine lv_iload_n hx hb dX0_thingsInRole_21 rfl (lv_at hl 1 rfl) ?_
        refine lv_icmp_ne (tgt := 52) hx hb dX0_thingsInRole_22 (by decide) (fun c_4 => ?_) (fun c_4 => ?_)
        · -- 22: nI (rl i) ne
          have c_4 : rl i ≠ x := by have h := mt (nI_eq (a := rl i) (b := x) (by omega) (by omega)).mpr c_4; omega
          refine lv_iinc (v := nI (i + 1)) (lv' := [(5, .int (nI (i + 1))), (0, .ref (ad k)), (1, .int (nI x)), (2, .ref (ad 8)), (3, .long y)]) hx hb dX0_thingsInRole_52 hl (k := 4) rfl (nI_add i 1) (by decide) rfl (fun ls hl => ?_)
          refine lv_goto (tgt := 5) hx hb dX0_thingsInRole_55 (by decide) ?_
          exact ih_2 (i + 1) y ls (by omega) (by omega) (tS_no hy (by first | exact Or.inl (by assumption) | exact Or.inr (by assumption))) (lv_sub hl [1, 2, 3, 4, 0] rfl)
        · -- 22: nI (rl i) eq
          have c_4 : rl i = x := (nI_eq (a := rl i) (b := x) (by omega) (by omega)).mp (c_4)
          refine lv_aload_n hx hb dX0_thingsInRole_25 rfl (lv_at hl 0 rfl) ?_
          refine h_get (C := RX0) (T := TX0) (N := 4) hx hb hts i_RX0 hown hI hk rfl 1 (by decide) f_15 rfl rfl dX0_thingsInRole_26 ?_
          refine lv_iload hx hb dX0_thingsInRole_29 (lv_at hl 4 rfl) ?_
          refine h_iald (i := i) hx hb hI hk2 (by omega) (by decide) dX0_thingsInRole_31 ?_
          refine lv_iconst (v := (-1)) hx hb dX0_thingsInRole_32 (by decide) ?_
          refine lv_icmp_eq (tgt := 52) hx hb dX0_thingsInRole_33 (by decide) (fun c_5 => ?_) (fun c_5 => ?_)
          · -- 33: oI (th i) eq
            have c_5 : th i = none := (oI_none_of (ok_th i (by omega))).mp c_5
            refine lv_iinc (v := nI (i + 1)) (lv' := [(5, .int (nI (i + 1))), (0, .ref (ad k)), (1, .int (nI x)), (2, .ref (ad 8)), (3, .long y)]) hx hb dX0_thingsInRole_52 hl (k := 4) rfl (nI_add i 1) (by decide) rfl (fun ls hl => ?_)
            refine lv_goto (tgt := 5) hx hb dX0_thingsInRole_55 (by decide) ?_
            exact ih_2 (i + 1) y ls (by omega) (by omega) (tS_no hy (by first | exact Or.inl (by assumption) | exact Or.inr (by assumption))) (lv_sub hl [1, 2, 3, 4, 0] rfl)
          · -- 33: oI (th i) ne
            have c_5 : th i ≠ none := (fun h => c_5 ((oI_none_of (ok_th i (by omega))).mpr h))
            obtain ⟨u, hu⟩ := Option.ne_none_iff_exists'.mp (by assumption : th i ≠ none)
            have hu4 := hth i (by omega) u hu
            have hl4 := hlst u hu4
            refine lv_lload_n hx hb dX0_thingsInRole_36 rfl (lv_at hl 3 rfl) ?_
            refine lv_lconst (v := 1) hx hb dX0_thingsInRole_37 (by decide) ?_
            refine lv_aload_n hx hb dX0_thingsInRole_38 rfl (lv_at hl 2 rfl) ?_
            refine lv_aload_n hx hb dX0_thingsInRole_39 rfl (lv_at hl 0 rfl) ?_
            refine h_get (C := RX0) (T := TX0) (N := 4) hx hb hts i_RX0 hown hI hk rfl 1 (by decide) f_15 rfl rfl dX0_thingsInRole_40 ?_
            refine lv_iload hx hb dX0_thingsInRole_43 (lv_at hl 4 rfl) ?_
            refine h_iald (i := i) hx hb hI hk2 (by omega) (by decide) dX0_thingsInRole_45 ?_
            refine n_eq (show _ = nI u from by show oI (th i) = _; rw [hu]; rfl) ?_
            refine k_Ri (va_runV (As := [.int (nI u)]) (rest := [.long (1 : Int64), .long y]) ⟨hx, hb, hml, hown, hts⟩ (c_X5_of l G z ad M (jn := jn) (lst := lst) (t := u) h8 h10 (by omega)) (cwV 1 hts (gV (lwg_of t_376 rfl) (lwg_of t_377 rfl) (lwg_of t_378 rfl) (lwg_of t_4 rfl) (lwg_of t_379 rfl)) rfl rfl rfl (by decide +kernel) ⟨Nat.le_of_ble_eq_true rfl, Nat.le_of_ble_eq_true rfl⟩) (hI.preV h8 rfl) rfl rfl hl.1 rfl (lv_room (Nat.le_of_ble_eq_true rfl)) dX0_thingsInRole_46 ⟨Nat.le_of_ble_eq_true rfl, Nat.le_of_ble_eq_true rfl⟩) (fun _ h => h) (fun r_6 hp_7 => ?_)
            rw [hp_7]
            refine lv_lshl (v := (1 : Int64) <<< ((nI (lst u)).toInt64 &&& 63)) hx hb dX0_thingsInRole_49 rfl ?_
            refine lv_lor hx hb dX0_thingsInRole_50 ?_
            refine lv_lstore_n (lv' := [(3, .long (y ||| ((1 : Int64) <<< ((nI (lst u)).toInt64 &&& 63)))), (0, .ref (ad k)), (1, .int (nI x)), (2, .ref (ad 8)), (5, .int (nI i))]) hx hb dX0_thingsInRole_51 rfl hl (by decide) rfl (fun ls hl => ?_)
            refine lv_iinc (v := nI (i + 1)) (lv' := [(5, .int (nI (i + 1))), (3, .long (y ||| ((1 : Int64) <<< ((nI (lst u)).toInt64 &&& 63)))), (0, .ref (ad k)), (1, .int (nI x)), (2, .ref (ad 8))]) hx hb dX0_thingsInRole_52 hl (k := 4) rfl (nI_add i 1) (by decide) rfl (fun ls hl => ?_)
            refine lv_goto (tgt := 5) hx hb dX0_thingsInRole_55 (by decide) ?_
            exact ih_2 (i + 1) (y ||| ((1 : Int64) <<< ((nI (lst u)).toInt64 &&& 63))) ls (by omega) (by omega) (tS_yes hy (by assumption) hu (by omega)) (lv_sub hl [2, 3, 4, 1, 0] rfl)
  exact lp5_1 ((sz - 0) + 1) 0 (0 : Int64) ls (Nat.lt_succ_self _) (by omega) (fun t => tS_0) (lv_sub hl [2, 3, 4, 1, 0] rfl)

/-- X0_allThings -/
abbrev rm_c_X0_allThings : Room := { frames := 1, cells := 0, slots := 0, locals := 21 }
set_option maxHeartbeats 4000000 in
set_option maxRecDepth 100000 in
theorem c_X0_allThings (l : Launch) (G : GG) (z : Nat) (ad : Nat → Nat) (M : Mem) {k : Nat} {sz : Nat} {th : Nat → Option Nat} {jn : Nat} {lst : Nat → Nat} (hk : M k = some (cEnds ad k sz)) (hk2 : M (k + 2) = some (aI G 6 (oF th))) (h8 : M 8 = some (cOnes ad jn)) (h10 : M 10 = some (aI G 40 (nF lst))) (hsz : sz ≤ 6) (ok_th : ∀ j, j < sz → oK (th j)) (hth : ∀ j, j < sz → ∀ u, th j = some u → u < 40) (hlst : ∀ u, u < 40 → lst u < 40) : Met l yX0_allThings wsX0_allThings rm_c_X0_allThings (Pr G z ad M [.ref (ad k), .ref (ad 8)]) (vp_Sl (fun r : Int64 => ∀ t, inS r t = true ↔ aS th lst sz t)) 0 0 (fun _ => False) := by
  refine Met.ofW (cc := cX0_allThings) (maxL := 5) (ret := (some .long)) (by decide) rfl ?_
  intro p e s m args below meth c s₁ B hml hv
  obtain ⟨rfl, hv⟩ := hv
  have hI := Iv.entry hv
  have hx := B.exec
  have hb := B.bytes
  have hr := B.returns
  have hts := atoms_spec (ws := wsX0_allThings) B.pre
  have hown : s.vm.findClass RX0 = some m.cls := findClass_of_methodNamed B.named
  have hlocks := B.notSynchronized
  have i_RX0 : ∀ w ∈ u_ws RX0 TX0 4, w ∈ wsX0_allThings := fun w h => List.mem_cons_of_mem _ (iu_X0 w h)
  have f_21 := hts _ (List.mem_cons_of_mem _ (lwg_of t_103 rfl))
  have f_15 := hts _ (List.mem_cons_of_mem _ (lwg_of t_101 rfl))
  have hl := lv_entry ([.ref (ad k), .ref (ad 8)]) (n := 5) (Nat.le_of_ble_eq_true rfl)
  rw [lg_entry_eq]
  generalize (lg_sl ([.ref (ad k), .ref (ad 8)]) ++ List.replicate (5 - (lg_sl ([.ref (ad k), .ref (ad 8)])).length) Slot.unset).toArray = ls at hl ⊢
  have hl : lv_has ls 5 [(0, .ref (ad k)), (1, .ref (ad 8))] := hl
  refine w_q (fun Q hQ => ?_)
  refine lv_lconst (v := 0) hx hb dX0_allThings_0 (by decide) ?_
  refine lv_lstore_n (lv' := [(2, .long (0 : Int64)), (0, .ref (ad k)), (1, .ref (ad 8))]) hx hb dX0_allThings_1 rfl hl (by decide) rfl (fun ls hl => ?_)
  refine lv_iconst (v := nI 0) hx hb dX0_allThings_2 (by decide) ?_
  refine lv_istore (lv' := [(4, .int (nI 0)), (2, .long (0 : Int64)), (0, .ref (ad k)), (1, .ref (ad 8))]) hx hb dX0_allThings_3 hl (by decide) rfl (fun ls hl => ?_)
  have lp5_1 : ∀ (fuel : Nat) (i : Nat) (y : Int64) (ls : Array Slot), (sz - i) < fuel → (i ≤ sz) → (∀ t, inS y t = true ↔ aS th lst i t) → lv_has ls 5 [(0, .ref (ad k)), (1, .ref (ad 8)), (2, .long y), (4, .int (nI i))] → W p l e (headSpec wsX0_allThings rm_c_X0_allThings).room s m ([.ref (ad k), .ref (ad 8)] : List Value).toArray below meth c s.heap [] 0 0 Q (F0 m 5 ls []) := by
    intro fuel
    induction fuel with
    | zero => intro i y ls hfu hi hy hl; exact absurd hfu (Nat.not_lt_zero _)
    | succ fuel ih_2 =>
      intro i y ls hfu hi hy hl
      refine lv_iload hx hb dX0_allThings_5 (lv_at hl 3 rfl) ?_
      refine lv_aload_n hx hb dX0_allThings_7 rfl (lv_at hl 0 rfl) ?_
      refine h_get (C := RX0) (T := TX0) (N := 4) hx hb hts i_RX0 hown hI hk rfl 3 (by decide) f_21 rfl rfl dX0_allThings_8 ?_
      refine lv_icmp_ge (tgt := 47) hx hb dX0_allThings_11 (by decide) (fun c_3 => ?_) (fun c_3 => ?_)
      · -- 11: nI i ge
        have c_3 : sz ≤ i := (nI_leI (a := sz) (b := i) (by omega) (by omega)).mp (c_3)
        refine lv_lload_n hx hb dX0_allThings_47 rfl (lv_at hl 2 rfl) ?_
        subst hQ
        exact e_Rl hx hb hr hlocks (by rw [show sz = i by omega]; exact hy) dX0_allThings_48
      · -- 11: nI i lt
        have c_3 : i < sz := by have h := mt (nI_leI (a := sz) (b := i) (by omega) (by omega)).mpr c_3; omega
        refine lv_aload_n hx hb dX0_allThings_14 rfl (lv_at hl 0 rfl) ?_
        refine h_get (C := RX0) (T := TX0) (N := 4) hx hb hts i_RX0 hown hI hk rfl 1 (by decide) f_15 rfl rfl dX0_allThings_15 ?_
        refine lv_iload hx hb dX0_allThings_18 (lv_at hl 3 rfl) ?_
        refine h_iald (i := i) hx hb hI hk2 (by omega) (by decide) dX0_allThings_20 ?_
        refine lv_iconst (v := (-1)) hx hb dX0_allThings_21 (by decide) ?_
        refine lv_icmp_eq (tgt := 41) hx hb dX0_allThings_22 (by decide) (fun c_4 => ?_) (fun c_4 => ?_)
        · -- 22: oI (th i) eq
          have c_4 : th i = none := (oI_none_of (ok_th i (by omega))).mp c_4
          refine lv_iinc (v := nI (i + 1)) (lv' := [(4, .int (nI (i + 1))), (0, .ref (ad k)), (1, .ref (ad 8)), (2, .long y)]) hx hb dX0_allThings_41 hl (k := 3) rfl (nI_add i 1) (by decide) rfl (fun ls hl => ?_)
          refine lv_goto (tgt := 5) hx hb dX0_allThings_44 (by decide) ?_
          exact ih_2 (i + 1) y ls (by omega) (by omega) (aS_no hy (by assumption)) (lv_sub hl [1, 2, 3, 0] rfl)
        · -- 22: oI (th i) ne
          have c_4 : th i ≠ none := (fun h => c_4 ((oI_none_of (ok_th i (by omega))).mpr h))
          obtain ⟨u, hu⟩ := Option.ne_none_iff_exists'.mp (by assumption : th i ≠ none)
          have hu4 := hth i (by omega) u hu
          have hl4 := hlst u hu4
          refine lv_lload_n hx hb dX0_allThings_25 rfl (lv_at hl 2 rfl) ?_
          refine lv_lconst (v := 1) hx hb dX0_allThings_26 (by decide) ?_
          refine lv_aload_n hx hb dX0_allThings_27 rfl (lv_at hl 1 rfl) ?_
          refine lv_aload_n hx hb dX0_allThings_28 rfl (lv_at hl 0 rfl) ?_
          refine h_get (C := RX0) (T := TX0) (N := 4) hx hb hts i_RX0 hown hI hk rfl 1 (by decide) f_15 rfl rfl dX0_allThings_29 ?_
          refine lv_iload hx hb dX0_allThings_32 (lv_at hl 3 rfl) ?_
          refine h_iald (i := i) hx hb hI hk2 (by omega) (by decide) dX0_allThings_34 ?_
          refine n_eq (show _ = nI u from by show oI (th i) = _; rw [hu]; rfl) ?_
          refine k_Ri (va_runV (As := [.int (nI u)]) (rest := [.long (1 : Int64), .long y]) ⟨hx, hb, hml, hown, hts⟩ (c_X5_of l G z ad M (jn := jn) (lst := lst) (t := u) h8 h10 (by omega)) (cwV 1 hts (gV (lwg_of t_376 rfl) (lwg_of t_377 rfl) (lwg_of t_378 rfl) (lwg_of t_4 rfl) (lwg_of t_379 rfl)) rfl rfl rfl (by decide +kernel) ⟨Nat.le_of_ble_eq_true rfl, Nat.le_of_ble_eq_true rfl⟩) (hI.preV h8 rfl) rfl rfl hl.1 rfl (lv_room (Nat.le_of_ble_eq_true rfl)) dX0_allThings_35 ⟨Nat.le_of_ble_eq_true rfl, Nat.le_of_ble_eq_true rfl⟩) (fun _ h => h) (fun r_5 hp_6 => ?_)
          rw [hp_6]
          refine lv_lshl (v := (1 : Int64) <<< ((nI (lst u)).toInt64 &&& 63)) hx hb dX0_allThings_38 rfl ?_
          refine lv_lor hx hb dX0_allThings_39 ?_
          refine lv_lstore_n (lv' := [(2, .long (y ||| ((1 : Int64) <<< ((nI (lst u)).toInt64 &&& 63)))), (0, .ref (ad k)), (1, .ref (ad 8)), (4, .int (nI i))]) hx hb dX0_allThings_40 rfl hl (by decide) rfl (fun ls hl => ?_)
          refine lv_iinc (v := nI (i + 1)) (lv' := [(4, .int (nI (i + 1))), (2, .long (y ||| ((1 : Int64) <<< ((nI (lst u)).toInt64 &&& 63)))), (0, .ref (ad k)), (1, .ref (ad 8))]) hx hb dX0_allThings_41 hl (k := 3) rfl (nI_add i 1) (by decide) rfl (fun ls hl => ?_)
          refine lv_goto (tgt := 5) hx hb dX0_allThings_44 (by decide) ?_
          exact ih_2 (i + 1) (y ||| ((1 : Int64) <<< ((nI (lst u)).toInt64 &&& 63))) ls (by omega) (by omega) (aS_yes hy hu (by omega)) (lv_sub hl [2, 3, 1, 0] rfl)
  exact lp5_1 ((sz - 0) + 1) 0 (0 : Int64) ls (Nat.lt_succ_self _) (by omega) (fun t => aS_0) (lv_sub hl [2, 3, 1, 0] rfl)

/-- X0_clear -/
abbrev rm_c_X0_clear : Room := { frames := 0, cells := 0, slots := 0, locals := 0 }
set_option maxHeartbeats 4000000 in
set_option maxRecDepth 100000 in
theorem c_X0_clear (l : Launch) (G : GG) (z : Nat) (ad : Nat → Nat) (M : Mem) {sz : Nat} (h12 : M 12 = some (cEnds ad 12 sz))  : Met l yX0_clear wsX0_clear rm_c_X0_clear (Pr G z ad M [.ref (ad 12)]) (Nv G z ad (fun (M' : Mem) => M' 12 = some (cEnds ad 12 0) ∧ (∀ j : Nat, j ≠ 12 → M' j = M j))) 0 0 (fr z) := by
  refine Met.ofW (cc := cX0_clear) (maxL := 1) (ret := none) (by decide) rfl ?_
  intro p e s m args below meth c s₁ B hml hv
  obtain ⟨rfl, hv⟩ := hv
  have hI := Iv.entry hv
  have hx := B.exec
  have hb := B.bytes
  have hr := B.returns
  have hts := atoms_spec (ws := wsX0_clear) B.pre
  have hown : s.vm.findClass RX0 = some m.cls := findClass_of_methodNamed B.named
  have hlocks := B.notSynchronized
  have f_21 := hts _ (List.mem_cons_of_mem _ (lwg_of t_103 rfl))
  have i_RX0 : ∀ w ∈ u_ws RX0 TX0 4, w ∈ wsX0_clear := fun w h => List.mem_cons_of_mem _ (iu_X0 w h)
  have hl := lv_entry ([.ref (ad 12)]) (n := 1) (Nat.le_of_ble_eq_true rfl)
  rw [lg_entry_eq]
  generalize (lg_sl ([.ref (ad 12)]) ++ List.replicate (1 - (lg_sl ([.ref (ad 12)])).length) Slot.unset).toArray = ls at hl ⊢
  have hl : lv_has ls 1 [(0, .ref (ad 12))] := hl
  refine lv_aload_n hx hb dX0_clear_0 rfl (lv_at hl 0 rfl) ?_
  refine lv_iconst (v := nI 0) hx hb dX0_clear_1 (by decide) ?_
  refine h_put (C := RX0) (T := TX0) (N := 4) hx hb hts i_RX0 tyX0 tyX0_ok nmX0 hown hI h12 rfl 3 (by decide) f_21 rfl rfl rfl rfl (Nat.le_of_ble_eq_true rfl) dX0_clear_2 (fun M_1 H_2 locs_3 eM_4 hI => ?_)
  have hm_5 : M_1 12 = some (cEnds ad 12 0) := by rw [eM_4]; exact va_up_self _ _ _
  have hF_6 : ∀ j : Nat, j ≠ 12 → M_1 j = M j := fun j q0 => by rw [eM_4, va_up_ne _ _ q0]
  exact e_Nv hx hb hr hlocks hI ⟨hm_5, (fun j q0 => hF_6 j q0)⟩ dX0_clear_5

/-- X0_add -/
abbrev rm_c_X0_add : Room := { frames := 0, cells := 0, slots := 0, locals := 0 }
set_option maxHeartbeats 4000000 in
set_option maxRecDepth 100000 in
theorem c_X0_add (l : Launch) (G : GG) (z : Nat) (ad : Nat → Nat) (M : Mem) {sz : Nat} {rl : Nat → Nat} {th : Nat → Option Nat} {ol : Nat → Option Nat} {x : Nat} {b : Bool} {n : Nat} (h12 : M 12 = some (cEnds ad 12 sz)) (h13 : M 13 = some (aI G 6 (nF rl))) (h14 : M 14 = some (aI G 6 (oF th))) (h15 : M 15 = some (aI G 6 (oF ol))) (hsz : sz < 6) : Met l yX0_add wsX0_add rm_c_X0_add (Pr G z ad M [.ref (ad 12), .int (nI x), .int (bI b), .int (nI n)]) (Ni G z ad (fun (r : Int32) (M' : Mem) => r = nI 1 ∧ M' 12 = some (cEnds ad 12 (sz + 1)) ∧ M' 13 = some (aI G 6 (nF (va_up rl sz x))) ∧ M' 14 = some (aI G 6 (oF (va_up th sz (if b = true then none else some n)))) ∧ M' 15 = some (aI G 6 (oF (va_up ol sz (if b = true then some n else none)))) ∧ (∀ j : Nat, j ≠ 12 → j ≠ 13 → j ≠ 14 → j ≠ 15 → M' j = M j))) 0 0 (fr z) := by
  refine Met.ofW (cc := cX0_add) (maxL := 4) (ret := (some .boolean)) (by decide) rfl ?_
  intro p e s m args below meth c s₁ B hml hv
  obtain ⟨rfl, hv⟩ := hv
  have hI := Iv.entry hv
  have hx := B.exec
  have hb := B.bytes
  have hr := B.returns
  have hts := atoms_spec (ws := wsX0_add) B.pre
  have hown : s.vm.findClass RX0 = some m.cls := findClass_of_methodNamed B.named
  have hlocks := B.notSynchronized
  have i_RX0 : ∀ w ∈ u_ws RX0 TX0 4, w ∈ wsX0_add := fun w h => List.mem_cons_of_mem _ (iu_X0 w h)
  have f_21 := hts _ (List.mem_cons_of_mem _ (lwg_of t_103 rfl))
  have f_9 := hts _ (List.mem_cons_of_mem _ (lwg_of t_100 rfl))
  have f_15 := hts _ (List.mem_cons_of_mem _ (lwg_of t_101 rfl))
  have f_18 := hts _ (List.mem_cons_of_mem _ (lwg_of t_102 rfl))
  have hl := lv_entry ([.ref (ad 12), .int (nI x), .int (bI b), .int (nI n)]) (n := 4) (Nat.le_of_ble_eq_true rfl)
  rw [lg_entry_eq]
  generalize (lg_sl ([.ref (ad 12), .int (nI x), .int (bI b), .int (nI n)]) ++ List.replicate (4 - (lg_sl ([.ref (ad 12), .int (nI x), .int (bI b), .int (nI n)])).length) Slot.unset).toArray = ls at hl ⊢
  have hl : lv_has ls 4 [(0, .ref (ad 12)), (1, .int (nI x)), (2, .int (bI b)), (3, .int (nI n))] := hl
  refine lv_aload_n hx hb dX0_add_0 rfl (lv_at hl 0 rfl) ?_
  refine h_get (C := RX0) (T := TX0) (N := 4) hx hb hts i_RX0 hown hI h12 rfl 3 (by decide) f_21 rfl rfl dX0_add_1 ?_
  refine lv_bipush (v := nI 6) hx hb dX0_add_4 (by decide) ?_
  refine lv_icmp_lt (tgt := 11) hx hb dX0_add_6 (by decide) (fun c_1 => ?_) (fun c_1 => ?_)
  · -- 6: nI sz lt
    have c_1 : sz < 6 := (nI_ltI (a := sz) (b := 6) (by omega) (by omega)).mp (c_1)
    refine lv_aload_n hx hb dX0_add_11 rfl (lv_at hl 0 rfl) ?_
    refine h_get (C := RX0) (T := TX0) (N := 4) hx hb hts i_RX0 hown hI h12 rfl 0 (by decide) f_9 rfl rfl dX0_add_12 ?_
    refine lv_aload_n hx hb dX0_add_15 rfl (lv_at hl 0 rfl) ?_
    refine h_get (C := RX0) (T := TX0) (N := 4) hx hb hts i_RX0 hown hI h12 rfl 3 (by decide) f_21 rfl rfl dX0_add_16 ?_
    refine lv_iload_n hx hb dX0_add_19 rfl (lv_at hl 1 rfl) ?_
    refine h_iast (i := sz) (x := nI x) hx hb hI h13 (by omega) (by decide) dX0_add_20 (fun M_2 H_3 locs_4 eM_5 hI => ?_)
    rw [upd_nF] at eM_5
    have hm_6 : M_2 12 = some (cEnds ad 12 sz) := by rw [eM_5, va_up_ne _ _ (by omega)]; exact h12
    have hm_7 : M_2 13 = some (aI G 6 (nF (va_up rl sz x))) := by rw [eM_5]; exact va_up_self _ _ _
    have hm_8 : M_2 14 = some (aI G 6 (oF th)) := by rw [eM_5, va_up_ne _ _ (by omega)]; exact h14
    have hm_9 : M_2 15 = some (aI G 6 (oF ol)) := by rw [eM_5, va_up_ne _ _ (by omega)]; exact h15
    have hF_10 : ∀ j : Nat, j ≠ 13 → M_2 j = M j := fun j q0 => by rw [eM_5, va_up_ne _ _ q0]
    refine lv_aload_n hx hb dX0_add_21 rfl (lv_at hl 0 rfl) ?_
    refine h_get (C := RX0) (T := TX0) (N := 4) hx hb hts i_RX0 hown hI hm_6 rfl 1 (by decide) f_15 rfl rfl dX0_add_22 ?_
    refine lv_aload_n hx hb dX0_add_25 rfl (lv_at hl 0 rfl) ?_
    refine h_get (C := RX0) (T := TX0) (N := 4) hx hb hts i_RX0 hown hI hm_6 rfl 3 (by decide) f_21 rfl rfl dX0_add_26 ?_
    refine lv_iload_n hx hb dX0_add_29 rfl (lv_at hl 2 rfl) ?_
    refine lv_if_eq (tgt := 37) hx hb dX0_add_30 (by decide) (fun c_11 => ?_) (fun c_11 => ?_)
    · -- 30: bI b eq
      have c_11 : b = false := bI_f (c_11)
      refine lv_iload_n hx hb dX0_add_37 rfl (lv_at hl 3 rfl) ?_
      refine h_iast (i := sz) (x := nI n) hx hb hI hm_8 (by omega) (by decide) dX0_add_38 (fun M_12 H_13 locs_14 eM_15 hI => ?_)
      rw [upd_oF_n] at eM_15
      have hm_16 : M_12 12 = some (cEnds ad 12 sz) := by rw [eM_15, va_up_ne _ _ (by omega)]; exact hm_6
      have hm_17 : M_12 13 = some (aI G 6 (nF (va_up rl sz x))) := by rw [eM_15, va_up_ne _ _ (by omega)]; exact hm_7
      have hm_18 : M_12 14 = some (aI G 6 (oF (va_up th sz (some n)))) := by rw [eM_15]; exact va_up_self _ _ _
      have hm_19 : M_12 15 = some (aI G 6 (oF ol)) := by rw [eM_15, va_up_ne _ _ (by omega)]; exact hm_9
      have hF_20 : ∀ j : Nat, j ≠ 13 → j ≠ 14 → M_12 j = M j := fun j q0 q1 => by rw [eM_15, va_up_ne _ _ q1]; exact hF_10 j q0
      refine lv_aload_n hx hb dX0_add_39 rfl (lv_at hl 0 rfl) ?_
      refine h_get (C := RX0) (T := TX0) (N := 4) hx hb hts i_RX0 hown hI hm_16 rfl 2 (by decide) f_18 rfl rfl dX0_add_40 ?_
      refine lv_aload_n hx hb dX0_add_43 rfl (lv_at hl 0 rfl) ?_
      refine h_get (C := RX0) (T := TX0) (N := 4) hx hb hts i_RX0 hown hI hm_16 rfl 3 (by decide) f_21 rfl rfl dX0_add_44 ?_
      refine lv_iload_n hx hb dX0_add_47 rfl (lv_at hl 2 rfl) ?_
      refine lv_if_eq (tgt := 55) hx hb dX0_add_48 (by decide) (fun c_21 => ?_) (fun c_21 => ?_)
      · -- 48: bI b eq
        have c_21 : b = false := bI_f (c_21)
        refine lv_iconst (v := (-1)) hx hb dX0_add_55 (by decide) ?_
        refine h_iast (i := sz) (x := (-1)) hx hb hI hm_19 (by omega) (by decide) dX0_add_56 (fun M_22 H_23 locs_24 eM_25 hI => ?_)
        rw [upd_oF_m1] at eM_25
        have hm_26 : M_22 12 = some (cEnds ad 12 sz) := by rw [eM_25, va_up_ne _ _ (by omega)]; exact hm_16
        have hm_27 : M_22 13 = some (aI G 6 (nF (va_up rl sz x))) := by rw [eM_25, va_up_ne _ _ (by omega)]; exact hm_17
        have hm_28 : M_22 14 = some (aI G 6 (oF (va_up th sz (some n)))) := by rw [eM_25, va_up_ne _ _ (by omega)]; exact hm_18
        have hm_29 : M_22 15 = some (aI G 6 (oF (va_up ol sz none))) := by rw [eM_25]; exact va_up_self _ _ _
        have hF_30 : ∀ j : Nat, j ≠ 13 → j ≠ 14 → j ≠ 15 → M_22 j = M j := fun j q0 q1 q2 => by rw [eM_25, va_up_ne _ _ q2]; exact hF_20 j q0 q1
        refine lv_aload_n hx hb dX0_add_57 rfl (lv_at hl 0 rfl) ?_
        refine lv_dup hx hb dX0_add_58 rfl ?_
        refine h_get (C := RX0) (T := TX0) (N := 4) hx hb hts i_RX0 hown hI hm_26 rfl 3 (by decide) f_21 rfl rfl dX0_add_59 ?_
        refine lv_iconst (v := nI 1) hx hb dX0_add_62 (by decide) ?_
        refine lv_iadd hx hb dX0_add_63 ?_
        refine n_eq (nI_add sz 1) ?_
        refine h_put (C := RX0) (T := TX0) (N := 4) hx hb hts i_RX0 tyX0 tyX0_ok nmX0 hown hI hm_26 rfl 3 (by decide) f_21 rfl rfl rfl rfl (Nat.le_of_ble_eq_true rfl) dX0_add_64 (fun M_31 H_32 locs_33 eM_34 hI => ?_)
        have hm_35 : M_31 12 = some (cEnds ad 12 (sz + 1)) := by rw [eM_34]; exact va_up_self _ _ _
        have hm_36 : M_31 13 = some (aI G 6 (nF (va_up rl sz x))) := by rw [eM_34, va_up_ne _ _ (by omega)]; exact hm_27
        have hm_37 : M_31 14 = some (aI G 6 (oF (va_up th sz (some n)))) := by rw [eM_34, va_up_ne _ _ (by omega)]; exact hm_28
        have hm_38 : M_31 15 = some (aI G 6 (oF (va_up ol sz none))) := by rw [eM_34, va_up_ne _ _ (by omega)]; exact hm_29
        have hF_39 : ∀ j : Nat, j ≠ 13 → j ≠ 14 → j ≠ 15 → j ≠ 12 → M_31 j = M j := fun j q0 q1 q2 q3 => by rw [eM_34, va_up_ne _ _ q3]; exact hF_30 j q0 q1 q2
        refine lv_iconst (v := nI 1) hx hb dX0_add_67 (by decide) ?_
        exact e_Ni hx hb hr rfl hlocks hI ⟨rfl, hm_35, hm_36, (by rw [show b = false from by assumption]; exact hm_37), (by rw [show b = false from by assumption]; exact hm_38), (fun j q0 q1 q2 q3 => hF_39 j q1 q2 q3 q0)⟩ dX0_add_68
      · -- 48: bI b ne
        have c_21 : b = true := bI_t (c_21)
        simp_all
    · -- 30: bI b ne
      have c_11 : b = true := bI_t (c_11)
      refine lv_iconst (v := (-1)) hx hb dX0_add_33 (by decide) ?_
      refine lv_goto (tgt := 38) hx hb dX0_add_34 (by decide) ?_
      refine h_iast (i := sz) (x := (-1)) hx hb hI hm_8 (by omega) (by decide) dX0_add_38 (fun M_40 H_41 locs_42 eM_43 hI => ?_)
      rw [upd_oF_m1] at eM_43
      have hm_44 : M_40 12 = some (cEnds ad 12 sz) := by rw [eM_43, va_up_ne _ _ (by omega)]; exact hm_6
      have hm_45 : M_40 13 = some (aI G 6 (nF (va_up rl sz x))) := by rw [eM_43, va_up_ne _ _ (by omega)]; exact hm_7
      have hm_46 : M_40 14 = some (aI G 6 (oF (va_up th sz none))) := by rw [eM_43]; exact va_up_self _ _ _
      have hm_47 : M_40 15 = some (aI G 6 (oF ol)) := by rw [eM_43, va_up_ne _ _ (by omega)]; exact hm_9
      have hF_48 : ∀ j : Nat, j ≠ 13 → j ≠ 14 → M_40 j = M j := fun j q0 q1 => by rw [eM_43, va_up_ne _ _ q1]; exact hF_10 j q0
      refine lv_aload_n hx hb dX0_add_39 rfl (lv_at hl 0 rfl) ?_
      refine h_get (C := RX0) (T := TX0) (N := 4) hx hb hts i_RX0 hown hI hm_44 rfl 2 (by decide) f_18 rfl rfl dX0_add_40 ?_
      refine lv_aload_n hx hb dX0_add_43 rfl (lv_at hl 0 rfl) ?_
      refine h_get (C := RX0) (T := TX0) (N := 4) hx hb hts i_RX0 hown hI hm_44 rfl 3 (by decide) f_21 rfl rfl dX0_add_44 ?_
      refine lv_iload_n hx hb dX0_add_47 rfl (lv_at hl 2 rfl) ?_
      refine lv_if_eq (tgt := 55) hx hb dX0_add_48 (by decide) (fun c_49 => ?_) (fun c_49 => ?_)
      · -- 48: bI b eq
        have c_49 : b = false := bI_f (c_49)
        simp_all
      · -- 48: bI b ne
        have c_49 : b = true := bI_t (c_49)
        refine lv_iload_n hx hb dX0_add_51 rfl (lv_at hl 3 rfl) ?_
        refine lv_goto (tgt := 56) hx hb dX0_add_52 (by decide) ?_
        refine h_iast (i := sz) (x := nI n) hx hb hI hm_47 (by omega) (by decide) dX0_add_56 (fun M_50 H_51 locs_52 eM_53 hI => ?_)
        rw [upd_oF_n] at eM_53
        have hm_54 : M_50 12 = some (cEnds ad 12 sz) := by rw [eM_53, va_up_ne _ _ (by omega)]; exact hm_44
        have hm_55 : M_50 13 = some (aI G 6 (nF (va_up rl sz x))) := by rw [eM_53, va_up_ne _ _ (by omega)]; exact hm_45
        have hm_56 : M_50 14 = some (aI G 6 (oF (va_up th sz none))) := by rw [eM_53, va_up_ne _ _ (by omega)]; exact hm_46
        have hm_57 : M_50 15 = some (aI G 6 (oF (va_up ol sz (some n)))) := by rw [eM_53]; exact va_up_self _ _ _
        have hF_58 : ∀ j : Nat, j ≠ 13 → j ≠ 14 → j ≠ 15 → M_50 j = M j := fun j q0 q1 q2 => by rw [eM_53, va_up_ne _ _ q2]; exact hF_48 j q0 q1
        refine lv_aload_n hx hb dX0_add_57 rfl (lv_at hl 0 rfl) ?_
        refine lv_dup hx hb dX0_add_58 rfl ?_
        refine h_get (C := RX0) (T := TX0) (N := 4) hx hb hts i_RX0 hown hI hm_54 rfl 3 (by decide) f_21 rfl rfl dX0_add_59 ?_
        refine lv_iconst (v := nI 1) hx hb dX0_add_62 (by decide) ?_
        refine lv_iadd hx hb dX0_add_63 ?_
        refine n_eq (nI_add sz 1) ?_
        refine h_put (C := RX0) (T := TX0) (N := 4) hx hb hts i_RX0 tyX0 tyX0_ok nmX0 hown hI hm_54 rfl 3 (by decide) f_21 rfl rfl rfl rfl (Nat.le_of_ble_eq_true rfl) dX0_add_64 (fun M_59 H_60 locs_61 eM_62 hI => ?_)
        have hm_63 : M_59 12 = some (cEnds ad 12 (sz + 1)) := by rw [eM_62]; exact va_up_self _ _ _
        have hm_64 : M_59 13 = some (aI G 6 (nF (va_up rl sz x))) := by rw [eM_62, va_up_ne _ _ (by omega)]; exact hm_55
        have hm_65 : M_59 14 = some (aI G 6 (oF (va_up th sz none))) := by rw [eM_62, va_up_ne _ _ (by omega)]; exact hm_56
        have hm_66 : M_59 15 = some (aI G 6 (oF (va_up ol sz (some n)))) := by rw [eM_62, va_up_ne _ _ (by omega)]; exact hm_57
        have hF_67 : ∀ j : Nat, j ≠ 13 → j ≠ 14 → j ≠ 15 → j ≠ 12 → M_59 j = M j := fun j q0 q1 q2 q3 => by rw [eM_62, va_up_ne _ _ q3]; exact hF_58 j q0 q1 q2
        refine lv_iconst (v := nI 1) hx hb dX0_add_67 (by decide) ?_
        exact e_Ni hx hb hr rfl hlocks hI ⟨rfl, hm_63, hm_64, (by rw [show b = true from by assumption]; exact hm_65), (by rw [show b = true from by assumption]; exact hm_66), (fun j q0 q1 q2 q3 => hF_67 j q1 q2 q3 q0)⟩ dX0_add_68
  · -- 6: nI sz ge
    have c_1 : 6 ≤ sz := by have h := mt (nI_ltI (a := sz) (b := 6) (by omega) (by omega)).mpr c_1; omega
    omega

/-- X0_add -/
abbrev rm_c_X0_add_full : Room := { frames := 0, cells := 0, slots := 0, locals := 0 }
set_option maxHeartbeats 4000000 in
set_option maxRecDepth 100000 in
theorem c_X0_add_full (l : Launch) (G : GG) (z : Nat) (ad : Nat → Nat) (M : Mem) {sz : Nat} {x : Nat} {b : Bool} {n : Nat} (h12 : M 12 = some (cEnds ad 12 sz)) (hsz : sz = 6) : Met l yX0_add wsX0_add rm_c_X0_add_full (Pr G z ad M [.ref (ad 12), .int (nI x), .int (bI b), .int (nI n)]) (vp_Si (fun r : Int32 => r = nI 0)) 0 0 (fun _ => False) := by
  refine Met.ofW (cc := cX0_add) (maxL := 4) (ret := (some .boolean)) (by decide) rfl ?_
  intro p e s m args below meth c s₁ B hml hv
  obtain ⟨rfl, hv⟩ := hv
  have hI := Iv.entry hv
  have hx := B.exec
  have hb := B.bytes
  have hr := B.returns
  have hts := atoms_spec (ws := wsX0_add) B.pre
  have hown : s.vm.findClass RX0 = some m.cls := findClass_of_methodNamed B.named
  have hlocks := B.notSynchronized
  have i_RX0 : ∀ w ∈ u_ws RX0 TX0 4, w ∈ wsX0_add := fun w h => List.mem_cons_of_mem _ (iu_X0 w h)
  have f_21 := hts _ (List.mem_cons_of_mem _ (lwg_of t_103 rfl))
  have hl := lv_entry ([.ref (ad 12), .int (nI x), .int (bI b), .int (nI n)]) (n := 4) (Nat.le_of_ble_eq_true rfl)
  rw [lg_entry_eq]
  generalize (lg_sl ([.ref (ad 12), .int (nI x), .int (bI b), .int (nI n)]) ++ List.replicate (4 - (lg_sl ([.ref (ad 12), .int (nI x), .int (bI b), .int (nI n)])).length) Slot.unset).toArray = ls at hl ⊢
  have hl : lv_has ls 4 [(0, .ref (ad 12)), (1, .int (nI x)), (2, .int (bI b)), (3, .int (nI n))] := hl
  refine lv_aload_n hx hb dX0_add_0 rfl (lv_at hl 0 rfl) ?_
  refine h_get (C := RX0) (T := TX0) (N := 4) hx hb hts i_RX0 hown hI h12 rfl 3 (by decide) f_21 rfl rfl dX0_add_1 ?_
  refine lv_bipush (v := nI 6) hx hb dX0_add_4 (by decide) ?_
  refine lv_icmp_lt (tgt := 11) hx hb dX0_add_6 (by decide) (fun c_1 => ?_) (fun c_1 => ?_)
  · -- 6: nI sz lt
    have c_1 : sz < 6 := (nI_ltI (a := sz) (b := 6) (by omega) (by omega)).mp (c_1)
    omega
  · -- 6: nI sz ge
    have c_1 : 6 ≤ sz := by have h := mt (nI_ltI (a := sz) (b := 6) (by omega) (by omega)).mpr c_1; omega
    refine lv_iconst (v := nI 0) hx hb dX0_add_9 (by decide) ?_
    exact e_Ri hx hb hr rfl hlocks (rfl) dX0_add_10
