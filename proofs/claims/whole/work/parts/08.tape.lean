theorem bI_inj {a b : Bool} (h : bI a = bI b) : a = b := by cases a <;> cases b <;> first | rfl | (exact absurd h (by decide))
theorem dec_t {p : Prop} [Decidable p] (h : p) : nI 1 = bI (decide p) := by rw [decide_eq_true h]; rfl
theorem dec_f {p : Prop} [Decidable p] (h : ¬ p) : nI 0 = bI (decide p) := by rw [decide_eq_false h]; rfl
theorem i_nlt {a b : Int32} (h : ¬ a < b) : b ≤ a := by
  rw [Int32.lt_iff_toInt_lt] at h
  rw [Int32.le_iff_toInt_le]
  omega
theorem i_nle {a b : Int32} (h : ¬ a ≤ b) : b < a := by
  rw [Int32.le_iff_toInt_le] at h
  rw [Int32.lt_iff_toInt_lt]
  omega
theorem i_lnle {a b : Int32} (h : a < b) : ¬ b ≤ a := by
  rw [Int32.lt_iff_toInt_lt] at h
  rw [Int32.le_iff_toInt_le]
  omega
/-- a byte of an int: s bits up -/
def by8 (x : Int32) (s : Nat) : Nat := x.toBitVec.toNat / 2 ^ s % 256
theorem by8_lt (x : Int32) (s : Nat) : by8 x s < 256 := Nat.mod_lt _ (by decide)
theorem by8_eq (x : Int32) (s : Nat) (hs : (((nI s).toUInt32 &&& Int32.toUInt32 31).toBitVec % 32).toNat = s) : (x.toUInt32 >>> ((nI s).toUInt32 &&& Int32.toUInt32 31)).toInt32 &&& nI 255 = nI (by8 x s) := by
  rw [pk_and _ 8 (by decide), pk_ushr x (nI s) s hs]
  rfl
theorem mmin_n {a b : Nat} (ha : a < 2 ^ 31) (hb : b < 2 ^ 31) : (if nI b < nI a then nI b else nI a) = nI (min a b) := by
  by_cases h : b < a
  · rw [if_pos ((nI_ltI hb ha).mpr h), Nat.min_eq_right (by omega)]
  · rw [if_neg (fun q => h ((nI_ltI hb ha).mp q)), Nat.min_eq_left (by omega)]
theorem mmax_n {a b : Nat} (ha : a < 2 ^ 31) (hb : b < 2 ^ 31) : (if nI a < nI b then nI b else nI a) = nI (max a b) := by
  by_cases h : a < b
  · rw [if_pos ((nI_ltI ha hb).mpr h), Nat.max_eq_right (by omega)]
  · rw [if_neg (fun q => h ((nI_ltI ha hb).mp q)), Nat.max_eq_left (by omega)]

/-- X8_hasRoom -/
abbrev rm_c_X8_hasRoom : Room := { frames := 0, cells := 0, slots := 0, locals := 0 }
set_option maxHeartbeats 4000000 in
set_option maxRecDepth 100000 in
theorem c_X8_hasRoom (l : Launch) (G : GG) (z : Nat) (ad : Nat → Nat) (M : Mem) {len : Nat} {n : Nat} (h1 : M 1 = some (cTape ad len)) (hl4 : len ≤ 400) (hn : n ≤ 20) : Met l yX8_hasRoom wsX8_hasRoom rm_c_X8_hasRoom (Pr G z ad M [.ref (ad 1), .int (nI n)]) (vp_Si (fun r : Int32 => r = bI (decide (len + n ≤ 400)))) 0 0 (fun _ => False) := by
  refine Met.ofW (cc := cX8_hasRoom) (maxL := 2) (ret := (some .boolean)) (by decide) rfl ?_
  intro p e s m args below meth c s₁ B hml hv
  obtain ⟨rfl, hv⟩ := hv
  have hI := Iv.entry hv
  have hx := B.exec
  have hb := B.bytes
  have hr := B.returns
  have hts := atoms_spec (ws := wsX8_hasRoom) B.pre
  have hown : s.vm.findClass RX8 = some m.cls := findClass_of_methodNamed B.named
  have hlocks := B.notSynchronized
  have i_RX8 : ∀ w ∈ u_ws RX8 TX8 2, w ∈ wsX8_hasRoom := fun w h => List.mem_cons_of_mem _ (iu_X8 w h)
  have f_15 := hts _ (List.mem_cons_of_mem _ (lwg_of t_48 rfl))
  have hl := lv_entry ([.ref (ad 1), .int (nI n)]) (n := 2) (Nat.le_of_ble_eq_true rfl)
  rw [lg_entry_eq]
  generalize (lg_sl ([.ref (ad 1), .int (nI n)]) ++ List.replicate (2 - (lg_sl ([.ref (ad 1), .int (nI n)])).length) Slot.unset).toArray = ls at hl ⊢
  have hl : lv_has ls 2 [(0, .ref (ad 1)), (1, .int (nI n))] := hl
  refine lv_aload_n hx hb dX8_hasRoom_0 rfl (lv_at hl 0 rfl) ?_
  refine h_get (C := RX8) (T := TX8) (N := 2) hx hb hts i_RX8 hown hI h1 rfl 1 (by decide) f_15 rfl rfl dX8_hasRoom_1 ?_
  refine lv_iload_n hx hb dX8_hasRoom_4 rfl (lv_at hl 1 rfl) ?_
  refine lv_iadd hx hb dX8_hasRoom_5 ?_
  refine n_eq (nI_add len n) ?_
  refine lv_sipush (v := nI 400) hx hb dX8_hasRoom_6 (by decide) ?_
  refine lv_icmp_gt (tgt := 16) hx hb dX8_hasRoom_9 (by decide) (fun c_1 => ?_) (fun c_1 => ?_)
  · -- 9: nI (len + n) gt
    have c_1 : 400 < len + n := (nI_ltI (a := 400) (b := len + n) (by omega) (by omega)).mp (c_1)
    refine lv_iconst (v := nI 0) hx hb dX8_hasRoom_16 (by decide) ?_
    exact e_Ri hx hb hr rfl hlocks (dec_f (by omega)) dX8_hasRoom_17
  · -- 9: nI (len + n) le
    have c_1 : len + n ≤ 400 := by have h := mt (nI_ltI (a := 400) (b := len + n) (by omega) (by omega)).mpr c_1; omega
    refine lv_iconst (v := nI 1) hx hb dX8_hasRoom_12 (by decide) ?_
    refine lv_goto (tgt := 17) hx hb dX8_hasRoom_13 (by decide) ?_
    exact e_Ri hx hb hr rfl hlocks (dec_t (by omega)) dX8_hasRoom_17

/-- X8_length -/
abbrev rm_c_X8_length : Room := { frames := 0, cells := 0, slots := 0, locals := 0 }
set_option maxHeartbeats 4000000 in
set_option maxRecDepth 100000 in
theorem c_X8_length (l : Launch) (G : GG) (z : Nat) (ad : Nat → Nat) (M : Mem) {len : Nat} (h1 : M 1 = some (cTape ad len))  : Met l yX8_length wsX8_length rm_c_X8_length (Pr G z ad M [.ref (ad 1)]) (vp_Si (fun r : Int32 => r = nI len)) 0 0 (fun _ => False) := by
  refine Met.ofW (cc := cX8_length) (maxL := 1) (ret := (some .int)) (by decide) rfl ?_
  intro p e s m args below meth c s₁ B hml hv
  obtain ⟨rfl, hv⟩ := hv
  have hI := Iv.entry hv
  have hx := B.exec
  have hb := B.bytes
  have hr := B.returns
  have hts := atoms_spec (ws := wsX8_length) B.pre
  have hown : s.vm.findClass RX8 = some m.cls := findClass_of_methodNamed B.named
  have hlocks := B.notSynchronized
  have i_RX8 : ∀ w ∈ u_ws RX8 TX8 2, w ∈ wsX8_length := fun w h => List.mem_cons_of_mem _ (iu_X8 w h)
  have f_15 := hts _ (List.mem_cons_of_mem _ (lwg_of t_48 rfl))
  have hl := lv_entry ([.ref (ad 1)]) (n := 1) (Nat.le_of_ble_eq_true rfl)
  rw [lg_entry_eq]
  generalize (lg_sl ([.ref (ad 1)]) ++ List.replicate (1 - (lg_sl ([.ref (ad 1)])).length) Slot.unset).toArray = ls at hl ⊢
  have hl : lv_has ls 1 [(0, .ref (ad 1))] := hl
  refine lv_aload_n hx hb dX8_length_0 rfl (lv_at hl 0 rfl) ?_
  refine h_get (C := RX8) (T := TX8) (N := 2) hx hb hts i_RX8 hown hI h1 rfl 1 (by decide) f_15 rfl rfl dX8_length_1 ?_
  exact e_Ri hx hb hr rfl hlocks (rfl) dX8_length_4

/-- X8_clear -/
abbrev rm_c_X8_clear : Room := { frames := 0, cells := 0, slots := 0, locals := 0 }
set_option maxHeartbeats 4000000 in
set_option maxRecDepth 100000 in
theorem c_X8_clear (l : Launch) (G : GG) (z : Nat) (ad : Nat → Nat) (M : Mem) {len : Nat} (h1 : M 1 = some (cTape ad len))  : Met l yX8_clear wsX8_clear rm_c_X8_clear (Pr G z ad M [.ref (ad 1)]) (Nv G z ad (fun (M' : Mem) => M' 1 = some (cTape ad 0) ∧ (∀ j : Nat, j ≠ 1 → M' j = M j))) 0 0 (fr z) := by
  refine Met.ofW (cc := cX8_clear) (maxL := 1) (ret := none) (by decide) rfl ?_
  intro p e s m args below meth c s₁ B hml hv
  obtain ⟨rfl, hv⟩ := hv
  have hI := Iv.entry hv
  have hx := B.exec
  have hb := B.bytes
  have hr := B.returns
  have hts := atoms_spec (ws := wsX8_clear) B.pre
  have hown : s.vm.findClass RX8 = some m.cls := findClass_of_methodNamed B.named
  have hlocks := B.notSynchronized
  have f_15 := hts _ (List.mem_cons_of_mem _ (lwg_of t_48 rfl))
  have i_RX8 : ∀ w ∈ u_ws RX8 TX8 2, w ∈ wsX8_clear := fun w h => List.mem_cons_of_mem _ (iu_X8 w h)
  have hl := lv_entry ([.ref (ad 1)]) (n := 1) (Nat.le_of_ble_eq_true rfl)
  rw [lg_entry_eq]
  generalize (lg_sl ([.ref (ad 1)]) ++ List.replicate (1 - (lg_sl ([.ref (ad 1)])).length) Slot.unset).toArray = ls at hl ⊢
  have hl : lv_has ls 1 [(0, .ref (ad 1))] := hl
  refine lv_aload_n hx hb dX8_clear_0 rfl (lv_at hl 0 rfl) ?_
  refine lv_iconst (v := nI 0) hx hb dX8_clear_1 (by decide) ?_
  refine h_put (C := RX8) (T := TX8) (N := 2) hx hb hts i_RX8 tyX8 tyX8_ok nmX8 hown hI h1 rfl 1 (by decide) f_15 rfl rfl rfl rfl (Nat.le_of_ble_eq_true rfl) dX8_clear_2 (fun M_1 H_2 locs_3 eM_4 hI => ?_)
  have hm_5 : M_1 1 = some (cTape ad 0) := by rw [eM_4]; exact va_up_self _ _ _
  have hF_6 : ∀ j : Nat, j ≠ 1 → M_1 j = M j := fun j q0 => by rw [eM_4, va_up_ne _ _ q0]
  exact e_Nv hx hb hr hlocks hI ⟨hm_5, (fun j q0 => hF_6 j q0)⟩ dX8_clear_5

/-- X8_at -/
abbrev rm_c_X8_at : Room := { frames := 0, cells := 0, slots := 0, locals := 0 }
set_option maxHeartbeats 4000000 in
set_option maxRecDepth 100000 in
theorem c_X8_at (l : Launch) (G : GG) (z : Nat) (ad : Nat → Nat) (M : Mem) {len : Nat} {tb : Nat → Nat} {i : Nat} (h1 : M 1 = some (cTape ad len)) (h2 : M 2 = some (aI G 400 (nF tb))) (hl4 : len ≤ 400) (hi4 : i ≤ 400) : Met l yX8_at wsX8_at rm_c_X8_at (Pr G z ad M [.ref (ad 1), .int (nI i)]) (vp_Si (fun r : Int32 => r = oI (if i < len then some (tb i) else none))) 0 0 (fun _ => False) := by
  refine Met.ofW (cc := cX8_at) (maxL := 2) (ret := (some .int)) (by decide) rfl ?_
  intro p e s m args below meth c s₁ B hml hv
  obtain ⟨rfl, hv⟩ := hv
  have hI := Iv.entry hv
  have hx := B.exec
  have hb := B.bytes
  have hr := B.returns
  have hts := atoms_spec (ws := wsX8_at) B.pre
  have hown : s.vm.findClass RX8 = some m.cls := findClass_of_methodNamed B.named
  have hlocks := B.notSynchronized
  have i_RX8 : ∀ w ∈ u_ws RX8 TX8 2, w ∈ wsX8_at := fun w h => List.mem_cons_of_mem _ (iu_X8 w h)
  have f_15 := hts _ (List.mem_cons_of_mem _ (lwg_of t_48 rfl))
  have f_9 := hts _ (List.mem_cons_of_mem _ (lwg_of t_47 rfl))
  have hl := lv_entry ([.ref (ad 1), .int (nI i)]) (n := 2) (Nat.le_of_ble_eq_true rfl)
  rw [lg_entry_eq]
  generalize (lg_sl ([.ref (ad 1), .int (nI i)]) ++ List.replicate (2 - (lg_sl ([.ref (ad 1), .int (nI i)])).length) Slot.unset).toArray = ls at hl ⊢
  have hl : lv_has ls 2 [(0, .ref (ad 1)), (1, .int (nI i))] := hl
  refine lv_iload_n hx hb dX8_at_0 rfl (lv_at hl 1 rfl) ?_
  refine lv_if_lt (tgt := 21) hx hb dX8_at_1 (by decide) (fun c_1 => ?_) (fun c_1 => ?_)
  · -- 1: nI i lt
    have c_1 : i < 0 := (nI_ltI (a := i) (b := 0) (by omega) (by omega)).mp (c_1)
    omega
  · -- 1: nI i ge
    have c_1 : 0 ≤ i := by have h := mt (nI_ltI (a := i) (b := 0) (by omega) (by omega)).mpr c_1; omega
    refine lv_iload_n hx hb dX8_at_4 rfl (lv_at hl 1 rfl) ?_
    refine lv_aload_n hx hb dX8_at_5 rfl (lv_at hl 0 rfl) ?_
    refine h_get (C := RX8) (T := TX8) (N := 2) hx hb hts i_RX8 hown hI h1 rfl 1 (by decide) f_15 rfl rfl dX8_at_6 ?_
    refine lv_icmp_ge (tgt := 21) hx hb dX8_at_9 (by decide) (fun c_2 => ?_) (fun c_2 => ?_)
    · -- 9: nI i ge
      have c_2 : len ≤ i := (nI_leI (a := len) (b := i) (by omega) (by omega)).mp (c_2)
      refine lv_iconst (v := (-1)) hx hb dX8_at_21 (by decide) ?_
      exact e_Ri hx hb hr rfl hlocks (by rw [if_neg (by omega)]; rfl) dX8_at_22
    · -- 9: nI i lt
      have c_2 : i < len := by have h := mt (nI_leI (a := len) (b := i) (by omega) (by omega)).mpr c_2; omega
      refine lv_aload_n hx hb dX8_at_12 rfl (lv_at hl 0 rfl) ?_
      refine h_get (C := RX8) (T := TX8) (N := 2) hx hb hts i_RX8 hown hI h1 rfl 0 (by decide) f_9 rfl rfl dX8_at_13 ?_
      refine lv_iload_n hx hb dX8_at_16 rfl (lv_at hl 1 rfl) ?_
      refine h_iald (i := i) hx hb hI h2 (by omega) (by decide) dX8_at_17 ?_
      refine lv_goto (tgt := 22) hx hb dX8_at_18 (by decide) ?_
      exact e_Ri hx hb hr rfl hlocks (by rw [if_pos (by omega)]; rfl) dX8_at_22

/-- X8_add -/
abbrev rm_c_X8_add : Room := { frames := 1, cells := 0, slots := 0, locals := 21 }
set_option maxHeartbeats 4000000 in
set_option maxRecDepth 100000 in
theorem c_X8_add (l : Launch) (G : GG) (z : Nat) (ad : Nat → Nat) (M : Mem) {len : Nat} {tb : Nat → Nat} {x : Int32} (h1 : M 1 = some (cTape ad len)) (h2 : M 2 = some (aI G 400 (nF tb))) (hl4 : len + 4 ≤ 400) : Met l yX8_add wsX8_add rm_c_X8_add (Pr G z ad M [.ref (ad 1), .int x]) (Nv G z ad (fun (M' : Mem) => M' 1 = some (cTape ad (len + 4)) ∧ M' 2 = some (aI G 400 (nF (va_up (va_up (va_up (va_up tb len (by8 x 24)) (len + 1) (by8 x 16)) (len + 2) (by8 x 8)) (len + 3) (by8 x 0)))) ∧ (∀ j : Nat, j ≠ 1 → j ≠ 2 → M' j = M j))) 0 0 (fr z) := by
  refine Met.ofW (cc := cX8_add) (maxL := 3) (ret := none) (by decide) rfl ?_
  intro p e s m args below meth c s₁ B hml hv
  obtain ⟨rfl, hv⟩ := hv
  have hI := Iv.entry hv
  have hx := B.exec
  have hb := B.bytes
  have hr := B.returns
  have hts := atoms_spec (ws := wsX8_add) B.pre
  have hown : s.vm.findClass RX8 = some m.cls := findClass_of_methodNamed B.named
  have hlocks := B.notSynchronized
  have i_RX8 : ∀ w ∈ u_ws RX8 TX8 2, w ∈ wsX8_add := fun w h => List.mem_cons_of_mem _ (iu_X8 w h)
  have f_9 := hts _ (List.mem_cons_of_mem _ (lwg_of t_47 rfl))
  have f_15 := hts _ (List.mem_cons_of_mem _ (lwg_of t_48 rfl))
  have hl := lv_entry ([.ref (ad 1), .int x]) (n := 3) (Nat.le_of_ble_eq_true rfl)
  rw [lg_entry_eq]
  generalize (lg_sl ([.ref (ad 1), .int x]) ++ List.replicate (3 - (lg_sl ([.ref (ad 1), .int x])).length) Slot.unset).toArray = ls at hl ⊢
  have hl : lv_has ls 3 [(0, .ref (ad 1)), (1, .int x)] := hl
  refine lv_aload_n hx hb dX8_add_0 rfl (lv_at hl 0 rfl) ?_
  refine lv_iconst (v := nI 4) hx hb dX8_add_1 (by decide) ?_
  refine k_Ri (va_runV (As := [.int (nI 4)]) (rest := []) ⟨hx, hb, hml, hown, hts⟩ (c_X8_hasRoom l G z ad M (len := len) (n := 4) h1 (by omega) (by omega)) (cwV 1 hts (gV (lwg_of t_282 rfl) (lwg_of t_275 rfl) (lwg_of t_276 rfl) (lwg_of t_2 rfl) (lwg_of t_277 rfl)) rfl rfl rfl (by decide +kernel) ⟨Nat.le_of_ble_eq_true rfl, Nat.le_of_ble_eq_true rfl⟩) (hI.preV h1 rfl) rfl rfl hl.1 rfl (lv_room (Nat.le_of_ble_eq_true rfl)) dX8_add_2 ⟨Nat.le_of_ble_eq_true rfl, Nat.le_of_ble_eq_true rfl⟩) (fun _ h => h) (fun r_1 hp_2 => ?_)
  rw [hp_2]
  refine lv_if_ne (tgt := 9) hx hb dX8_add_5 (by decide) (fun c_3 => ?_) (fun c_3 => ?_)
  · -- 5: bI (decide (len + 4 ≤ 400)) ne
    have c_3 : decide (len + 4 ≤ 400) = true := bI_t (c_3)
    refine lv_bipush (v := nI 24) hx hb dX8_add_9 (by decide) ?_
    refine lv_istore_n (lv' := [(2, .int (nI 24)), (0, .ref (ad 1)), (1, .int x)]) hx hb dX8_add_11 rfl hl (by decide) rfl (fun ls hl => ?_)
    refine lv_iload_n hx hb dX8_add_12 rfl (lv_at hl 0 rfl) ?_
    refine lv_if_lt (tgt := 48) hx hb dX8_add_13 (by decide) (fun c_4 => ?_) (fun c_4 => ?_)
    · -- 13: nI 24 lt
      exact absurd c_4 (by decide)
    · -- 13: nI 24 ge
      refine lv_aload_n hx hb dX8_add_16 rfl (lv_at hl 1 rfl) ?_
      refine h_get (C := RX8) (T := TX8) (N := 2) hx hb hts i_RX8 hown hI h1 rfl 0 (by decide) f_9 rfl rfl dX8_add_17 ?_
      refine lv_aload_n hx hb dX8_add_20 rfl (lv_at hl 1 rfl) ?_
      refine h_get (C := RX8) (T := TX8) (N := 2) hx hb hts i_RX8 hown hI h1 rfl 1 (by decide) f_15 rfl rfl dX8_add_21 ?_
      refine lv_iload_n hx hb dX8_add_24 rfl (lv_at hl 2 rfl) ?_
      refine lv_iload_n hx hb dX8_add_25 rfl (lv_at hl 0 rfl) ?_
      refine lv_iushr (v := (x.toUInt32 >>> ((nI 24).toUInt32 &&& Int32.toUInt32 31)).toInt32) hx hb dX8_add_26 rfl ?_
      refine lv_sipush (v := nI 255) hx hb dX8_add_27 (by decide) ?_
      refine lv_iand hx hb dX8_add_30 ?_
      refine n_eq (show _ = nI (by8 x 24) from by8_eq x 24 (by decide)) ?_
      refine h_iast (i := len) (x := nI (by8 x 24)) hx hb hI h2 (by omega) (by decide) dX8_add_31 (fun M_5 H_6 locs_7 eM_8 hI => ?_)
      rw [upd_nF] at eM_8
      have hm_9 : M_5 1 = some (cTape ad len) := by rw [eM_8, va_up_ne _ _ (by omega)]; exact h1
      have hm_10 : M_5 2 = some (aI G 400 (nF (va_up tb len (by8 x 24)))) := by rw [eM_8]; exact va_up_self _ _ _
      have hF_11 : ∀ j : Nat, j ≠ 2 → M_5 j = M j := fun j q0 => by rw [eM_8, va_up_ne _ _ q0]
      refine lv_aload_n hx hb dX8_add_32 rfl (lv_at hl 1 rfl) ?_
      refine lv_dup hx hb dX8_add_33 rfl ?_
      refine h_get (C := RX8) (T := TX8) (N := 2) hx hb hts i_RX8 hown hI hm_9 rfl 1 (by decide) f_15 rfl rfl dX8_add_34 ?_
      refine lv_iconst (v := nI 1) hx hb dX8_add_37 (by decide) ?_
      refine lv_iadd hx hb dX8_add_38 ?_
      refine n_eq (nI_add len 1) ?_
      refine h_put (C := RX8) (T := TX8) (N := 2) hx hb hts i_RX8 tyX8 tyX8_ok nmX8 hown hI hm_9 rfl 1 (by decide) f_15 rfl rfl rfl rfl (Nat.le_of_ble_eq_true rfl) dX8_add_39 (fun M_12 H_13 locs_14 eM_15 hI => ?_)
      have hm_16 : M_12 1 = some (cTape ad (len + 1)) := by rw [eM_15]; exact va_up_self _ _ _
      have hm_17 : M_12 2 = some (aI G 400 (nF (va_up tb len (by8 x 24)))) := by rw [eM_15, va_up_ne _ _ (by omega)]; exact hm_10
      have hF_18 : ∀ j : Nat, j ≠ 2 → j ≠ 1 → M_12 j = M j := fun j q0 q1 => by rw [eM_15, va_up_ne _ _ q1]; exact hF_11 j q0
      refine lv_iinc (v := nI 16) (lv' := [(2, .int (nI 16)), (0, .ref (ad 1)), (1, .int x)]) hx hb dX8_add_42 hl (k := 0) rfl (by decide) (by decide) rfl (fun ls hl => ?_)
      refine lv_goto (tgt := 12) hx hb dX8_add_45 (by decide) ?_
      refine lv_iload_n hx hb dX8_add_12 rfl (lv_at hl 0 rfl) ?_
      refine lv_if_lt (tgt := 48) hx hb dX8_add_13 (by decide) (fun c_19 => ?_) (fun c_19 => ?_)
      · -- 13: nI 16 lt
        exact absurd c_19 (by decide)
      · -- 13: nI 16 ge
        refine lv_aload_n hx hb dX8_add_16 rfl (lv_at hl 1 rfl) ?_
        refine h_get (C := RX8) (T := TX8) (N := 2) hx hb hts i_RX8 hown hI hm_16 rfl 0 (by decide) f_9 rfl rfl dX8_add_17 ?_
        refine lv_aload_n hx hb dX8_add_20 rfl (lv_at hl 1 rfl) ?_
        refine h_get (C := RX8) (T := TX8) (N := 2) hx hb hts i_RX8 hown hI hm_16 rfl 1 (by decide) f_15 rfl rfl dX8_add_21 ?_
        refine lv_iload_n hx hb dX8_add_24 rfl (lv_at hl 2 rfl) ?_
        refine lv_iload_n hx hb dX8_add_25 rfl (lv_at hl 0 rfl) ?_
        refine lv_iushr (v := (x.toUInt32 >>> ((nI 16).toUInt32 &&& Int32.toUInt32 31)).toInt32) hx hb dX8_add_26 rfl ?_
        refine lv_sipush (v := nI 255) hx hb dX8_add_27 (by decide) ?_
        refine lv_iand hx hb dX8_add_30 ?_
        refine n_eq (show _ = nI (by8 x 16) from by8_eq x 16 (by decide)) ?_
        refine h_iast (i := (len + 1)) (x := nI (by8 x 16)) hx hb hI hm_17 (by omega) (by decide) dX8_add_31 (fun M_20 H_21 locs_22 eM_23 hI => ?_)
        rw [upd_nF] at eM_23
        have hm_24 : M_20 1 = some (cTape ad (len + 1)) := by rw [eM_23, va_up_ne _ _ (by omega)]; exact hm_16
        have hm_25 : M_20 2 = some (aI G 400 (nF (va_up (va_up tb len (by8 x 24)) (len + 1) (by8 x 16)))) := by rw [eM_23]; exact va_up_self _ _ _
        have hF_26 : ∀ j : Nat, j ≠ 2 → j ≠ 1 → M_20 j = M j := fun j q0 q1 => by rw [eM_23, va_up_ne _ _ q0]; exact hF_18 j q0 q1
        refine lv_aload_n hx hb dX8_add_32 rfl (lv_at hl 1 rfl) ?_
        refine lv_dup hx hb dX8_add_33 rfl ?_
        refine h_get (C := RX8) (T := TX8) (N := 2) hx hb hts i_RX8 hown hI hm_24 rfl 1 (by decide) f_15 rfl rfl dX8_add_34 ?_
        refine lv_iconst (v := nI 1) hx hb dX8_add_37 (by decide) ?_
        refine lv_iadd hx hb dX8_add_38 ?_
        refine n_eq (nI_add (len + 1) 1) ?_
        refine h_put (C := RX8) (T := TX8) (N := 2) hx hb hts i_RX8 tyX8 tyX8_ok nmX8 hown hI hm_24 rfl 1 (by decide) f_15 rfl rfl rfl rfl (Nat.le_of_ble_eq_true rfl) dX8_add_39 (fun M_27 H_28 locs_29 eM_30 hI => ?_)
        have hm_31 : M_27 1 = some (cTape ad ((len + 1) + 1)) := by rw [eM_30]; exact va_up_self _ _ _
        have hm_32 : M_27 2 = some (aI G 400 (nF (va_up (va_up tb len (by8 x 24)) (len + 1) (by8 x 16)))) := by rw [eM_30, va_up_ne _ _ (by omega)]; exact hm_25
        have hF_33 : ∀ j : Nat, j ≠ 2 → j ≠ 1 → M_27 j = M j := fun j q0 q1 => by rw [eM_30, va_up_ne _ _ q1]; exact hF_26 j q0 q1
        refine lv_iinc (v := nI 8) (lv' := [(2, .int (nI 8)), (0, .ref (ad 1)), (1, .int x)]) hx hb dX8_add_42 hl (k := 0) rfl (by decide) (by decide) rfl (fun ls hl => ?_)
        refine lv_goto (tgt := 12) hx hb dX8_add_45 (by decide) ?_
        refine lv_iload_n hx hb dX8_add_12 rfl (lv_at hl 0 rfl) ?_
        refine lv_if_lt (tgt := 48) hx hb dX8_add_13 (by decide) (fun c_34 => ?_) (fun c_34 => ?_)
        · -- 13: nI 8 lt
          exact absurd c_34 (by decide)
        · -- 13: nI 8 ge
          refine lv_aload_n hx hb dX8_add_16 rfl (lv_at hl 1 rfl) ?_
          refine h_get (C := RX8) (T := TX8) (N := 2) hx hb hts i_RX8 hown hI hm_31 rfl 0 (by decide) f_9 rfl rfl dX8_add_17 ?_
          refine lv_aload_n hx hb dX8_add_20 rfl (lv_at hl 1 rfl) ?_
          refine h_get (C := RX8) (T := TX8) (N := 2) hx hb hts i_RX8 hown hI hm_31 rfl 1 (by decide) f_15 rfl rfl dX8_add_21 ?_
          refine lv_iload_n hx hb dX8_add_24 rfl (lv_at hl 2 rfl) ?_
          refine lv_iload_n hx hb dX8_add_25 rfl (lv_at hl 0 rfl) ?_
          refine lv_iushr (v := (x.toUInt32 >>> ((nI 8).toUInt32 &&& Int32.toUInt32 31)).toInt32) hx hb dX8_add_26 rfl ?_
          refine lv_sipush (v := nI 255) hx hb dX8_add_27 (by decide) ?_
          refine lv_iand hx hb dX8_add_30 ?_
          refine n_eq (show _ = nI (by8 x 8) from by8_eq x 8 (by decide)) ?_
          refine h_iast (i := ((len + 1) + 1)) (x := nI (by8 x 8)) hx hb hI hm_32 (by omega) (by decide) dX8_add_31 (fun M_35 H_36 locs_37 eM_38 hI => ?_)
          rw [upd_nF] at eM_38
          have hm_39 : M_35 1 = some (cTape ad ((len + 1) + 1)) := by rw [eM_38, va_up_ne _ _ (by omega)]; exact hm_31
          have hm_40 : M_35 2 = some (aI G 400 (nF (va_up (va_up (va_up tb len (by8 x 24)) (len + 1) (by8 x 16)) ((len + 1) + 1) (by8 x 8)))) := by rw [eM_38]; exact va_up_self _ _ _
          have hF_41 : ∀ j : Nat, j ≠ 2 → j ≠ 1 → M_35 j = M j := fun j q0 q1 => by rw [eM_38, va_up_ne _ _ q0]; exact hF_33 j q0 q1
          refine lv_aload_n hx hb dX8_add_32 rfl (lv_at hl 1 rfl) ?_
          refine lv_dup hx hb dX8_add_33 rfl ?_
          refine h_get (C := RX8) (T := TX8) (N := 2) hx hb hts i_RX8 hown hI hm_39 rfl 1 (by decide) f_15 rfl rfl dX8_add_34 ?_
          refine lv_iconst (v := nI 1) hx hb dX8_add_37 (by decide) ?_
          refine lv_iadd hx hb dX8_add_38 ?_
          refine n_eq (nI_add ((len + 1) + 1) 1) ?_
          refine h_put (C := RX8) (T := TX8) (N := 2) hx hb hts i_RX8 tyX8 tyX8_ok nmX8 hown hI hm_39 rfl 1 (by decide) f_15 rfl rfl rfl rfl (Nat.le_of_ble_eq_true rfl) dX8_add_39 (fun M_42 H_43 locs_44 eM_45 hI => ?_)
          have hm_46 : M_42 1 = some (cTape ad (((len + 1) + 1) + 1)) := by rw [eM_45]; exact va_up_self _ _ _
          have hm_47 : M_42 2 = some (aI G 400 (nF (va_up (va_up (va_up tb len (by8 x 24)) (len + 1) (by8 x 16)) ((len + 1) + 1) (by8 x 8)))) := by rw [eM_45, va_up_ne _ _ (by omega)]; exact hm_40
          have hF_48 : ∀ j : Nat, j ≠ 2 → j ≠ 1 → M_42 j = M j := fun j q0 q1 => by rw [eM_45, va_up_ne _ _ q1]; exact hF_41 j q0 q1
          refine lv_iinc (v := nI 0) (lv' := [(2, .int (nI 0)), (0, .ref (ad 1)), (1, .int x)]) hx hb dX8_add_42 hl (k := 0) rfl (by decide) (by decide) rfl (fun ls hl => ?_)
          refine lv_goto (tgt := 12) hx hb dX8_add_45 (by decide) ?_
          refine lv_iload_n hx hb dX8_add_12 rfl (lv_at hl 0 rfl) ?_
          refine lv_if_lt (tgt := 48) hx hb dX8_add_13 (by decide) (fun c_49 => ?_) (fun c_49 => ?_)
          · -- 13: nI 0 lt
            exact absurd c_49 (by decide)
          · -- 13: nI 0 ge
            refine lv_aload_n hx hb dX8_add_16 rfl (lv_at hl 1 rfl) ?_
            refine h_get (C := RX8) (T := TX8) (N := 2) hx hb hts i_RX8 hown hI hm_46 rfl 0 (by decide) f_9 rfl rfl dX8_add_17 ?_
            refine lv_aload_n hx hb dX8_add_20 rfl (lv_at hl 1 rfl) ?_
            refine h_get (C := RX8) (T := TX8) (N := 2) hx hb hts i_RX8 hown hI hm_46 rfl 1 (by decide) f_15 rfl rfl dX8_add_21 ?_
            refine lv_iload_n hx hb dX8_add_24 rfl (lv_at hl 2 rfl) ?_
            refine lv_iload_n hx hb dX8_add_25 rfl (lv_at hl 0 rfl) ?_
            refine lv_iushr (v := (x.toUInt32 >>> ((nI 0).toUInt32 &&& Int32.toUInt32 31)).toInt32) hx hb dX8_add_26 rfl ?_
            refine lv_sipush (v := nI 255) hx hb dX8_add_27 (by decide) ?_
            refine lv_iand hx hb dX8_add_30 ?_
            refine n_eq (show _ = nI (by8 x 0) from by8_eq x 0 (by decide)) ?_
            refine h_iast (i := (((len + 1) + 1) + 1)) (x := nI (by8 x 0)) hx hb hI hm_47 (by omega) (by decide) dX8_add_31 (fun M_50 H_51 locs_52 eM_53 hI => ?_)
            rw [upd_nF] at eM_53
            have hm_54 : M_50 1 = some (cTape ad (((len + 1) + 1) + 1)) := by rw [eM_53, va_up_ne _ _ (by omega)]; exact hm_46
            have hm_55 : M_50 2 = some (aI G 400 (nF (va_up (va_up (va_up (va_up tb len (by8 x 24)) (len + 1) (by8 x 16)) ((len + 1) + 1) (by8 x 8)) (((len + 1) + 1) + 1) (by8 x 0)))) := by rw [eM_53]; exact va_up_self _ _ _
            have hF_56 : ∀ j : Nat, j ≠ 2 → j ≠ 1 → M_50 j = M j := fun j q0 q1 => by rw [eM_53, va_up_ne _ _ q0]; exact hF_48 j q0 q1
            refine lv_aload_n hx hb dX8_add_32 rfl (lv_at hl 1 rfl) ?_
            refine lv_dup hx hb dX8_add_33 rfl ?_
            refine h_get (C := RX8) (T := TX8) (N := 2) hx hb hts i_RX8 hown hI hm_54 rfl 1 (by decide) f_15 rfl rfl dX8_add_34 ?_
            refine lv_iconst (v := nI 1) hx hb dX8_add_37 (by decide) ?_
            refine lv_iadd hx hb dX8_add_38 ?_
            refine n_eq (nI_add (((len + 1) + 1) + 1) 1) ?_
            refine h_put (C := RX8) (T := TX8) (N := 2) hx hb hts i_RX8 tyX8 tyX8_ok nmX8 hown hI hm_54 rfl 1 (by decide) f_15 rfl rfl rfl rfl (Nat.le_of_ble_eq_true rfl) dX8_add_39 (fun M_57 H_58 locs_59 eM_60 hI => ?_)
            have hm_61 : M_57 1 = some (cTape ad ((((len + 1) + 1) + 1) + 1)) := by rw [eM_60]; exact va_up_self _ _ _
            have hm_62 : M_57 2 = some (aI G 400 (nF (va_up (va_up (va_up (va_up tb len (by8 x 24)) (len + 1) (by8 x 16)) ((len + 1) + 1) (by8 x 8)) (((len + 1) + 1) + 1) (by8 x 0)))) := by rw [eM_60, va_up_ne _ _ (by omega)]; exact hm_55
            have hF_63 : ∀ j : Nat, j ≠ 2 → j ≠ 1 → M_57 j = M j := fun j q0 q1 => by rw [eM_60, va_up_ne _ _ q1]; exact hF_56 j q0 q1
            refine lv_iinc (v := (-8)) (lv' := [(2, .int (-8)), (0, .ref (ad 1)), (1, .int x)]) hx hb dX8_add_42 hl (k := 0) rfl (by decide) (by decide) rfl (fun ls hl => ?_)
            refine lv_goto (tgt := 12) hx hb dX8_add_45 (by decide) ?_
            refine lv_iload_n hx hb dX8_add_12 rfl (lv_at hl 0 rfl) ?_
            refine lv_if_lt (tgt := 48) hx hb dX8_add_13 (by decide) (fun c_64 => ?_) (fun c_64 => ?_)
            · -- 13: (-8) lt
              exact e_Nv hx hb hr hlocks hI ⟨hm_61, hm_62, (fun j q0 q1 => hF_63 j q1 q0)⟩ dX8_add_48
            · -- 13: (-8) ge
              exact absurd (by decide) c_64
  · -- 5: bI (decide (len + 4 ≤ 400)) eq
    have c_3 : decide (len + 4 ≤ 400) = false := bI_f (c_3)
    exact absurd (decide_eq_true (by omega : len + 4 ≤ 400)) (by simp_all)

/-- X8_cut -/
abbrev rm_c_X8_cut : Room := { frames := 0, cells := 0, slots := 0, locals := 0 }
set_option maxHeartbeats 4000000 in
set_option maxRecDepth 100000 in
theorem c_X8_cut (l : Launch) (G : GG) (z : Nat) (ad : Nat → Nat) (M : Mem) {len : Nat} {x : Int32} (h1 : M 1 = some (cTape ad len)) (hl4 : len ≤ 400) : Met l yX8_cut wsX8_cut rm_c_X8_cut (Pr G z ad M [.ref (ad 1), .int x]) (Ni G z ad (fun (r : Int32) (M' : Mem) => r = bI (decide (¬ x < nI 0 ∧ x ≤ nI len)) ∧ M' 1 = some (cTape ad (if ¬ x < nI 0 ∧ x ≤ nI len then x.toNatClampNeg else len)) ∧ (∀ j : Nat, j ≠ 1 → M' j = M j))) 0 0 (fr z) := by
  refine Met.ofW (cc := cX8_cut) (maxL := 2) (ret := (some .boolean)) (by decide) rfl ?_
  intro p e s m args below meth c s₁ B hml hv
  obtain ⟨rfl, hv⟩ := hv
  have hI := Iv.entry hv
  have hx := B.exec
  have hb := B.bytes
  have hr := B.returns
  have hts := atoms_spec (ws := wsX8_cut) B.pre
  have hown : s.vm.findClass RX8 = some m.cls := findClass_of_methodNamed B.named
  have hlocks := B.notSynchronized
  have i_RX8 : ∀ w ∈ u_ws RX8 TX8 2, w ∈ wsX8_cut := fun w h => List.mem_cons_of_mem _ (iu_X8 w h)
  have f_15 := hts _ (List.mem_cons_of_mem _ (lwg_of t_48 rfl))
  have hl := lv_entry ([.ref (ad 1), .int x]) (n := 2) (Nat.le_of_ble_eq_true rfl)
  rw [lg_entry_eq]
  generalize (lg_sl ([.ref (ad 1), .int x]) ++ List.replicate (2 - (lg_sl ([.ref (ad 1), .int x])).length) Slot.unset).toArray = ls at hl ⊢
  have hl : lv_has ls 2 [(0, .ref (ad 1)), (1, .int x)] := hl
  refine lv_iload_n hx hb dX8_cut_0 rfl (lv_at hl 1 rfl) ?_
  refine lv_if_lt (tgt := 12) hx hb dX8_cut_1 (by decide) (fun c_1 => ?_) (fun c_1 => ?_)
  · -- 1: x lt
    refine lv_iconst (v := nI 0) hx hb dX8_cut_12 (by decide) ?_
    exact e_Ni hx hb hr rfl hlocks hI ⟨dec_f (fun h => by first | exact absurd (by assumption) h.1 | exact absurd h.2 (by assumption)), (by rw [if_neg (fun h => by first | exact absurd (by assumption) h.1 | exact absurd h.2 (by assumption))]; exact h1), (fun j _ => rfl)⟩ dX8_cut_13
  · -- 1: x ge
    refine lv_iload_n hx hb dX8_cut_4 rfl (lv_at hl 1 rfl) ?_
    refine lv_aload_n hx hb dX8_cut_5 rfl (lv_at hl 0 rfl) ?_
    refine h_get (C := RX8) (T := TX8) (N := 2) hx hb hts i_RX8 hown hI h1 rfl 1 (by decide) f_15 rfl rfl dX8_cut_6 ?_
    refine lv_icmp_le (tgt := 14) hx hb dX8_cut_9 (by decide) (fun c_2 => ?_) (fun c_2 => ?_)
    · -- 9: x le
      obtain ⟨j, hj, hxj⟩ := nI_of (x := x) (by assumption)
      have hxc : x.toNatClampNeg = j := by rw [hxj]; exact nI_clamp hj
      refine lv_aload_n hx hb dX8_cut_14 rfl (lv_at hl 0 rfl) ?_
      refine lv_iload_n hx hb dX8_cut_15 rfl (lv_at hl 1 rfl) ?_
      refine n_eq (show _ = nI j from hxj) ?_
      refine h_put (C := RX8) (T := TX8) (N := 2) hx hb hts i_RX8 tyX8 tyX8_ok nmX8 hown hI h1 rfl 1 (by decide) f_15 rfl rfl rfl rfl (Nat.le_of_ble_eq_true rfl) dX8_cut_16 (fun M_3 H_4 locs_5 eM_6 hI => ?_)
      have hm_7 : M_3 1 = some (cTape ad j) := by rw [eM_6]; exact va_up_self _ _ _
      have hF_8 : ∀ j : Nat, j ≠ 1 → M_3 j = M j := fun j q0 => by rw [eM_6, va_up_ne _ _ q0]
      refine lv_iconst (v := nI 1) hx hb dX8_cut_19 (by decide) ?_
      exact e_Ni hx hb hr rfl hlocks hI ⟨dec_t ⟨by assumption, by assumption⟩, (by rw [if_pos ⟨by assumption, by assumption⟩, hxc]; exact hm_7), (fun j q0 => hF_8 j q0)⟩ dX8_cut_20
    · -- 9: x gt
      refine lv_iconst (v := nI 0) hx hb dX8_cut_12 (by decide) ?_
      exact e_Ni hx hb hr rfl hlocks hI ⟨dec_f (fun h => by first | exact absurd (by assumption) h.1 | exact absurd h.2 (by assumption)), (by rw [if_neg (fun h => by first | exact absurd (by assumption) h.1 | exact absurd h.2 (by assumption))]; exact h1), (fun j _ => rfl)⟩ dX8_cut_13
