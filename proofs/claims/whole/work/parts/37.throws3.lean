/-- X9_alone -/
abbrev rm_c_X9_alone_a : Room := { frames := 7, cells := 1, slots := 6, locals := 110 }
set_option maxHeartbeats 4000000 in
set_option maxRecDepth 100000 in
theorem c_X9_alone_a (l : Launch) (hst : l.stackTraces = false) (G : GG) (z : Nat) (ad : Nat → Nat) (M : Mem) {x0 : Int32} {x1 : Int32} {x2 : Int32}  (hbad : x0 < 0 ∨ ¬ x0 < nI 6) : vx_Met l yX9_alone wsX9_alone rm_c_X9_alone_a (Pr G z ad M [.ref (ad 0), .int x0, .int x1, .int x2]) (fun _ _ _ _ => False) (xT G z ad M "java/lang/IndexOutOfBoundsException") 1 6 (fr z) := by
  refine vx_ofW (cc := cX9_alone) (maxL := 4) (ret := none) (by decide) rfl ?_
  intro p e s m args below meth c s₁ B hml hnt hv
  obtain ⟨rfl, hv⟩ := hv
  have hI := Iv.entry hv
  have hx := B.exec
  have hb := B.bytes
  have hr := B.returns
  have hts := atoms_spec (ws := wsX9_alone) B.pre
  have hown : s.vm.findClass RX9 = some m.cls := findClass_of_methodNamed B.named
  have hlocks := B.notSynchronized
  have hl := lv_entry ([.ref (ad 0), .int x0, .int x1, .int x2]) (n := 4) (Nat.le_of_ble_eq_true rfl)
  rw [lg_entry_eq]
  generalize (lg_sl ([.ref (ad 0), .int x0, .int x1, .int x2]) ++ List.replicate (4 - (lg_sl ([.ref (ad 0), .int x0, .int x1, .int x2])).length) Slot.unset).toArray = ls at hl ⊢
  have hl : lv_has ls 4 [(0, .ref (ad 0)), (1, .int x0), (2, .int x1), (3, .int x2)] := hl
  refine lv_iload_n hx hb dX9_alone_0 rfl (lv_at hl 1 rfl) ?_
  refine k_T (vx_runS (As := [.int x0]) (rest := []) ⟨hx, hb, hml, hown, hts⟩ (c_X9_checkKind_T l hst G z ad M (x := x0) hbad) (va_cwS 1 hts (gS (lwg_of t_477 rfl) (lwg_of t_478 rfl) (lwg_of t_1 rfl) (lwg_of t_479 rfl)) rfl rfl rfl (by decide +kernel) ⟨Nat.le_of_ble_eq_true rfl, Nat.le_of_ble_eq_true rfl⟩) hI.preS rfl rfl hl.1 rfl (lv_room (Nat.le_of_ble_eq_true rfl)) dX9_alone_1 ⟨Nat.le_of_ble_eq_true rfl, Nat.le_of_ble_eq_true rfl⟩) hI (fun ce q9 H_3 locs_4 hI hce hcv hcl => ?_)
  exact e_out hnt hlocks hI hce hcv hcl (Nat.le_of_ble_eq_true rfl) (Nat.le_of_ble_eq_true rfl)

/-- X9_alone -/
abbrev rm_c_X9_alone_b : Room := { frames := 7, cells := 1, slots := 6, locals := 110 }
set_option maxHeartbeats 4000000 in
set_option maxRecDepth 100000 in
theorem c_X9_alone_b (l : Launch) (hst : l.stackTraces = false) (G : GG) (z : Nat) (ad : Nat → Nat) (M : Mem) {kd : Nat} {x1 : Int32} {x2 : Int32}  (hkd : kd < 6) (hbad : x1 < 0 ∨ ¬ x1 < nI 6) : vx_Met l yX9_alone wsX9_alone rm_c_X9_alone_b (Pr G z ad M [.ref (ad 0), .int (nI kd), .int x1, .int x2]) (fun _ _ _ _ => False) (xT G z ad M "java/lang/IndexOutOfBoundsException") 1 6 (fr z) := by
  refine vx_ofW (cc := cX9_alone) (maxL := 4) (ret := none) (by decide) rfl ?_
  intro p e s m args below meth c s₁ B hml hnt hv
  obtain ⟨rfl, hv⟩ := hv
  have hI := Iv.entry hv
  have hx := B.exec
  have hb := B.bytes
  have hr := B.returns
  have hts := atoms_spec (ws := wsX9_alone) B.pre
  have hown : s.vm.findClass RX9 = some m.cls := findClass_of_methodNamed B.named
  have hlocks := B.notSynchronized
  have hl := lv_entry ([.ref (ad 0), .int (nI kd), .int x1, .int x2]) (n := 4) (Nat.le_of_ble_eq_true rfl)
  rw [lg_entry_eq]
  generalize (lg_sl ([.ref (ad 0), .int (nI kd), .int x1, .int x2]) ++ List.replicate (4 - (lg_sl ([.ref (ad 0), .int (nI kd), .int x1, .int x2])).length) Slot.unset).toArray = ls at hl ⊢
  have hl : lv_has ls 4 [(0, .ref (ad 0)), (1, .int (nI kd)), (2, .int x1), (3, .int x2)] := hl
  refine lv_iload_n hx hb dX9_alone_0 rfl (lv_at hl 1 rfl) ?_
  refine k_Nv (va_runS (As := [.int (nI kd)]) (rest := []) ⟨hx, hb, hml, hown, hts⟩ (c_X9_checkKind l G z ad M (t := kd) (by omega)) (va_cwS 1 hts (gS (lwg_of t_477 rfl) (lwg_of t_478 rfl) (lwg_of t_1 rfl) (lwg_of t_479 rfl)) rfl rfl rfl (by decide +kernel) ⟨Nat.le_of_ble_eq_true rfl, Nat.le_of_ble_eq_true rfl⟩) hI.preS rfl rfl hl.1 rfl (lv_room (Nat.le_of_ble_eq_true rfl)) dX9_alone_1 ⟨Nat.le_of_ble_eq_true rfl, Nat.le_of_ble_eq_true rfl⟩) hI (fun M_3 H_4 locs_5 hp_2 hI => ?_)
  have eM_6 : M = M_3 := (funext hp_2).symm
  subst eM_6
  refine lv_iload_n hx hb dX9_alone_4 rfl (lv_at hl 2 rfl) ?_
  refine k_T (vx_runS (As := [.int x1]) (rest := []) ⟨hx, hb, hml, hown, hts⟩ (c_X9_checkRole_T l hst G z ad M (x := x1) hbad) (va_cwS 1 hts (gS (lwg_of t_549 rfl) (lwg_of t_550 rfl) (lwg_of t_1 rfl) (lwg_of t_551 rfl)) rfl rfl rfl (by decide +kernel) ⟨Nat.le_of_ble_eq_true rfl, Nat.le_of_ble_eq_true rfl⟩) hI.preS rfl rfl hl.1 rfl (lv_room (Nat.le_of_ble_eq_true rfl)) dX9_alone_5 ⟨Nat.le_of_ble_eq_true rfl, Nat.le_of_ble_eq_true rfl⟩) hI (fun ce q9 H_9 locs_10 hI hce hcv hcl => ?_)
  exact e_out hnt hlocks hI hce hcv hcl (Nat.le_of_ble_eq_true rfl) (Nat.le_of_ble_eq_true rfl)

/-- X9_alone -/
abbrev rm_c_X9_alone_c : Room := { frames := 6, cells := 1, slots := 6, locals := 90 }
set_option maxHeartbeats 4000000 in
set_option maxRecDepth 100000 in
theorem c_X9_alone_c (l : Launch) (hst : l.stackTraces = false) (G : GG) (z : Nat) (ad : Nat → Nat) (M : Mem) {kd : Nat} {ro : Nat} {x2 : Int32}  (hkd : kd < 6) (hro : ro < 6) (hbad : x2 < 0 ∨ nI 100 < x2) : vx_Met l yX9_alone wsX9_alone rm_c_X9_alone_c (Pr G z ad M [.ref (ad 0), .int (nI kd), .int (nI ro), .int x2]) (fun _ _ _ _ => False) (xT G z ad M "java/lang/IllegalArgumentException") 1 6 (fr z) := by
  refine vx_ofW (cc := cX9_alone) (maxL := 4) (ret := none) (by decide) rfl ?_
  intro p e s m args below meth c s₁ B hml hnt hv
  obtain ⟨rfl, hv⟩ := hv
  have hI := Iv.entry hv
  have hx := B.exec
  have hb := B.bytes
  have hr := B.returns
  have hts := atoms_spec (ws := wsX9_alone) B.pre
  have hown : s.vm.findClass RX9 = some m.cls := findClass_of_methodNamed B.named
  have hlocks := B.notSynchronized
  have tk_A := hts _ (List.mem_cons_of_mem _ (lwg_of t_553 rfl))
  have ti_A := hts _ (List.mem_cons_of_mem _ (lwg_of t_19 rfl))
  have hl := lv_entry ([.ref (ad 0), .int (nI kd), .int (nI ro), .int x2]) (n := 4) (Nat.le_of_ble_eq_true rfl)
  rw [lg_entry_eq]
  generalize (lg_sl ([.ref (ad 0), .int (nI kd), .int (nI ro), .int x2]) ++ List.replicate (4 - (lg_sl ([.ref (ad 0), .int (nI kd), .int (nI ro), .int x2])).length) Slot.unset).toArray = ls at hl ⊢
  have hl : lv_has ls 4 [(0, .ref (ad 0)), (1, .int (nI kd)), (2, .int (nI ro)), (3, .int x2)] := hl
  refine lv_iload_n hx hb dX9_alone_0 rfl (lv_at hl 1 rfl) ?_
  refine k_Nv (va_runS (As := [.int (nI kd)]) (rest := []) ⟨hx, hb, hml, hown, hts⟩ (c_X9_checkKind l G z ad M (t := kd) (by omega)) (va_cwS 1 hts (gS (lwg_of t_477 rfl) (lwg_of t_478 rfl) (lwg_of t_1 rfl) (lwg_of t_479 rfl)) rfl rfl rfl (by decide +kernel) ⟨Nat.le_of_ble_eq_true rfl, Nat.le_of_ble_eq_true rfl⟩) hI.preS rfl rfl hl.1 rfl (lv_room (Nat.le_of_ble_eq_true rfl)) dX9_alone_1 ⟨Nat.le_of_ble_eq_true rfl, Nat.le_of_ble_eq_true rfl⟩) hI (fun M_3 H_4 locs_5 hp_2 hI => ?_)
  have eM_6 : M = M_3 := (funext hp_2).symm
  subst eM_6
  refine lv_iload_n hx hb dX9_alone_4 rfl (lv_at hl 2 rfl) ?_
  refine k_Nv (va_runS (As := [.int (nI ro)]) (rest := []) ⟨hx, hb, hml, hown, hts⟩ (c_X9_checkRole l G z ad M (t := ro) (by omega)) (va_cwS 1 hts (gS (lwg_of t_549 rfl) (lwg_of t_550 rfl) (lwg_of t_1 rfl) (lwg_of t_551 rfl)) rfl rfl rfl (by decide +kernel) ⟨Nat.le_of_ble_eq_true rfl, Nat.le_of_ble_eq_true rfl⟩) hI.preS rfl rfl hl.1 rfl (lv_room (Nat.le_of_ble_eq_true rfl)) dX9_alone_5 ⟨Nat.le_of_ble_eq_true rfl, Nat.le_of_ble_eq_true rfl⟩) hI (fun M_9 H_10 locs_11 hp_8 hI => ?_)
  have eM_12 : M = M_9 := (funext hp_8).symm
  subst eM_12
  refine lv_iload_n hx hb dX9_alone_8 rfl (lv_at hl 3 rfl) ?_
  refine lv_if_lt (tgt := 18) hx hb dX9_alone_9 (by decide) (fun c_13 => ?_) (fun c_13 => ?_)
  · -- 9: x2 lt
    exact t_sA hx hb hst hown hts hI (k := 7) (is := 104) rfl tk_A ti_A (by rw [hml]; exact hl.1) dX9_alone_18 dX9_alone_21 dX9_alone_22 dX9_alone_24 dX9_alone_27 hnt (Nat.le_of_ble_eq_true rfl) (Nat.le_of_ble_eq_true rfl) (Nat.le_of_ble_eq_true rfl) (Nat.le_of_ble_eq_true rfl) hlocks (Nat.le_of_ble_eq_true rfl) (Nat.le_of_ble_eq_true rfl)
  · -- 9: x2 ge
    refine lv_iload_n hx hb dX9_alone_12 rfl (lv_at hl 3 rfl) ?_
    refine lv_bipush (v := nI 100) hx hb dX9_alone_13 (by decide) ?_
    refine lv_icmp_le (tgt := 28) hx hb dX9_alone_15 (by decide) (fun c_14 => ?_) (fun c_14 => ?_)
    · -- 15: x2 le
      rcases hbad with h9 | h9 <;> first | contradiction | exact absurd h9 (Int32.not_lt.mpr (by assumption))
    · -- 15: x2 gt
      exact t_sA hx hb hst hown hts hI (k := 7) (is := 104) rfl tk_A ti_A (by rw [hml]; exact hl.1) dX9_alone_18 dX9_alone_21 dX9_alone_22 dX9_alone_24 dX9_alone_27 hnt (Nat.le_of_ble_eq_true rfl) (Nat.le_of_ble_eq_true rfl) (Nat.le_of_ble_eq_true rfl) (Nat.le_of_ble_eq_true rfl) hlocks (Nat.le_of_ble_eq_true rfl) (Nat.le_of_ble_eq_true rfl)

/-- X9_holds -/
abbrev rm_c_X9_holds_a : Room := { frames := 7, cells := 1, slots := 6, locals := 110 }
set_option maxHeartbeats 4000000 in
set_option maxRecDepth 100000 in
theorem c_X9_holds_a (l : Launch) (hst : l.stackTraces = false) (G : GG) (z : Nat) (ad : Nat → Nat) (M : Mem) {x0 : Int32} {b : Bool}  (hbad : x0 < 0 ∨ ¬ x0 < nI 6) : vx_Met l yX9_holds wsX9_holds rm_c_X9_holds_a (Pr G z ad M [.ref (ad 0), .int x0, .int (bI b)]) (fun _ _ _ _ => False) (xT G z ad M "java/lang/IndexOutOfBoundsException") 1 6 (fr z) := by
  refine vx_ofW (cc := cX9_holds) (maxL := 3) (ret := (some .boolean)) (by decide) rfl ?_
  intro p e s m args below meth c s₁ B hml hnt hv
  obtain ⟨rfl, hv⟩ := hv
  have hI := Iv.entry hv
  have hx := B.exec
  have hb := B.bytes
  have hr := B.returns
  have hts := atoms_spec (ws := wsX9_holds) B.pre
  have hown : s.vm.findClass RX9 = some m.cls := findClass_of_methodNamed B.named
  have hlocks := B.notSynchronized
  have hl := lv_entry ([.ref (ad 0), .int x0, .int (bI b)]) (n := 3) (Nat.le_of_ble_eq_true rfl)
  rw [lg_entry_eq]
  generalize (lg_sl ([.ref (ad 0), .int x0, .int (bI b)]) ++ List.replicate (3 - (lg_sl ([.ref (ad 0), .int x0, .int (bI b)])).length) Slot.unset).toArray = ls at hl ⊢
  have hl : lv_has ls 3 [(0, .ref (ad 0)), (1, .int x0), (2, .int (bI b))] := hl
  refine lv_iload_n hx hb dX9_holds_0 rfl (lv_at hl 1 rfl) ?_
  refine k_T (vx_runS (As := [.int x0]) (rest := []) ⟨hx, hb, hml, hown, hts⟩ (c_X9_checkKind_T l hst G z ad M (x := x0) hbad) (va_cwS 1 hts (gS (lwg_of t_477 rfl) (lwg_of t_478 rfl) (lwg_of t_1 rfl) (lwg_of t_479 rfl)) rfl rfl rfl (by decide +kernel) ⟨Nat.le_of_ble_eq_true rfl, Nat.le_of_ble_eq_true rfl⟩) hI.preS rfl rfl hl.1 rfl (lv_room (Nat.le_of_ble_eq_true rfl)) dX9_holds_1 ⟨Nat.le_of_ble_eq_true rfl, Nat.le_of_ble_eq_true rfl⟩) hI (fun ce q9 H_3 locs_4 hI hce hcv hcl => ?_)
  exact e_out hnt hlocks hI hce hcv hcl (Nat.le_of_ble_eq_true rfl) (Nat.le_of_ble_eq_true rfl)

/-- X9_draft -/
abbrev rm_c_X9_draft_a : Room := { frames := 7, cells := 1, slots := 6, locals := 110 }
set_option maxHeartbeats 4000000 in
set_option maxRecDepth 100000 in
theorem c_X9_draft_a (l : Launch) (hst : l.stackTraces = false) (G : GG) (z : Nat) (ad : Nat → Nat) (M : Mem) {x0 : Int32} {x1 : Int32} {b : Bool}  (hbad : x0 < 0 ∨ ¬ x0 < nI 6) : vx_Met l yX9_draft wsX9_draft rm_c_X9_draft_a (Pr G z ad M [.ref (ad 0), .int x0, .int (bI b), .int x1]) (fun _ _ _ _ => False) (xT G z ad M "java/lang/IndexOutOfBoundsException") 1 6 (fr z) := by
  refine vx_ofW (cc := cX9_draft) (maxL := 4) (ret := (some .int)) (by decide) rfl ?_
  intro p e s m args below meth c s₁ B hml hnt hv
  obtain ⟨rfl, hv⟩ := hv
  have hI := Iv.entry hv
  have hx := B.exec
  have hb := B.bytes
  have hr := B.returns
  have hts := atoms_spec (ws := wsX9_draft) B.pre
  have hown : s.vm.findClass RX9 = some m.cls := findClass_of_methodNamed B.named
  have hlocks := B.notSynchronized
  have hl := lv_entry ([.ref (ad 0), .int x0, .int (bI b), .int x1]) (n := 4) (Nat.le_of_ble_eq_true rfl)
  rw [lg_entry_eq]
  generalize (lg_sl ([.ref (ad 0), .int x0, .int (bI b), .int x1]) ++ List.replicate (4 - (lg_sl ([.ref (ad 0), .int x0, .int (bI b), .int x1])).length) Slot.unset).toArray = ls at hl ⊢
  have hl : lv_has ls 4 [(0, .ref (ad 0)), (1, .int x0), (2, .int (bI b)), (3, .int x1)] := hl
  refine lv_iload_n hx hb dX9_draft_0 rfl (lv_at hl 1 rfl) ?_
  refine k_T (vx_runS (As := [.int x0]) (rest := []) ⟨hx, hb, hml, hown, hts⟩ (c_X9_checkRole_T l hst G z ad M (x := x0) hbad) (va_cwS 1 hts (gS (lwg_of t_549 rfl) (lwg_of t_550 rfl) (lwg_of t_1 rfl) (lwg_of t_551 rfl)) rfl rfl rfl (by decide +kernel) ⟨Nat.le_of_ble_eq_true rfl, Nat.le_of_ble_eq_true rfl⟩) hI.preS rfl rfl hl.1 rfl (lv_room (Nat.le_of_ble_eq_true rfl)) dX9_draft_1 ⟨Nat.le_of_ble_eq_true rfl, Nat.le_of_ble_eq_true rfl⟩) hI (fun ce q9 H_3 locs_4 hI hce hcv hcl => ?_)
  exact e_out hnt hlocks hI hce hcv hcl (Nat.le_of_ble_eq_true rfl) (Nat.le_of_ble_eq_true rfl)

/-- X9_draft -/
abbrev rm_c_X9_draft_b : Room := { frames := 7, cells := 1, slots := 6, locals := 111 }
set_option maxHeartbeats 4000000 in
set_option maxRecDepth 100000 in
theorem c_X9_draft_b (l : Launch) (hst : l.stackTraces = false) (G : GG) (z : Nat) (ad : Nat → Nat) (M : Mem) {n : Nat} {kd : Nat → Nat} {fm : Nat → Int32} {to : Nat → Int32} {sz : Nat → Nat} {rl : Nat → Nat → Nat} {en : Nat → Nat → Nat} {qa : Nat} {qs : Nat} {fw : Int32} {ro : Nat} {x1 : Int32} {b : Bool} (hL : LSm G ad M n kd fm to sz rl en) (h0 : M 0 = some (cStore ad qa qs fw)) (hro : ro < 6) (hbt : b = true) (hbad : x1 < 0 ∨ ¬ x1 < nI n) : vx_Met l yX9_draft wsX9_draft rm_c_X9_draft_b (Pr G z ad M [.ref (ad 0), .int (nI ro), .int (bI b), .int x1]) (fun _ _ _ _ => False) (xT G z ad M "java/lang/IndexOutOfBoundsException") 1 6 (fr z) := by
  refine vx_ofW (cc := cX9_draft) (maxL := 4) (ret := (some .int)) (by decide) rfl ?_
  intro p e s m args below meth c s₁ B hml hnt hv
  obtain ⟨rfl, hv⟩ := hv
  have hI := Iv.entry hv
  have hx := B.exec
  have hb := B.bytes
  have hr := B.returns
  have hts := atoms_spec (ws := wsX9_draft) B.pre
  have hown : s.vm.findClass RX9 = some m.cls := findClass_of_methodNamed B.named
  have hlocks := B.notSynchronized
  have hl := lv_entry ([.ref (ad 0), .int (nI ro), .int (bI b), .int x1]) (n := 4) (Nat.le_of_ble_eq_true rfl)
  rw [lg_entry_eq]
  generalize (lg_sl ([.ref (ad 0), .int (nI ro), .int (bI b), .int x1]) ++ List.replicate (4 - (lg_sl ([.ref (ad 0), .int (nI ro), .int (bI b), .int x1])).length) Slot.unset).toArray = ls at hl ⊢
  have hl : lv_has ls 4 [(0, .ref (ad 0)), (1, .int (nI ro)), (2, .int (bI b)), (3, .int x1)] := hl
  have h16 := hL.1
  obtain ⟨mcn, ed, h17, hed⟩ := id hL.2.1
  refine lv_iload_n hx hb dX9_draft_0 rfl (lv_at hl 1 rfl) ?_
  refine k_Nv (va_runS (As := [.int (nI ro)]) (rest := []) ⟨hx, hb, hml, hown, hts⟩ (c_X9_checkRole l G z ad M (t := ro) (by omega)) (va_cwS 1 hts (gS (lwg_of t_549 rfl) (lwg_of t_550 rfl) (lwg_of t_1 rfl) (lwg_of t_551 rfl)) rfl rfl rfl (by decide +kernel) ⟨Nat.le_of_ble_eq_true rfl, Nat.le_of_ble_eq_true rfl⟩) hI.preS rfl rfl hl.1 rfl (lv_room (Nat.le_of_ble_eq_true rfl)) dX9_draft_1 ⟨Nat.le_of_ble_eq_true rfl, Nat.le_of_ble_eq_true rfl⟩) hI (fun M_3 H_4 locs_5 hp_2 hI => ?_)
  have eM_6 : M = M_3 := (funext hp_2).symm
  subst eM_6
  refine lv_iload_n hx hb dX9_draft_4 rfl (lv_at hl 2 rfl) ?_
  refine lv_if_eq (tgt := 16) hx hb dX9_draft_5 (by decide) (fun c_7 => ?_) (fun c_7 => ?_)
  · -- 5: bI b eq
    have c_7 : b = false := bI_f (c_7)
    simp_all
  · -- 5: bI b ne
    have c_7 : b = true := bI_t (c_7)
    refine lv_aload_n hx hb dX9_draft_8 rfl (lv_at hl 0 rfl) ?_
    refine lv_iload_n hx hb dX9_draft_9 rfl (lv_at hl 3 rfl) ?_
    refine k_T (vx_runV (As := [.int x1]) (rest := []) ⟨hx, hb, hml, hown, hts⟩ (c_X9_checkLine_T l hst G z ad M (n := n) (kd := kd) (fm := fm) (to := to) (sz := sz) (rl := rl) (en := en) (qa := qa) (qs := qs) (fw := fw) (x := x1) hL h0 hbad) (cwV 1 hts (gV (lwg_of t_603 rfl) (lwg_of t_605 rfl) (lwg_of ts_7 rfl) (lwg_of t_1 rfl) (lwg_of t_606 rfl)) rfl rfl rfl (by decide +kernel) ⟨Nat.le_of_ble_eq_true rfl, Nat.le_of_ble_eq_true rfl⟩) (hI.preV h0 rfl) rfl rfl hl.1 rfl (lv_room (Nat.le_of_ble_eq_true rfl)) dX9_draft_10 ⟨Nat.le_of_ble_eq_true rfl, Nat.le_of_ble_eq_true rfl⟩) hI (fun ce q9 H_10 locs_11 hI hce hcv hcl => ?_)
    exact e_out hnt hlocks hI hce hcv hcl (Nat.le_of_ble_eq_true rfl) (Nat.le_of_ble_eq_true rfl)

/-- X9_draft -/
abbrev rm_c_X9_draft_c : Room := { frames := 7, cells := 1, slots := 6, locals := 110 }
set_option maxHeartbeats 4000000 in
set_option maxRecDepth 100000 in
theorem c_X9_draft_c (l : Launch) (hst : l.stackTraces = false) (G : GG) (z : Nat) (ad : Nat → Nat) (M : Mem) {ro : Nat} {x1 : Int32} {b : Bool}  (hro : ro < 6) (hbt : b = false) (hbad : x1 < 0 ∨ ¬ x1 < nI 40) : vx_Met l yX9_draft wsX9_draft rm_c_X9_draft_c (Pr G z ad M [.ref (ad 0), .int (nI ro), .int (bI b), .int x1]) (fun _ _ _ _ => False) (xT G z ad M "java/lang/IndexOutOfBoundsException") 1 6 (fr z) := by
  refine vx_ofW (cc := cX9_draft) (maxL := 4) (ret := (some .int)) (by decide) rfl ?_
  intro p e s m args below meth c s₁ B hml hnt hv
  obtain ⟨rfl, hv⟩ := hv
  have hI := Iv.entry hv
  have hx := B.exec
  have hb := B.bytes
  have hr := B.returns
  have hts := atoms_spec (ws := wsX9_draft) B.pre
  have hown : s.vm.findClass RX9 = some m.cls := findClass_of_methodNamed B.named
  have hlocks := B.notSynchronized
  have hl := lv_entry ([.ref (ad 0), .int (nI ro), .int (bI b), .int x1]) (n := 4) (Nat.le_of_ble_eq_true rfl)
  rw [lg_entry_eq]
  generalize (lg_sl ([.ref (ad 0), .int (nI ro), .int (bI b), .int x1]) ++ List.replicate (4 - (lg_sl ([.ref (ad 0), .int (nI ro), .int (bI b), .int x1])).length) Slot.unset).toArray = ls at hl ⊢
  have hl : lv_has ls 4 [(0, .ref (ad 0)), (1, .int (nI ro)), (2, .int (bI b)), (3, .int x1)] := hl
  refine lv_iload_n hx hb dX9_draft_0 rfl (lv_at hl 1 rfl) ?_
  refine k_Nv (va_runS (As := [.int (nI ro)]) (rest := []) ⟨hx, hb, hml, hown, hts⟩ (c_X9_checkRole l G z ad M (t := ro) (by omega)) (va_cwS 1 hts (gS (lwg_of t_549 rfl) (lwg_of t_550 rfl) (lwg_of t_1 rfl) (lwg_of t_551 rfl)) rfl rfl rfl (by decide +kernel) ⟨Nat.le_of_ble_eq_true rfl, Nat.le_of_ble_eq_true rfl⟩) hI.preS rfl rfl hl.1 rfl (lv_room (Nat.le_of_ble_eq_true rfl)) dX9_draft_1 ⟨Nat.le_of_ble_eq_true rfl, Nat.le_of_ble_eq_true rfl⟩) hI (fun M_3 H_4 locs_5 hp_2 hI => ?_)
  have eM_6 : M = M_3 := (funext hp_2).symm
  subst eM_6
  refine lv_iload_n hx hb dX9_draft_4 rfl (lv_at hl 2 rfl) ?_
  refine lv_if_eq (tgt := 16) hx hb dX9_draft_5 (by decide) (fun c_7 => ?_) (fun c_7 => ?_)
  · -- 5: bI b eq
    have c_7 : b = false := bI_f (c_7)
    refine lv_iload_n hx hb dX9_draft_16 rfl (lv_at hl 3 rfl) ?_
    refine k_T (vx_runS (As := [.int x1]) (rest := []) ⟨hx, hb, hml, hown, hts⟩ (c_X9_checkThing_T l hst G z ad M (x := x1) hbad) (va_cwS 1 hts (gS (lwg_of t_608 rfl) (lwg_of t_609 rfl) (lwg_of t_1 rfl) (lwg_of t_610 rfl)) rfl rfl rfl (by decide +kernel) ⟨Nat.le_of_ble_eq_true rfl, Nat.le_of_ble_eq_true rfl⟩) hI.preS rfl rfl hl.1 rfl (lv_room (Nat.le_of_ble_eq_true rfl)) dX9_draft_17 ⟨Nat.le_of_ble_eq_true rfl, Nat.le_of_ble_eq_true rfl⟩) hI (fun ce q9 H_10 locs_11 hI hce hcv hcl => ?_)
    exact e_out hnt hlocks hI hce hcv hcl (Nat.le_of_ble_eq_true rfl) (Nat.le_of_ble_eq_true rfl)
  · -- 5: bI b ne
    have c_7 : b = true := bI_t (c_7)
    simp_all

/-- X9_put -/
abbrev rm_c_X9_put_a : Room := { frames := 7, cells := 1, slots := 6, locals := 110 }
set_option maxHeartbeats 4000000 in
set_option maxRecDepth 100000 in
theorem c_X9_put_a (l : Launch) (hst : l.stackTraces = false) (G : GG) (z : Nat) (ad : Nat → Nat) (M : Mem) {x0 : Int32} {x1 : Int32} {x2 : Int32}  (hbad : x0 < 0 ∨ ¬ x0 < nI 6) : vx_Met l yX9_put wsX9_put rm_c_X9_put_a (Pr G z ad M [.ref (ad 0), .int x0, .int x1, .int x2]) (fun _ _ _ _ => False) (xT G z ad M "java/lang/IndexOutOfBoundsException") 1 6 (fr z) := by
  refine vx_ofW (cc := cX9_put) (maxL := 6) (ret := (some .int)) (by decide) rfl ?_
  intro p e s m args below meth c s₁ B hml hnt hv
  obtain ⟨rfl, hv⟩ := hv
  have hI := Iv.entry hv
  have hx := B.exec
  have hb := B.bytes
  have hr := B.returns
  have hts := atoms_spec (ws := wsX9_put) B.pre
  have hown : s.vm.findClass RX9 = some m.cls := findClass_of_methodNamed B.named
  have hlocks := B.notSynchronized
  have hl := lv_entry ([.ref (ad 0), .int x0, .int x1, .int x2]) (n := 6) (Nat.le_of_ble_eq_true rfl)
  rw [lg_entry_eq]
  generalize (lg_sl ([.ref (ad 0), .int x0, .int x1, .int x2]) ++ List.replicate (6 - (lg_sl ([.ref (ad 0), .int x0, .int x1, .int x2])).length) Slot.unset).toArray = ls at hl ⊢
  have hl : lv_has ls 6 [(0, .ref (ad 0)), (1, .int x0), (2, .int x1), (3, .int x2)] := hl
  refine lv_iload_n hx hb dX9_put_0 rfl (lv_at hl 1 rfl) ?_
  refine k_T (vx_runS (As := [.int x0]) (rest := []) ⟨hx, hb, hml, hown, hts⟩ (c_X9_checkKind_T l hst G z ad M (x := x0) hbad) (va_cwS 1 hts (gS (lwg_of t_477 rfl) (lwg_of t_478 rfl) (lwg_of t_1 rfl) (lwg_of t_479 rfl)) rfl rfl rfl (by decide +kernel) ⟨Nat.le_of_ble_eq_true rfl, Nat.le_of_ble_eq_true rfl⟩) hI.preS rfl rfl hl.1 rfl (lv_room (Nat.le_of_ble_eq_true rfl)) dX9_put_1 ⟨Nat.le_of_ble_eq_true rfl, Nat.le_of_ble_eq_true rfl⟩) hI (fun ce q9 H_3 locs_4 hI hce hcv hcl => ?_)
  exact e_out hnt hlocks hI hce hcv hcl (Nat.le_of_ble_eq_true rfl) (Nat.le_of_ble_eq_true rfl)

/-- X9_put -/
abbrev rm_c_X9_put_b : Room := { frames := 6, cells := 1, slots := 6, locals := 90 }
set_option maxHeartbeats 4000000 in
set_option maxRecDepth 100000 in
theorem c_X9_put_b (l : Launch) (hst : l.stackTraces = false) (G : GG) (z : Nat) (ad : Nat → Nat) (M : Mem) {kd : Nat} {x1 : Int32} {x2 : Int32}  (hkd : kd < 6) (hbad : x1 < 0 ∨ x2 < x1 ∨ nI 1000 < x2) : vx_Met l yX9_put wsX9_put rm_c_X9_put_b (Pr G z ad M [.ref (ad 0), .int (nI kd), .int x1, .int x2]) (fun _ _ _ _ => False) (xT G z ad M "java/lang/IllegalArgumentException") 1 6 (fr z) := by
  refine vx_ofW (cc := cX9_put) (maxL := 6) (ret := (some .int)) (by decide) rfl ?_
  intro p e s m args below meth c s₁ B hml hnt hv
  obtain ⟨rfl, hv⟩ := hv
  have hI := Iv.entry hv
  have hx := B.exec
  have hb := B.bytes
  have hr := B.returns
  have hts := atoms_spec (ws := wsX9_put) B.pre
  have hown : s.vm.findClass RX9 = some m.cls := findClass_of_methodNamed B.named
  have hlocks := B.notSynchronized
  have tk_A := hts _ (List.mem_cons_of_mem _ (lwg_of t_553 rfl))
  have ti_A := hts _ (List.mem_cons_of_mem _ (lwg_of t_19 rfl))
  have hl := lv_entry ([.ref (ad 0), .int (nI kd), .int x1, .int x2]) (n := 6) (Nat.le_of_ble_eq_true rfl)
  rw [lg_entry_eq]
  generalize (lg_sl ([.ref (ad 0), .int (nI kd), .int x1, .int x2]) ++ List.replicate (6 - (lg_sl ([.ref (ad 0), .int (nI kd), .int x1, .int x2])).length) Slot.unset).toArray = ls at hl ⊢
  have hl : lv_has ls 6 [(0, .ref (ad 0)), (1, .int (nI kd)), (2, .int x1), (3, .int x2)] := hl
  refine lv_iload_n hx hb dX9_put_0 rfl (lv_at hl 1 rfl) ?_
  refine k_Nv (va_runS (As := [.int (nI kd)]) (rest := []) ⟨hx, hb, hml, hown, hts⟩ (c_X9_checkKind l G z ad M (t := kd) (by omega)) (va_cwS 1 hts (gS (lwg_of t_477 rfl) (lwg_of t_478 rfl) (lwg_of t_1 rfl) (lwg_of t_479 rfl)) rfl rfl rfl (by decide +kernel) ⟨Nat.le_of_ble_eq_true rfl, Nat.le_of_ble_eq_true rfl⟩) hI.preS rfl rfl hl.1 rfl (lv_room (Nat.le_of_ble_eq_true rfl)) dX9_put_1 ⟨Nat.le_of_ble_eq_true rfl, Nat.le_of_ble_eq_true rfl⟩) hI (fun M_3 H_4 locs_5 hp_2 hI => ?_)
  have eM_6 : M = M_3 := (funext hp_2).symm
  subst eM_6
  refine lv_iload_n hx hb dX9_put_4 rfl (lv_at hl 2 rfl) ?_
  refine lv_if_lt (tgt := 20) hx hb dX9_put_5 (by decide) (fun c_7 => ?_) (fun c_7 => ?_)
  · -- 5: x1 lt
    exact t_sA hx hb hst hown hts hI (k := 8) (is := 126) rfl tk_A ti_A (by rw [hml]; exact hl.1) dX9_put_20 dX9_put_23 dX9_put_24 dX9_put_26 dX9_put_29 hnt (Nat.le_of_ble_eq_true rfl) (Nat.le_of_ble_eq_true rfl) (Nat.le_of_ble_eq_true rfl) (Nat.le_of_ble_eq_true rfl) hlocks (Nat.le_of_ble_eq_true rfl) (Nat.le_of_ble_eq_true rfl)
  · -- 5: x1 ge
    refine lv_iload_n hx hb dX9_put_8 rfl (lv_at hl 2 rfl) ?_
    refine lv_iload_n hx hb dX9_put_9 rfl (lv_at hl 3 rfl) ?_
    refine lv_icmp_gt (tgt := 20) hx hb dX9_put_10 (by decide) (fun c_8 => ?_) (fun c_8 => ?_)
    · -- 10: x1 gt
      exact t_sA hx hb hst hown hts hI (k := 8) (is := 126) rfl tk_A ti_A (by rw [hml]; exact hl.1) dX9_put_20 dX9_put_23 dX9_put_24 dX9_put_26 dX9_put_29 hnt (Nat.le_of_ble_eq_true rfl) (Nat.le_of_ble_eq_true rfl) (Nat.le_of_ble_eq_true rfl) (Nat.le_of_ble_eq_true rfl) hlocks (Nat.le_of_ble_eq_true rfl) (Nat.le_of_ble_eq_true rfl)
    · -- 10: x1 le
      refine lv_iload_n hx hb dX9_put_13 rfl (lv_at hl 3 rfl) ?_
      refine lv_sipush (v := nI 1000) hx hb dX9_put_14 (by decide) ?_
      refine lv_icmp_le (tgt := 30) hx hb dX9_put_17 (by decide) (fun c_9 => ?_) (fun c_9 => ?_)
      · -- 17: x2 le
        rcases hbad with h9 | h9 | h9 <;> first | contradiction | exact absurd h9 (Int32.not_lt.mpr (by assumption))
      · -- 17: x2 gt
        exact t_sA hx hb hst hown hts hI (k := 8) (is := 126) rfl tk_A ti_A (by rw [hml]; exact hl.1) dX9_put_20 dX9_put_23 dX9_put_24 dX9_put_26 dX9_put_29 hnt (Nat.le_of_ble_eq_true rfl) (Nat.le_of_ble_eq_true rfl) (Nat.le_of_ble_eq_true rfl) (Nat.le_of_ble_eq_true rfl) hlocks (Nat.le_of_ble_eq_true rfl) (Nat.le_of_ble_eq_true rfl)

/-- X9_put -/
abbrev rm_c_X9_put_c : Room := { frames := 6, cells := 1, slots := 6, locals := 90 }
set_option maxHeartbeats 4000000 in
set_option maxRecDepth 100000 in
theorem c_X9_put_c (l : Launch) (hst : l.stackTraces = false) (G : GG) (z : Nat) (ad : Nat → Nat) (M : Mem) {qa : Nat} {qs : Nat} {fw : Int32} {s0 : Nat} {kd : Nat} {f : Nat} {t : Nat} (h0 : M 0 = some (cStore ad qa qs fw)) (h12 : M 12 = some (cEnds ad 12 s0)) (hkd : kd < 6) (hft : f ≤ t ∧ t ≤ 1000) (hs0 : s0 = 0) : vx_Met l yX9_put wsX9_put rm_c_X9_put_c (Pr G z ad M [.ref (ad 0), .int (nI kd), .int (nI f), .int (nI t)]) (fun _ _ _ _ => False) (xT G z ad M "java/lang/IllegalArgumentException") 1 6 (fr z) := by
  refine vx_ofW (cc := cX9_put) (maxL := 6) (ret := (some .int)) (by decide) rfl ?_
  intro p e s m args below meth c s₁ B hml hnt hv
  obtain ⟨rfl, hv⟩ := hv
  have hI := Iv.entry hv
  have hx := B.exec
  have hb := B.bytes
  have hr := B.returns
  have hts := atoms_spec (ws := wsX9_put) B.pre
  have hown : s.vm.findClass RX9 = some m.cls := findClass_of_methodNamed B.named
  have hlocks := B.notSynchronized
  have i_RX9 : ∀ w ∈ u_ws RX9 TX9 10, w ∈ wsX9_put := fun w h => List.mem_cons_of_mem _ (iu_X9 w h)
  have f_33 := hts _ (List.mem_cons_of_mem _ (lwg_of t_242 rfl))
  have tk_A := hts _ (List.mem_cons_of_mem _ (lwg_of t_553 rfl))
  have ti_A := hts _ (List.mem_cons_of_mem _ (lwg_of t_19 rfl))
  have hl := lv_entry ([.ref (ad 0), .int (nI kd), .int (nI f), .int (nI t)]) (n := 6) (Nat.le_of_ble_eq_true rfl)
  rw [lg_entry_eq]
  generalize (lg_sl ([.ref (ad 0), .int (nI kd), .int (nI f), .int (nI t)]) ++ List.replicate (6 - (lg_sl ([.ref (ad 0), .int (nI kd), .int (nI f), .int (nI t)])).length) Slot.unset).toArray = ls at hl ⊢
  have hl : lv_has ls 6 [(0, .ref (ad 0)), (1, .int (nI kd)), (2, .int (nI f)), (3, .int (nI t))] := hl
  refine lv_iload_n hx hb dX9_put_0 rfl (lv_at hl 1 rfl) ?_
  refine k_Nv (va_runS (As := [.int (nI kd)]) (rest := []) ⟨hx, hb, hml, hown, hts⟩ (c_X9_checkKind l G z ad M (t := kd) (by omega)) (va_cwS 1 hts (gS (lwg_of t_477 rfl) (lwg_of t_478 rfl) (lwg_of t_1 rfl) (lwg_of t_479 rfl)) rfl rfl rfl (by decide +kernel) ⟨Nat.le_of_ble_eq_true rfl, Nat.le_of_ble_eq_true rfl⟩) hI.preS rfl rfl hl.1 rfl (lv_room (Nat.le_of_ble_eq_true rfl)) dX9_put_1 ⟨Nat.le_of_ble_eq_true rfl, Nat.le_of_ble_eq_true rfl⟩) hI (fun M_3 H_4 locs_5 hp_2 hI => ?_)
  have eM_6 : M = M_3 := (funext hp_2).symm
  subst eM_6
  refine lv_iload_n hx hb dX9_put_4 rfl (lv_at hl 2 rfl) ?_
  refine lv_if_lt (tgt := 20) hx hb dX9_put_5 (by decide) (fun c_7 => ?_) (fun c_7 => ?_)
  · -- 5: nI f lt
    have c_7 : f < 0 := (nI_ltI (a := f) (b := 0) (by omega) (by omega)).mp (c_7)
    omega
  · -- 5: nI f ge
    have c_7 : 0 ≤ f := by have h := mt (nI_ltI (a := f) (b := 0) (by omega) (by omega)).mpr c_7; omega
    refine lv_iload_n hx hb dX9_put_8 rfl (lv_at hl 2 rfl) ?_
    refine lv_iload_n hx hb dX9_put_9 rfl (lv_at hl 3 rfl) ?_
    refine lv_icmp_gt (tgt := 20) hx hb dX9_put_10 (by decide) (fun c_8 => ?_) (fun c_8 => ?_)
    · -- 10: nI f gt
      have c_8 : t < f := (nI_ltI (a := t) (b := f) (by omega) (by omega)).mp (c_8)
      omega
    · -- 10: nI f le
      have c_8 : f ≤ t := by have h := mt (nI_ltI (a := t) (b := f) (by omega) (by omega)).mpr c_8; omega
      refine lv_iload_n hx hb dX9_put_13 rfl (lv_at hl 3 rfl) ?_
      refine lv_sipush (v := nI 1000) hx hb dX9_put_14 (by decide) ?_
      refine lv_icmp_le (tgt := 30) hx hb dX9_put_17 (by decide) (fun c_9 => ?_) (fun c_9 => ?_)
      · -- 17: nI t le
        have c_9 : t ≤ 1000 := (nI_leI (a := t) (b := 1000) (by omega) (by omega)).mp (c_9)
        refine lv_aload_n hx hb dX9_put_30 rfl (lv_at hl 0 rfl) ?_
        refine h_get (C := RX9) (T := TX9) (N := 10) hx hb hts i_RX9 hown hI h0 rfl 3 (by decide) f_33 rfl rfl dX9_put_31 ?_
        refine k_Ri (va_runV (As := []) (rest := []) ⟨hx, hb, hml, hown, hts⟩ (c_X0_size l G z ad M (k := 12) (sz := s0) h12) (cwV 0 hts (gV (lwg_of t_450 rfl) (lwg_of t_451 rfl) (lwg_of t_452 rfl) (lwg_of t_5 rfl) (lwg_of t_453 rfl)) rfl rfl rfl (by decide +kernel) ⟨Nat.le_of_ble_eq_true rfl, Nat.le_of_ble_eq_true rfl⟩) (hI.preV h12 rfl) rfl rfl hl.1 rfl (lv_room (Nat.le_of_ble_eq_true rfl)) dX9_put_34 ⟨Nat.le_of_ble_eq_true rfl, Nat.le_of_ble_eq_true rfl⟩) (fun _ h => h) (fun r_10 hp_11 => ?_)
        rw [hp_11]
        refine lv_if_ne (tgt := 50) hx hb dX9_put_37 (by decide) (fun c_12 => ?_) (fun c_12 => ?_)
        · -- 37: nI s0 ne
          have c_12 : s0 ≠ 0 := by have h := mt (nI_eq (a := s0) (b := 0) (by omega) (by omega)).mpr c_12; omega
          omega
        · -- 37: nI s0 eq
          have c_12 : s0 = 0 := (nI_eq (a := s0) (b := 0) (by omega) (by omega)).mp (c_12)
          exact t_sA hx hb hst hown hts hI (k := 9) (is := 128) rfl tk_A ti_A (by rw [hml]; exact hl.1) dX9_put_40 dX9_put_43 dX9_put_44 dX9_put_46 dX9_put_49 hnt (Nat.le_of_ble_eq_true rfl) (Nat.le_of_ble_eq_true rfl) (Nat.le_of_ble_eq_true rfl) (Nat.le_of_ble_eq_true rfl) hlocks (Nat.le_of_ble_eq_true rfl) (Nat.le_of_ble_eq_true rfl)
      · -- 17: nI t gt
        have c_9 : 1000 < t := by have h := mt (nI_leI (a := t) (b := 1000) (by omega) (by omega)).mpr c_9; omega
        omega

/-- X9_put -/
abbrev rm_c_X9_put_d : Room := { frames := 6, cells := 1, slots := 6, locals := 90 }
set_option maxHeartbeats 4000000 in
set_option maxRecDepth 100000 in
theorem c_X9_put_d (l : Launch) (hst : l.stackTraces = false) (G : GG) (z : Nat) (ad : Nat → Nat) (M : Mem) {n : Nat} {kd : Nat → Nat} {fm : Nat → Int32} {to : Nat → Int32} {sz : Nat → Nat} {rl : Nat → Nat → Nat} {en : Nat → Nat → Nat} {qa : Nat} {qs : Nat} {fw : Int32} {s0 : Nat} {f : Nat} {t : Nat} {q : Nat} (hL : LSm G ad M n kd fm to sz rl en) (h0 : M 0 = some (cStore ad qa qs fw)) (h12 : M 12 = some (cEnds ad 12 s0)) (hkd : q < 6) (hft : f ≤ t ∧ t ≤ 1000) (hs0 : 0 < s0 ∧ s0 ≤ 6) (hn : n = 120) : vx_Met l yX9_put wsX9_put rm_c_X9_put_d (Pr G z ad M [.ref (ad 0), .int (nI q), .int (nI f), .int (nI t)]) (fun _ _ _ _ => False) (xT G z ad M "java/lang/UnsupportedOperationException") 1 6 (fr z) := by
  refine vx_ofW (cc := cX9_put) (maxL := 6) (ret := (some .int)) (by decide) rfl ?_
  intro p e s m args below meth c s₁ B hml hnt hv
  obtain ⟨rfl, hv⟩ := hv
  have hI := Iv.entry hv
  have hx := B.exec
  have hb := B.bytes
  have hr := B.returns
  have hts := atoms_spec (ws := wsX9_put) B.pre
  have hown : s.vm.findClass RX9 = some m.cls := findClass_of_methodNamed B.named
  have hlocks := B.notSynchronized
  have i_RX9 : ∀ w ∈ u_ws RX9 TX9 10, w ∈ wsX9_put := fun w h => List.mem_cons_of_mem _ (iu_X9 w h)
  have f_33 := hts _ (List.mem_cons_of_mem _ (lwg_of t_242 rfl))
  have f_40 := hts _ (List.mem_cons_of_mem _ (lwg_of t_243 rfl))
  have tk_U := hts _ (List.mem_cons_of_mem _ (lwg_of t_626 rfl))
  have ti_U := hts _ (List.mem_cons_of_mem _ (lwg_of t_20 rfl))
  have hl := lv_entry ([.ref (ad 0), .int (nI q), .int (nI f), .int (nI t)]) (n := 6) (Nat.le_of_ble_eq_true rfl)
  rw [lg_entry_eq]
  generalize (lg_sl ([.ref (ad 0), .int (nI q), .int (nI f), .int (nI t)]) ++ List.replicate (6 - (lg_sl ([.ref (ad 0), .int (nI q), .int (nI f), .int (nI t)])).length) Slot.unset).toArray = ls at hl ⊢
  have hl : lv_has ls 6 [(0, .ref (ad 0)), (1, .int (nI q)), (2, .int (nI f)), (3, .int (nI t))] := hl
  have h16 := hL.1
  obtain ⟨mcn, ed, h17, hed⟩ := id hL.2.1
  refine lv_iload_n hx hb dX9_put_0 rfl (lv_at hl 1 rfl) ?_
  refine k_Nv (va_runS (As := [.int (nI q)]) (rest := []) ⟨hx, hb, hml, hown, hts⟩ (c_X9_checkKind l G z ad M (t := q) (by omega)) (va_cwS 1 hts (gS (lwg_of t_477 rfl) (lwg_of t_478 rfl) (lwg_of t_1 rfl) (lwg_of t_479 rfl)) rfl rfl rfl (by decide +kernel) ⟨Nat.le_of_ble_eq_true rfl, Nat.le_of_ble_eq_true rfl⟩) hI.preS rfl rfl hl.1 rfl (lv_room (Nat.le_of_ble_eq_true rfl)) dX9_put_1 ⟨Nat.le_of_ble_eq_true rfl, Nat.le_of_ble_eq_true rfl⟩) hI (fun M_3 H_4 locs_5 hp_2 hI => ?_)
  have eM_6 : M = M_3 := (funext hp_2).symm
  subst eM_6
  refine lv_iload_n hx hb dX9_put_4 rfl (lv_at hl 2 rfl) ?_
  refine lv_if_lt (tgt := 20) hx hb dX9_put_5 (by decide) (fun c_7 => ?_) (fun c_7 => ?_)
  · -- 5: nI f lt
    have c_7 : f < 0 := (nI_ltI (a := f) (b := 0) (by omega) (by omega)).mp (c_7)
    omega
  · -- 5: nI f ge
    have c_7 : 0 ≤ f := by have h := mt (nI_ltI (a := f) (b := 0) (by omega) (by omega)).mpr c_7; omega
    refine lv_iload_n hx hb dX9_put_8 rfl (lv_at hl 2 rfl) ?_
    refine lv_iload_n hx hb dX9_put_9 rfl (lv_at hl 3 rfl) ?_
    refine lv_icmp_gt (tgt := 20) hx hb dX9_put_10 (by decide) (fun c_8 => ?_) (fun c_8 => ?_)
    · -- 10: nI f gt
      have c_8 : t < f := (nI_ltI (a := t) (b := f) (by omega) (by omega)).mp (c_8)
      omega
    · -- 10: nI f le
      have c_8 : f ≤ t := by have h := mt (nI_ltI (a := t) (b := f) (by omega) (by omega)).mpr c_8; omega
      refine lv_iload_n hx hb dX9_put_13 rfl (lv_at hl 3 rfl) ?_
      refine lv_sipush (v := nI 1000) hx hb dX9_put_14 (by decide) ?_
      refine lv_icmp_le (tgt := 30) hx hb dX9_put_17 (by decide) (fun c_9 => ?_) (fun c_9 => ?_)
      · -- 17: nI t le
        have c_9 : t ≤ 1000 := (nI_leI (a := t) (b := 1000) (by omega) (by omega)).mp (c_9)
        refine lv_aload_n hx hb dX9_put_30 rfl (lv_at hl 0 rfl) ?_
        refine h_get (C := RX9) (T := TX9) (N := 10) hx hb hts i_RX9 hown hI h0 rfl 3 (by decide) f_33 rfl rfl dX9_put_31 ?_
        refine k_Ri (va_runV (As := []) (rest := []) ⟨hx, hb, hml, hown, hts⟩ (c_X0_size l G z ad M (k := 12) (sz := s0) h12) (cwV 0 hts (gV (lwg_of t_450 rfl) (lwg_of t_451 rfl) (lwg_of t_452 rfl) (lwg_of t_5 rfl) (lwg_of t_453 rfl)) rfl rfl rfl (by decide +kernel) ⟨Nat.le_of_ble_eq_true rfl, Nat.le_of_ble_eq_true rfl⟩) (hI.preV h12 rfl) rfl rfl hl.1 rfl (lv_room (Nat.le_of_ble_eq_true rfl)) dX9_put_34 ⟨Nat.le_of_ble_eq_true rfl, Nat.le_of_ble_eq_true rfl⟩) (fun _ h => h) (fun r_10 hp_11 => ?_)
        rw [hp_11]
        refine lv_if_ne (tgt := 50) hx hb dX9_put_37 (by decide) (fun c_12 => ?_) (fun c_12 => ?_)
        · -- 37: nI s0 ne
          have c_12 : s0 ≠ 0 := by have h := mt (nI_eq (a := s0) (b := 0) (by omega) (by omega)).mpr c_12; omega
          refine lv_aload_n hx hb dX9_put_50 rfl (lv_at hl 0 rfl) ?_
          refine h_get (C := RX9) (T := TX9) (N := 10) hx hb hts i_RX9 hown hI h0 rfl 4 (by decide) f_40 rfl rfl dX9_put_51 ?_
          refine k_Ri (va_runV (As := []) (rest := []) ⟨hx, hb, hml, hown, hts⟩ (c_X3_size l G z ad M (n := n) (kd := kd) (fm := fm) (to := to) (sz := sz) (rl := rl) (en := en) hL) (cwV 0 hts (gV (lwg_of t_449 rfl) (lwg_of t_325 rfl) (lwg_of t_326 rfl) (lwg_of t_6 rfl) (lwg_of t_327 rfl)) rfl rfl rfl (by decide +kernel) ⟨Nat.le_of_ble_eq_true rfl, Nat.le_of_ble_eq_true rfl⟩) (hI.preV h16 rfl) rfl rfl hl.1 rfl (lv_room (Nat.le_of_ble_eq_true rfl)) dX9_put_54 ⟨Nat.le_of_ble_eq_true rfl, Nat.le_of_ble_eq_true rfl⟩) (fun _ h => h) (fun r_13 hp_14 => ?_)
          rw [hp_14]
          refine lv_bipush (v := nI 120) hx hb dX9_put_57 (by decide) ?_
          refine lv_icmp_lt (tgt := 72) hx hb dX9_put_59 (by decide) (fun c_15 => ?_) (fun c_15 => ?_)
          · -- 59: nI n lt
            have c_15 : n < 120 := (nI_ltI (a := n) (b := 120) (by omega) (by omega)).mp (c_15)
            omega
          · -- 59: nI n ge
            have c_15 : 120 ≤ n := by have h := mt (nI_ltI (a := n) (b := 120) (by omega) (by omega)).mpr c_15; omega
            exact t_sU hx hb hst hown hts hI (k := 10) (is := 133) rfl tk_U ti_U (by rw [hml]; exact hl.1) dX9_put_62 dX9_put_65 dX9_put_66 dX9_put_68 dX9_put_71 hnt (Nat.le_of_ble_eq_true rfl) (Nat.le_of_ble_eq_true rfl) (Nat.le_of_ble_eq_true rfl) (Nat.le_of_ble_eq_true rfl) hlocks (Nat.le_of_ble_eq_true rfl) (Nat.le_of_ble_eq_true rfl)
        · -- 37: nI s0 eq
          have c_12 : s0 = 0 := (nI_eq (a := s0) (b := 0) (by omega) (by omega)).mp (c_12)
          omega
      · -- 17: nI t gt
        have c_9 : 1000 < t := by have h := mt (nI_leI (a := t) (b := 1000) (by omega) (by omega)).mpr c_9; omega
        omega

/-- X9_strike -/
abbrev rm_c_X9_strike_a : Room := { frames := 7, cells := 1, slots := 6, locals := 111 }
set_option maxHeartbeats 4000000 in
set_option maxRecDepth 100000 in
theorem c_X9_strike_a (l : Launch) (hst : l.stackTraces = false) (G : GG) (z : Nat) (ad : Nat → Nat) (M : Mem) {n : Nat} {kd : Nat → Nat} {fm : Nat → Int32} {to : Nat → Int32} {sz : Nat → Nat} {rl : Nat → Nat → Nat} {en : Nat → Nat → Nat} {qa : Nat} {qs : Nat} {fw : Int32} {x0 : Int32} {x1 : Int32} (hL : LSm G ad M n kd fm to sz rl en) (h0 : M 0 = some (cStore ad qa qs fw)) (hbad : x0 < 0 ∨ ¬ x0 < nI n) : vx_Met l yX9_strike wsX9_strike rm_c_X9_strike_a (Pr G z ad M [.ref (ad 0), .int x0, .int x1]) (fun _ _ _ _ => False) (xT G z ad M "java/lang/IndexOutOfBoundsException") 1 6 (fr z) := by
  refine vx_ofW (cc := cX9_strike) (maxL := 3) (ret := (some .int)) (by decide) rfl ?_
  intro p e s m args below meth c s₁ B hml hnt hv
  obtain ⟨rfl, hv⟩ := hv
  have hI := Iv.entry hv
  have hx := B.exec
  have hb := B.bytes
  have hr := B.returns
  have hts := atoms_spec (ws := wsX9_strike) B.pre
  have hown : s.vm.findClass RX9 = some m.cls := findClass_of_methodNamed B.named
  have hlocks := B.notSynchronized
  have hl := lv_entry ([.ref (ad 0), .int x0, .int x1]) (n := 3) (Nat.le_of_ble_eq_true rfl)
  rw [lg_entry_eq]
  generalize (lg_sl ([.ref (ad 0), .int x0, .int x1]) ++ List.replicate (3 - (lg_sl ([.ref (ad 0), .int x0, .int x1])).length) Slot.unset).toArray = ls at hl ⊢
  have hl : lv_has ls 3 [(0, .ref (ad 0)), (1, .int x0), (2, .int x1)] := hl
  have h16 := hL.1
  obtain ⟨mcn, ed, h17, hed⟩ := id hL.2.1
  refine lv_aload_n hx hb dX9_strike_0 rfl (lv_at hl 0 rfl) ?_
  refine lv_iload_n hx hb dX9_strike_1 rfl (lv_at hl 1 rfl) ?_
  refine k_T (vx_runV (As := [.int x0]) (rest := []) ⟨hx, hb, hml, hown, hts⟩ (c_X9_checkLine_T l hst G z ad M (n := n) (kd := kd) (fm := fm) (to := to) (sz := sz) (rl := rl) (en := en) (qa := qa) (qs := qs) (fw := fw) (x := x0) hL h0 hbad) (cwV 1 hts (gV (lwg_of t_603 rfl) (lwg_of t_605 rfl) (lwg_of ts_7 rfl) (lwg_of t_1 rfl) (lwg_of t_606 rfl)) rfl rfl rfl (by decide +kernel) ⟨Nat.le_of_ble_eq_true rfl, Nat.le_of_ble_eq_true rfl⟩) (hI.preV h0 rfl) rfl rfl hl.1 rfl (lv_room (Nat.le_of_ble_eq_true rfl)) dX9_strike_2 ⟨Nat.le_of_ble_eq_true rfl, Nat.le_of_ble_eq_true rfl⟩) hI (fun ce q9 H_3 locs_4 hI hce hcv hcl => ?_)
  exact e_out hnt hlocks hI hce hcv hcl (Nat.le_of_ble_eq_true rfl) (Nat.le_of_ble_eq_true rfl)

/-- X9_look -/
abbrev rm_c_X9_look_a : Room := { frames := 7, cells := 1, slots := 6, locals := 111 }
set_option maxHeartbeats 4000000 in
set_option maxRecDepth 100000 in
theorem c_X9_look_a (l : Launch) (hst : l.stackTraces = false) (G : GG) (z : Nat) (ad : Nat → Nat) (M : Mem) {n : Nat} {kd : Nat → Nat} {fm : Nat → Int32} {to : Nat → Int32} {sz : Nat → Nat} {rl : Nat → Nat → Nat} {en : Nat → Nat → Nat} {qa : Nat} {qs : Nat} {fw : Int32} {x0 : Int32} {x1 : Int32} (hL : LSm G ad M n kd fm to sz rl en) (h0 : M 0 = some (cStore ad qa qs fw)) (hbad : x0 < 0 ∨ ¬ x0 < nI n) : vx_Met l yX9_look wsX9_look rm_c_X9_look_a (Pr G z ad M [.ref (ad 0), .int x0, .int x1]) (fun _ _ _ _ => False) (xT G z ad M "java/lang/IndexOutOfBoundsException") 1 6 (fr z) := by
  refine vx_ofW (cc := cX9_look) (maxL := 4) (ret := (some .int)) (by decide) rfl ?_
  intro p e s m args below meth c s₁ B hml hnt hv
  obtain ⟨rfl, hv⟩ := hv
  have hI := Iv.entry hv
  have hx := B.exec
  have hb := B.bytes
  have hr := B.returns
  have hts := atoms_spec (ws := wsX9_look) B.pre
  have hown : s.vm.findClass RX9 = some m.cls := findClass_of_methodNamed B.named
  have hlocks := B.notSynchronized
  have hl := lv_entry ([.ref (ad 0), .int x0, .int x1]) (n := 4) (Nat.le_of_ble_eq_true rfl)
  rw [lg_entry_eq]
  generalize (lg_sl ([.ref (ad 0), .int x0, .int x1]) ++ List.replicate (4 - (lg_sl ([.ref (ad 0), .int x0, .int x1])).length) Slot.unset).toArray = ls at hl ⊢
  have hl : lv_has ls 4 [(0, .ref (ad 0)), (1, .int x0), (2, .int x1)] := hl
  have h16 := hL.1
  obtain ⟨mcn, ed, h17, hed⟩ := id hL.2.1
  refine lv_aload_n hx hb dX9_look_0 rfl (lv_at hl 0 rfl) ?_
  refine lv_iload_n hx hb dX9_look_1 rfl (lv_at hl 1 rfl) ?_
  refine k_T (vx_runV (As := [.int x0]) (rest := []) ⟨hx, hb, hml, hown, hts⟩ (c_X9_checkLine_T l hst G z ad M (n := n) (kd := kd) (fm := fm) (to := to) (sz := sz) (rl := rl) (en := en) (qa := qa) (qs := qs) (fw := fw) (x := x0) hL h0 hbad) (cwV 1 hts (gV (lwg_of t_603 rfl) (lwg_of t_605 rfl) (lwg_of ts_7 rfl) (lwg_of t_1 rfl) (lwg_of t_606 rfl)) rfl rfl rfl (by decide +kernel) ⟨Nat.le_of_ble_eq_true rfl, Nat.le_of_ble_eq_true rfl⟩) (hI.preV h0 rfl) rfl rfl hl.1 rfl (lv_room (Nat.le_of_ble_eq_true rfl)) dX9_look_2 ⟨Nat.le_of_ble_eq_true rfl, Nat.le_of_ble_eq_true rfl⟩) hI (fun ce q9 H_3 locs_4 hI hce hcv hcl => ?_)
  exact e_out hnt hlocks hI hce hcv hcl (Nat.le_of_ble_eq_true rfl) (Nat.le_of_ble_eq_true rfl)

/-- X9_ended -/
abbrev rm_c_X9_ended_a : Room := { frames := 7, cells := 1, slots := 6, locals := 111 }
set_option maxHeartbeats 4000000 in
set_option maxRecDepth 100000 in
theorem c_X9_ended_a (l : Launch) (hst : l.stackTraces = false) (G : GG) (z : Nat) (ad : Nat → Nat) (M : Mem) {n : Nat} {kd : Nat → Nat} {fm : Nat → Int32} {to : Nat → Int32} {sz : Nat → Nat} {rl : Nat → Nat → Nat} {en : Nat → Nat → Nat} {qa : Nat} {qs : Nat} {fw : Int32} {x0 : Int32} {x1 : Int32} {x2 : Int32} (hL : LSm G ad M n kd fm to sz rl en) (h0 : M 0 = some (cStore ad qa qs fw)) (hbad : x0 < 0 ∨ ¬ x0 < nI n) : vx_Met l yX9_ended wsX9_ended rm_c_X9_ended_a (Pr G z ad M [.ref (ad 0), .int x0, .int x1, .int x2]) (fun _ _ _ _ => False) (xT G z ad M "java/lang/IndexOutOfBoundsException") 1 6 (fr z) := by
  refine vx_ofW (cc := cX9_ended) (maxL := 5) (ret := (some .int)) (by decide) rfl ?_
  intro p e s m args below meth c s₁ B hml hnt hv
  obtain ⟨rfl, hv⟩ := hv
  have hI := Iv.entry hv
  have hx := B.exec
  have hb := B.bytes
  have hr := B.returns
  have hts := atoms_spec (ws := wsX9_ended) B.pre
  have hown : s.vm.findClass RX9 = some m.cls := findClass_of_methodNamed B.named
  have hlocks := B.notSynchronized
  have hl := lv_entry ([.ref (ad 0), .int x0, .int x1, .int x2]) (n := 5) (Nat.le_of_ble_eq_true rfl)
  rw [lg_entry_eq]
  generalize (lg_sl ([.ref (ad 0), .int x0, .int x1, .int x2]) ++ List.replicate (5 - (lg_sl ([.ref (ad 0), .int x0, .int x1, .int x2])).length) Slot.unset).toArray = ls at hl ⊢
  have hl : lv_has ls 5 [(0, .ref (ad 0)), (1, .int x0), (2, .int x1), (3, .int x2)] := hl
  have h16 := hL.1
  obtain ⟨mcn, ed, h17, hed⟩ := id hL.2.1
  refine lv_aload_n hx hb dX9_ended_0 rfl (lv_at hl 0 rfl) ?_
  refine lv_iload_n hx hb dX9_ended_1 rfl (lv_at hl 1 rfl) ?_
  refine k_T (vx_runV (As := [.int x0]) (rest := []) ⟨hx, hb, hml, hown, hts⟩ (c_X9_checkLine_T l hst G z ad M (n := n) (kd := kd) (fm := fm) (to := to) (sz := sz) (rl := rl) (en := en) (qa := qa) (qs := qs) (fw := fw) (x := x0) hL h0 hbad) (cwV 1 hts (gV (lwg_of t_603 rfl) (lwg_of t_605 rfl) (lwg_of ts_7 rfl) (lwg_of t_1 rfl) (lwg_of t_606 rfl)) rfl rfl rfl (by decide +kernel) ⟨Nat.le_of_ble_eq_true rfl, Nat.le_of_ble_eq_true rfl⟩) (hI.preV h0 rfl) rfl rfl hl.1 rfl (lv_room (Nat.le_of_ble_eq_true rfl)) dX9_ended_2 ⟨Nat.le_of_ble_eq_true rfl, Nat.le_of_ble_eq_true rfl⟩) hI (fun ce q9 H_3 locs_4 hI hce hcv hcl => ?_)
  exact e_out hnt hlocks hI hce hcv hcl (Nat.le_of_ble_eq_true rfl) (Nat.le_of_ble_eq_true rfl)

/-- X9_one -/
abbrev rm_c_X9_one_a : Room := { frames := 7, cells := 1, slots := 6, locals := 110 }
set_option maxHeartbeats 4000000 in
set_option maxRecDepth 100000 in
theorem c_X9_one_a (l : Launch) (hst : l.stackTraces = false) (G : GG) (z : Nat) (ad : Nat → Nat) (M : Mem) {x0 : Int32} {x1 : Int32}  (hbad : x0 < 0 ∨ ¬ x0 < nI 40) : vx_Met l yX9_one wsX9_one rm_c_X9_one_a (Pr G z ad M [.ref (ad 0), .int x0, .int x1]) (fun _ _ _ _ => False) (xT G z ad M "java/lang/IndexOutOfBoundsException") 1 6 (fr z) := by
  refine vx_ofW (cc := cX9_one) (maxL := 3) (ret := (some .boolean)) (by decide) rfl ?_
  intro p e s m args below meth c s₁ B hml hnt hv
  obtain ⟨rfl, hv⟩ := hv
  have hI := Iv.entry hv
  have hx := B.exec
  have hb := B.bytes
  have hr := B.returns
  have hts := atoms_spec (ws := wsX9_one) B.pre
  have hown : s.vm.findClass RX9 = some m.cls := findClass_of_methodNamed B.named
  have hlocks := B.notSynchronized
  have hl := lv_entry ([.ref (ad 0), .int x0, .int x1]) (n := 3) (Nat.le_of_ble_eq_true rfl)
  rw [lg_entry_eq]
  generalize (lg_sl ([.ref (ad 0), .int x0, .int x1]) ++ List.replicate (3 - (lg_sl ([.ref (ad 0), .int x0, .int x1])).length) Slot.unset).toArray = ls at hl ⊢
  have hl : lv_has ls 3 [(0, .ref (ad 0)), (1, .int x0), (2, .int x1)] := hl
  refine lv_iload_n hx hb dX9_one_0 rfl (lv_at hl 1 rfl) ?_
  refine k_T (vx_runS (As := [.int x0]) (rest := []) ⟨hx, hb, hml, hown, hts⟩ (c_X9_checkThing_T l hst G z ad M (x := x0) hbad) (va_cwS 1 hts (gS (lwg_of t_608 rfl) (lwg_of t_609 rfl) (lwg_of t_1 rfl) (lwg_of t_610 rfl)) rfl rfl rfl (by decide +kernel) ⟨Nat.le_of_ble_eq_true rfl, Nat.le_of_ble_eq_true rfl⟩) hI.preS rfl rfl hl.1 rfl (lv_room (Nat.le_of_ble_eq_true rfl)) dX9_one_1 ⟨Nat.le_of_ble_eq_true rfl, Nat.le_of_ble_eq_true rfl⟩) hI (fun ce q9 H_3 locs_4 hI hce hcv hcl => ?_)
  exact e_out hnt hlocks hI hce hcv hcl (Nat.le_of_ble_eq_true rfl) (Nat.le_of_ble_eq_true rfl)

/-- X9_one -/
abbrev rm_c_X9_one_b : Room := { frames := 7, cells := 1, slots := 6, locals := 110 }
set_option maxHeartbeats 4000000 in
set_option maxRecDepth 100000 in
theorem c_X9_one_b (l : Launch) (hst : l.stackTraces = false) (G : GG) (z : Nat) (ad : Nat → Nat) (M : Mem) {a : Nat} {x1 : Int32}  (ha : a < 40) (hbad : x1 < 0 ∨ ¬ x1 < nI 40) : vx_Met l yX9_one wsX9_one rm_c_X9_one_b (Pr G z ad M [.ref (ad 0), .int (nI a), .int x1]) (fun _ _ _ _ => False) (xT G z ad M "java/lang/IndexOutOfBoundsException") 1 6 (fr z) := by
  refine vx_ofW (cc := cX9_one) (maxL := 3) (ret := (some .boolean)) (by decide) rfl ?_
  intro p e s m args below meth c s₁ B hml hnt hv
  obtain ⟨rfl, hv⟩ := hv
  have hI := Iv.entry hv
  have hx := B.exec
  have hb := B.bytes
  have hr := B.returns
  have hts := atoms_spec (ws := wsX9_one) B.pre
  have hown : s.vm.findClass RX9 = some m.cls := findClass_of_methodNamed B.named
  have hlocks := B.notSynchronized
  have hl := lv_entry ([.ref (ad 0), .int (nI a), .int x1]) (n := 3) (Nat.le_of_ble_eq_true rfl)
  rw [lg_entry_eq]
  generalize (lg_sl ([.ref (ad 0), .int (nI a), .int x1]) ++ List.replicate (3 - (lg_sl ([.ref (ad 0), .int (nI a), .int x1])).length) Slot.unset).toArray = ls at hl ⊢
  have hl : lv_has ls 3 [(0, .ref (ad 0)), (1, .int (nI a)), (2, .int x1)] := hl
  refine lv_iload_n hx hb dX9_one_0 rfl (lv_at hl 1 rfl) ?_
  refine k_Nv (va_runS (As := [.int (nI a)]) (rest := []) ⟨hx, hb, hml, hown, hts⟩ (c_X9_checkThing l G z ad M (t := a) (by omega)) (va_cwS 1 hts (gS (lwg_of t_608 rfl) (lwg_of t_609 rfl) (lwg_of t_1 rfl) (lwg_of t_610 rfl)) rfl rfl rfl (by decide +kernel) ⟨Nat.le_of_ble_eq_true rfl, Nat.le_of_ble_eq_true rfl⟩) hI.preS rfl rfl hl.1 rfl (lv_room (Nat.le_of_ble_eq_true rfl)) dX9_one_1 ⟨Nat.le_of_ble_eq_true rfl, Nat.le_of_ble_eq_true rfl⟩) hI (fun M_3 H_4 locs_5 hp_2 hI => ?_)
  have eM_6 : M = M_3 := (funext hp_2).symm
  subst eM_6
  refine lv_iload_n hx hb dX9_one_4 rfl (lv_at hl 2 rfl) ?_
  refine k_T (vx_runS (As := [.int x1]) (rest := []) ⟨hx, hb, hml, hown, hts⟩ (c_X9_checkThing_T l hst G z ad M (x := x1) hbad) (va_cwS 1 hts (gS (lwg_of t_608 rfl) (lwg_of t_609 rfl) (lwg_of t_1 rfl) (lwg_of t_610 rfl)) rfl rfl rfl (by decide +kernel) ⟨Nat.le_of_ble_eq_true rfl, Nat.le_of_ble_eq_true rfl⟩) hI.preS rfl rfl hl.1 rfl (lv_room (Nat.le_of_ble_eq_true rfl)) dX9_one_5 ⟨Nat.le_of_ble_eq_true rfl, Nat.le_of_ble_eq_true rfl⟩) hI (fun ce q9 H_9 locs_10 hI hce hcv hcl => ?_)
  exact e_out hnt hlocks hI hce hcv hcl (Nat.le_of_ble_eq_true rfl) (Nat.le_of_ble_eq_true rfl)

/-- X9_as -/
abbrev rm_c_X9_as_a : Room := { frames := 7, cells := 1, slots := 6, locals := 110 }
set_option maxHeartbeats 4000000 in
set_option maxRecDepth 100000 in
theorem c_X9_as_a (l : Launch) (hst : l.stackTraces = false) (G : GG) (z : Nat) (ad : Nat → Nat) (M : Mem) {x0 : Int32}  (hbad : x0 < 0 ∨ ¬ x0 < nI 40) : vx_Met l yX9_as wsX9_as rm_c_X9_as_a (Pr G z ad M [.ref (ad 0), .int x0]) (fun _ _ _ _ => False) (xT G z ad M "java/lang/IndexOutOfBoundsException") 1 6 (fr z) := by
  refine vx_ofW (cc := cX9_as) (maxL := 2) (ret := (some .int)) (by decide) rfl ?_
  intro p e s m args below meth c s₁ B hml hnt hv
  obtain ⟨rfl, hv⟩ := hv
  have hI := Iv.entry hv
  have hx := B.exec
  have hb := B.bytes
  have hr := B.returns
  have hts := atoms_spec (ws := wsX9_as) B.pre
  have hown : s.vm.findClass RX9 = some m.cls := findClass_of_methodNamed B.named
  have hlocks := B.notSynchronized
  have hl := lv_entry ([.ref (ad 0), .int x0]) (n := 2) (Nat.le_of_ble_eq_true rfl)
  rw [lg_entry_eq]
  generalize (lg_sl ([.ref (ad 0), .int x0]) ++ List.replicate (2 - (lg_sl ([.ref (ad 0), .int x0])).length) Slot.unset).toArray = ls at hl ⊢
  have hl : lv_has ls 2 [(0, .ref (ad 0)), (1, .int x0)] := hl
  refine lv_iload_n hx hb dX9_as_0 rfl (lv_at hl 1 rfl) ?_
  refine k_T (vx_runS (As := [.int x0]) (rest := []) ⟨hx, hb, hml, hown, hts⟩ (c_X9_checkThing_T l hst G z ad M (x := x0) hbad) (va_cwS 1 hts (gS (lwg_of t_608 rfl) (lwg_of t_609 rfl) (lwg_of t_1 rfl) (lwg_of t_610 rfl)) rfl rfl rfl (by decide +kernel) ⟨Nat.le_of_ble_eq_true rfl, Nat.le_of_ble_eq_true rfl⟩) hI.preS rfl rfl hl.1 rfl (lv_room (Nat.le_of_ble_eq_true rfl)) dX9_as_1 ⟨Nat.le_of_ble_eq_true rfl, Nat.le_of_ble_eq_true rfl⟩) hI (fun ce q9 H_3 locs_4 hI hce hcv hcl => ?_)
  exact e_out hnt hlocks hI hce hcv hcl (Nat.le_of_ble_eq_true rfl) (Nat.le_of_ble_eq_true rfl)

/-- X9_ways -/
abbrev rm_c_X9_ways_a : Room := { frames := 7, cells := 1, slots := 6, locals := 110 }
set_option maxHeartbeats 4000000 in
set_option maxRecDepth 100000 in
theorem c_X9_ways_a (l : Launch) (hst : l.stackTraces = false) (G : GG) (z : Nat) (ad : Nat → Nat) (M : Mem) {x0 : Int32} {x1 : Int32} {x2 : Int32} {x3 : Int32}  (hbad : x0 < 0 ∨ ¬ x0 < nI 40) : vx_Met l yX9_ways wsX9_ways rm_c_X9_ways_a (Pr G z ad M [.ref (ad 0), .int x0, .int x1, .int x2, .int x3]) (fun _ _ _ _ => False) (xT G z ad M "java/lang/IndexOutOfBoundsException") 1 6 (fr z) := by
  refine vx_ofW (cc := cX9_ways) (maxL := 5) (ret := (some .int)) (by decide) rfl ?_
  intro p e s m args below meth c s₁ B hml hnt hv
  obtain ⟨rfl, hv⟩ := hv
  have hI := Iv.entry hv
  have hx := B.exec
  have hb := B.bytes
  have hr := B.returns
  have hts := atoms_spec (ws := wsX9_ways) B.pre
  have hown : s.vm.findClass RX9 = some m.cls := findClass_of_methodNamed B.named
  have hlocks := B.notSynchronized
  have hl := lv_entry ([.ref (ad 0), .int x0, .int x1, .int x2, .int x3]) (n := 5) (Nat.le_of_ble_eq_true rfl)
  rw [lg_entry_eq]
  generalize (lg_sl ([.ref (ad 0), .int x0, .int x1, .int x2, .int x3]) ++ List.replicate (5 - (lg_sl ([.ref (ad 0), .int x0, .int x1, .int x2, .int x3])).length) Slot.unset).toArray = ls at hl ⊢
  have hl : lv_has ls 5 [(0, .ref (ad 0)), (1, .int x0), (2, .int x1), (3, .int x2), (4, .int x3)] := hl
  refine lv_iload_n hx hb dX9_ways_0 rfl (lv_at hl 1 rfl) ?_
  refine k_T (vx_runS (As := [.int x0]) (rest := []) ⟨hx, hb, hml, hown, hts⟩ (c_X9_checkThing_T l hst G z ad M (x := x0) hbad) (va_cwS 1 hts (gS (lwg_of t_608 rfl) (lwg_of t_609 rfl) (lwg_of t_1 rfl) (lwg_of t_610 rfl)) rfl rfl rfl (by decide +kernel) ⟨Nat.le_of_ble_eq_true rfl, Nat.le_of_ble_eq_true rfl⟩) hI.preS rfl rfl hl.1 rfl (lv_room (Nat.le_of_ble_eq_true rfl)) dX9_ways_1 ⟨Nat.le_of_ble_eq_true rfl, Nat.le_of_ble_eq_true rfl⟩) hI (fun ce q9 H_3 locs_4 hI hce hcv hcl => ?_)
  exact e_out hnt hlocks hI hce hcv hcl (Nat.le_of_ble_eq_true rfl) (Nat.le_of_ble_eq_true rfl)

/-- X9_ways -/
abbrev rm_c_X9_ways_b : Room := { frames := 7, cells := 1, slots := 6, locals := 110 }
set_option maxHeartbeats 4000000 in
set_option maxRecDepth 100000 in
theorem c_X9_ways_b (l : Launch) (hst : l.stackTraces = false) (G : GG) (z : Nat) (ad : Nat → Nat) (M : Mem) {a : Nat} {x1 : Int32} {x2 : Int32} {x3 : Int32}  (ha : a < 40) (hbad : x1 < 0 ∨ ¬ x1 < nI 40) : vx_Met l yX9_ways wsX9_ways rm_c_X9_ways_b (Pr G z ad M [.ref (ad 0), .int (nI a), .int x1, .int x2, .int x3]) (fun _ _ _ _ => False) (xT G z ad M "java/lang/IndexOutOfBoundsException") 1 6 (fr z) := by
  refine vx_ofW (cc := cX9_ways) (maxL := 5) (ret := (some .int)) (by decide) rfl ?_
  intro p e s m args below meth c s₁ B hml hnt hv
  obtain ⟨rfl, hv⟩ := hv
  have hI := Iv.entry hv
  have hx := B.exec
  have hb := B.bytes
  have hr := B.returns
  have hts := atoms_spec (ws := wsX9_ways) B.pre
  have hown : s.vm.findClass RX9 = some m.cls := findClass_of_methodNamed B.named
  have hlocks := B.notSynchronized
  have hl := lv_entry ([.ref (ad 0), .int (nI a), .int x1, .int x2, .int x3]) (n := 5) (Nat.le_of_ble_eq_true rfl)
  rw [lg_entry_eq]
  generalize (lg_sl ([.ref (ad 0), .int (nI a), .int x1, .int x2, .int x3]) ++ List.replicate (5 - (lg_sl ([.ref (ad 0), .int (nI a), .int x1, .int x2, .int x3])).length) Slot.unset).toArray = ls at hl ⊢
  have hl : lv_has ls 5 [(0, .ref (ad 0)), (1, .int (nI a)), (2, .int x1), (3, .int x2), (4, .int x3)] := hl
  refine lv_iload_n hx hb dX9_ways_0 rfl (lv_at hl 1 rfl) ?_
  refine k_Nv (va_runS (As := [.int (nI a)]) (rest := []) ⟨hx, hb, hml, hown, hts⟩ (c_X9_checkThing l G z ad M (t := a) (by omega)) (va_cwS 1 hts (gS (lwg_of t_608 rfl) (lwg_of t_609 rfl) (lwg_of t_1 rfl) (lwg_of t_610 rfl)) rfl rfl rfl (by decide +kernel) ⟨Nat.le_of_ble_eq_true rfl, Nat.le_of_ble_eq_true rfl⟩) hI.preS rfl rfl hl.1 rfl (lv_room (Nat.le_of_ble_eq_true rfl)) dX9_ways_1 ⟨Nat.le_of_ble_eq_true rfl, Nat.le_of_ble_eq_true rfl⟩) hI (fun M_3 H_4 locs_5 hp_2 hI => ?_)
  have eM_6 : M = M_3 := (funext hp_2).symm
  subst eM_6
  refine lv_iload_n hx hb dX9_ways_4 rfl (lv_at hl 2 rfl) ?_
  refine k_T (vx_runS (As := [.int x1]) (rest := []) ⟨hx, hb, hml, hown, hts⟩ (c_X9_checkThing_T l hst G z ad M (x := x1) hbad) (va_cwS 1 hts (gS (lwg_of t_608 rfl) (lwg_of t_609 rfl) (lwg_of t_1 rfl) (lwg_of t_610 rfl)) rfl rfl rfl (by decide +kernel) ⟨Nat.le_of_ble_eq_true rfl, Nat.le_of_ble_eq_true rfl⟩) hI.preS rfl rfl hl.1 rfl (lv_room (Nat.le_of_ble_eq_true rfl)) dX9_ways_5 ⟨Nat.le_of_ble_eq_true rfl, Nat.le_of_ble_eq_true rfl⟩) hI (fun ce q9 H_9 locs_10 hI hce hcv hcl => ?_)
  exact e_out hnt hlocks hI hce hcv hcl (Nat.le_of_ble_eq_true rfl) (Nat.le_of_ble_eq_true rfl)

/-- X9_degree -/
abbrev rm_c_X9_degree_a : Room := { frames := 7, cells := 1, slots := 6, locals := 110 }
set_option maxHeartbeats 4000000 in
set_option maxRecDepth 100000 in
theorem c_X9_degree_a (l : Launch) (hst : l.stackTraces = false) (G : GG) (z : Nat) (ad : Nat → Nat) (M : Mem) {x0 : Int32} {x1 : Int32} {x2 : Int32} {x3 : Int32}  (hbad : x0 < 0 ∨ ¬ x0 < nI 40) : vx_Met l yX9_degree wsX9_degree rm_c_X9_degree_a (Pr G z ad M [.ref (ad 0), .int x0, .int x1, .int x2, .int x3]) (fun _ _ _ _ => False) (xT G z ad M "java/lang/IndexOutOfBoundsException") 1 6 (fr z) := by
  refine vx_ofW (cc := cX9_degree) (maxL := 5) (ret := (some .int)) (by decide) rfl ?_
  intro p e s m args below meth c s₁ B hml hnt hv
  obtain ⟨rfl, hv⟩ := hv
  have hI := Iv.entry hv
  have hx := B.exec
  have hb := B.bytes
  have hr := B.returns
  have hts := atoms_spec (ws := wsX9_degree) B.pre
  have hown : s.vm.findClass RX9 = some m.cls := findClass_of_methodNamed B.named
  have hlocks := B.notSynchronized
  have hl := lv_entry ([.ref (ad 0), .int x0, .int x1, .int x2, .int x3]) (n := 5) (Nat.le_of_ble_eq_true rfl)
  rw [lg_entry_eq]
  generalize (lg_sl ([.ref (ad 0), .int x0, .int x1, .int x2, .int x3]) ++ List.replicate (5 - (lg_sl ([.ref (ad 0), .int x0, .int x1, .int x2, .int x3])).length) Slot.unset).toArray = ls at hl ⊢
  have hl : lv_has ls 5 [(0, .ref (ad 0)), (1, .int x0), (2, .int x1), (3, .int x2), (4, .int x3)] := hl
  refine lv_iload_n hx hb dX9_degree_0 rfl (lv_at hl 1 rfl) ?_
  refine k_T (vx_runS (As := [.int x0]) (rest := []) ⟨hx, hb, hml, hown, hts⟩ (c_X9_checkThing_T l hst G z ad M (x := x0) hbad) (va_cwS 1 hts (gS (lwg_of t_608 rfl) (lwg_of t_609 rfl) (lwg_of t_1 rfl) (lwg_of t_610 rfl)) rfl rfl rfl (by decide +kernel) ⟨Nat.le_of_ble_eq_true rfl, Nat.le_of_ble_eq_true rfl⟩) hI.preS rfl rfl hl.1 rfl (lv_room (Nat.le_of_ble_eq_true rfl)) dX9_degree_1 ⟨Nat.le_of_ble_eq_true rfl, Nat.le_of_ble_eq_true rfl⟩) hI (fun ce q9 H_3 locs_4 hI hce hcv hcl => ?_)
  exact e_out hnt hlocks hI hce hcv hcl (Nat.le_of_ble_eq_true rfl) (Nat.le_of_ble_eq_true rfl)

/-- X9_degree -/
abbrev rm_c_X9_degree_b : Room := { frames := 7, cells := 1, slots := 6, locals := 110 }
set_option maxHeartbeats 4000000 in
set_option maxRecDepth 100000 in
theorem c_X9_degree_b (l : Launch) (hst : l.stackTraces = false) (G : GG) (z : Nat) (ad : Nat → Nat) (M : Mem) {a : Nat} {x1 : Int32} {x2 : Int32} {x3 : Int32}  (ha : a < 40) (hbad : x1 < 0 ∨ ¬ x1 < nI 6) : vx_Met l yX9_degree wsX9_degree rm_c_X9_degree_b (Pr G z ad M [.ref (ad 0), .int (nI a), .int x1, .int x2, .int x3]) (fun _ _ _ _ => False) (xT G z ad M "java/lang/IndexOutOfBoundsException") 1 6 (fr z) := by
  refine vx_ofW (cc := cX9_degree) (maxL := 5) (ret := (some .int)) (by decide) rfl ?_
  intro p e s m args below meth c s₁ B hml hnt hv
  obtain ⟨rfl, hv⟩ := hv
  have hI := Iv.entry hv
  have hx := B.exec
  have hb := B.bytes
  have hr := B.returns
  have hts := atoms_spec (ws := wsX9_degree) B.pre
  have hown : s.vm.findClass RX9 = some m.cls := findClass_of_methodNamed B.named
  have hlocks := B.notSynchronized
  have hl := lv_entry ([.ref (ad 0), .int (nI a), .int x1, .int x2, .int x3]) (n := 5) (Nat.le_of_ble_eq_true rfl)
  rw [lg_entry_eq]
  generalize (lg_sl ([.ref (ad 0), .int (nI a), .int x1, .int x2, .int x3]) ++ List.replicate (5 - (lg_sl ([.ref (ad 0), .int (nI a), .int x1, .int x2, .int x3])).length) Slot.unset).toArray = ls at hl ⊢
  have hl : lv_has ls 5 [(0, .ref (ad 0)), (1, .int (nI a)), (2, .int x1), (3, .int x2), (4, .int x3)] := hl
  refine lv_iload_n hx hb dX9_degree_0 rfl (lv_at hl 1 rfl) ?_
  refine k_Nv (va_runS (As := [.int (nI a)]) (rest := []) ⟨hx, hb, hml, hown, hts⟩ (c_X9_checkThing l G z ad M (t := a) (by omega)) (va_cwS 1 hts (gS (lwg_of t_608 rfl) (lwg_of t_609 rfl) (lwg_of t_1 rfl) (lwg_of t_610 rfl)) rfl rfl rfl (by decide +kernel) ⟨Nat.le_of_ble_eq_true rfl, Nat.le_of_ble_eq_true rfl⟩) hI.preS rfl rfl hl.1 rfl (lv_room (Nat.le_of_ble_eq_true rfl)) dX9_degree_1 ⟨Nat.le_of_ble_eq_true rfl, Nat.le_of_ble_eq_true rfl⟩) hI (fun M_3 H_4 locs_5 hp_2 hI => ?_)
  have eM_6 : M = M_3 := (funext hp_2).symm
  subst eM_6
  refine lv_iload_n hx hb dX9_degree_4 rfl (lv_at hl 2 rfl) ?_
  refine k_T (vx_runS (As := [.int x1]) (rest := []) ⟨hx, hb, hml, hown, hts⟩ (c_X9_checkKind_T l hst G z ad M (x := x1) hbad) (va_cwS 1 hts (gS (lwg_of t_477 rfl) (lwg_of t_478 rfl) (lwg_of t_1 rfl) (lwg_of t_479 rfl)) rfl rfl rfl (by decide +kernel) ⟨Nat.le_of_ble_eq_true rfl, Nat.le_of_ble_eq_true rfl⟩) hI.preS rfl rfl hl.1 rfl (lv_room (Nat.le_of_ble_eq_true rfl)) dX9_degree_5 ⟨Nat.le_of_ble_eq_true rfl, Nat.le_of_ble_eq_true rfl⟩) hI (fun ce q9 H_9 locs_10 hI hce hcv hcl => ?_)
  exact e_out hnt hlocks hI hce hcv hcl (Nat.le_of_ble_eq_true rfl) (Nat.le_of_ble_eq_true rfl)

/-- X9_degree -/
abbrev rm_c_X9_degree_c : Room := { frames := 7, cells := 1, slots := 6, locals := 110 }
set_option maxHeartbeats 4000000 in
set_option maxRecDepth 100000 in
theorem c_X9_degree_c (l : Launch) (hst : l.stackTraces = false) (G : GG) (z : Nat) (ad : Nat → Nat) (M : Mem) {a : Nat} {kd : Nat} {x2 : Int32} {x3 : Int32}  (ha : a < 40) (hkd : kd < 6) (hbad : x2 < 0 ∨ ¬ x2 < nI 6) : vx_Met l yX9_degree wsX9_degree rm_c_X9_degree_c (Pr G z ad M [.ref (ad 0), .int (nI a), .int (nI kd), .int x2, .int x3]) (fun _ _ _ _ => False) (xT G z ad M "java/lang/IndexOutOfBoundsException") 1 6 (fr z) := by
  refine vx_ofW (cc := cX9_degree) (maxL := 5) (ret := (some .int)) (by decide) rfl ?_
  intro p e s m args below meth c s₁ B hml hnt hv
  obtain ⟨rfl, hv⟩ := hv
  have hI := Iv.entry hv
  have hx := B.exec
  have hb := B.bytes
  have hr := B.returns
  have hts := atoms_spec (ws := wsX9_degree) B.pre
  have hown : s.vm.findClass RX9 = some m.cls := findClass_of_methodNamed B.named
  have hlocks := B.notSynchronized
  have hl := lv_entry ([.ref (ad 0), .int (nI a), .int (nI kd), .int x2, .int x3]) (n := 5) (Nat.le_of_ble_eq_true rfl)
  rw [lg_entry_eq]
  generalize (lg_sl ([.ref (ad 0), .int (nI a), .int (nI kd), .int x2, .int x3]) ++ List.replicate (5 - (lg_sl ([.ref (ad 0), .int (nI a), .int (nI kd), .int x2, .int x3])).length) Slot.unset).toArray = ls at hl ⊢
  have hl : lv_has ls 5 [(0, .ref (ad 0)), (1, .int (nI a)), (2, .int (nI kd)), (3, .int x2), (4, .int x3)] := hl
  refine lv_iload_n hx hb dX9_degree_0 rfl (lv_at hl 1 rfl) ?_
  refine k_Nv (va_runS (As := [.int (nI a)]) (rest := []) ⟨hx, hb, hml, hown, hts⟩ (c_X9_checkThing l G z ad M (t := a) (by omega)) (va_cwS 1 hts (gS (lwg_of t_608 rfl) (lwg_of t_609 rfl) (lwg_of t_1 rfl) (lwg_of t_610 rfl)) rfl rfl rfl (by decide +kernel) ⟨Nat.le_of_ble_eq_true rfl, Nat.le_of_ble_eq_true rfl⟩) hI.preS rfl rfl hl.1 rfl (lv_room (Nat.le_of_ble_eq_true rfl)) dX9_degree_1 ⟨Nat.le_of_ble_eq_true rfl, Nat.le_of_ble_eq_true rfl⟩) hI (fun M_3 H_4 locs_5 hp_2 hI => ?_)
  have eM_6 : M = M_3 := (funext hp_2).symm
  subst eM_6
  refine lv_iload_n hx hb dX9_degree_4 rfl (lv_at hl 2 rfl) ?_
  refine k_Nv (va_runS (As := [.int (nI kd)]) (rest := []) ⟨hx, hb, hml, hown, hts⟩ (c_X9_checkKind l G z ad M (t := kd) (by omega)) (va_cwS 1 hts (gS (lwg_of t_477 rfl) (lwg_of t_478 rfl) (lwg_of t_1 rfl) (lwg_of t_479 rfl)) rfl rfl rfl (by decide +kernel) ⟨Nat.le_of_ble_eq_true rfl, Nat.le_of_ble_eq_true rfl⟩) hI.preS rfl rfl hl.1 rfl (lv_room (Nat.le_of_ble_eq_true rfl)) dX9_degree_5 ⟨Nat.le_of_ble_eq_true rfl, Nat.le_of_ble_eq_true rfl⟩) hI (fun M_9 H_10 locs_11 hp_8 hI => ?_)
  have eM_12 : M = M_9 := (funext hp_8).symm
  subst eM_12
  refine lv_iload_n hx hb dX9_degree_8 rfl (lv_at hl 3 rfl) ?_
  refine k_T (vx_runS (As := [.int x2]) (rest := []) ⟨hx, hb, hml, hown, hts⟩ (c_X9_checkRole_T l hst G z ad M (x := x2) hbad) (va_cwS 1 hts (gS (lwg_of t_549 rfl) (lwg_of t_550 rfl) (lwg_of t_1 rfl) (lwg_of t_551 rfl)) rfl rfl rfl (by decide +kernel) ⟨Nat.le_of_ble_eq_true rfl, Nat.le_of_ble_eq_true rfl⟩) hI.preS rfl rfl hl.1 rfl (lv_room (Nat.le_of_ble_eq_true rfl)) dX9_degree_9 ⟨Nat.le_of_ble_eq_true rfl, Nat.le_of_ble_eq_true rfl⟩) hI (fun ce q9 H_15 locs_16 hI hce hcv hcl => ?_)
  exact e_out hnt hlocks hI hce hcv hcl (Nat.le_of_ble_eq_true rfl) (Nat.le_of_ble_eq_true rfl)
