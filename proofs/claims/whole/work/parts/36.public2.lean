/-- X9_count -/
abbrev rm_c_X9_count_0 : Room := { frames := 2, cells := 0, slots := 0, locals := 40 }
set_option maxHeartbeats 4000000 in
set_option maxRecDepth 100000 in
theorem c_X9_count_0 (l : Launch) (G : GG) (z : Nat) (ad : Nat → Nat) (M : Mem) {n : Nat} {kd : Nat → Nat} {fm : Nat → Int32} {to : Nat → Int32} {sz : Nat → Nat} {rl : Nat → Nat → Nat} {en : Nat → Nat → Nat} {qa : Nat} {qs : Nat} {fw : Int32} (hL : LSm G ad M n kd fm to sz rl en) (h0 : M 0 = some (cStore ad qa qs fw))  : Met l yX9_count wsX9_count rm_c_X9_count_0 (Pr G z ad M [.ref (ad 0), .int (nI 0)]) (vp_Si (fun r : Int32 => r = nI n)) 0 0 (fun _ => False) := by
  refine Met.ofW (cc := cX9_count) (maxL := 2) (ret := (some .int)) (by decide) rfl ?_
  intro p e s m args below meth c s₁ B hml hv
  obtain ⟨rfl, hv⟩ := hv
  have hI := Iv.entry hv
  have hx := B.exec
  have hb := B.bytes
  have hr := B.returns
  have hts := atoms_spec (ws := wsX9_count) B.pre
  have hown : s.vm.findClass RX9 = some m.cls := findClass_of_methodNamed B.named
  have hlocks := B.notSynchronized
  have i_RX9 : ∀ w ∈ u_ws RX9 TX9 10, w ∈ wsX9_count := fun w h => List.mem_cons_of_mem _ (iu_X9 w h)
  have f_40 := hts _ (List.mem_cons_of_mem _ (lwg_of t_243 rfl))
  have hl := lv_entry ([.ref (ad 0), .int (nI 0)]) (n := 2) (Nat.le_of_ble_eq_true rfl)
  rw [lg_entry_eq]
  generalize (lg_sl ([.ref (ad 0), .int (nI 0)]) ++ List.replicate (2 - (lg_sl ([.ref (ad 0), .int (nI 0)])).length) Slot.unset).toArray = ls at hl ⊢
  have hl : lv_has ls 2 [(0, .ref (ad 0)), (1, .int (nI 0))] := hl
  have h16 := hL.1
  obtain ⟨mcn, ed, h17, hed⟩ := id hL.2.1
  refine lv_iload_n hx hb dX9_count_0 rfl (lv_at hl 1 rfl) ?_
  refine lv_tableIn (off := 39) (tgt := 40) hx hb dX9_count_1 (by decide) (by decide) (by decide) (by decide) ?_
  refine lv_aload_n hx hb dX9_count_40 rfl (lv_at hl 0 rfl) ?_
  refine h_get (C := RX9) (T := TX9) (N := 10) hx hb hts i_RX9 hown hI h0 rfl 4 (by decide) f_40 rfl rfl dX9_count_41 ?_
  refine k_Ri (va_runV (As := []) (rest := []) ⟨hx, hb, hml, hown, hts⟩ (c_X3_size l G z ad M (n := n) (kd := kd) (fm := fm) (to := to) (sz := sz) (rl := rl) (en := en) hL) (cwV 0 hts (gV (lwg_of t_449 rfl) (lwg_of t_325 rfl) (lwg_of t_326 rfl) (lwg_of t_6 rfl) (lwg_of t_327 rfl)) rfl rfl rfl (by decide +kernel) ⟨Nat.le_of_ble_eq_true rfl, Nat.le_of_ble_eq_true rfl⟩) (hI.preV h16 rfl) rfl rfl hl.1 rfl (lv_room (Nat.le_of_ble_eq_true rfl)) dX9_count_44 ⟨Nat.le_of_ble_eq_true rfl, Nat.le_of_ble_eq_true rfl⟩) (fun _ h => h) (fun r_1 hp_2 => ?_)
  rw [hp_2]
  exact e_Ri hx hb hr rfl hlocks (rfl) dX9_count_47

/-- X9_count -/
abbrev rm_c_X9_count_1 : Room := { frames := 1, cells := 0, slots := 0, locals := 20 }
set_option maxHeartbeats 4000000 in
set_option maxRecDepth 100000 in
theorem c_X9_count_1 (l : Launch) (G : GG) (z : Nat) (ad : Nat → Nat) (M : Mem) {qa : Nat} {qs : Nat} {fw : Int32} {s0 : Nat} (h0 : M 0 = some (cStore ad qa qs fw)) (h12 : M 12 = some (cEnds ad 12 s0))  : Met l yX9_count wsX9_count rm_c_X9_count_1 (Pr G z ad M [.ref (ad 0), .int (nI 1)]) (vp_Si (fun r : Int32 => r = nI s0)) 0 0 (fun _ => False) := by
  refine Met.ofW (cc := cX9_count) (maxL := 2) (ret := (some .int)) (by decide) rfl ?_
  intro p e s m args below meth c s₁ B hml hv
  obtain ⟨rfl, hv⟩ := hv
  have hI := Iv.entry hv
  have hx := B.exec
  have hb := B.bytes
  have hr := B.returns
  have hts := atoms_spec (ws := wsX9_count) B.pre
  have hown : s.vm.findClass RX9 = some m.cls := findClass_of_methodNamed B.named
  have hlocks := B.notSynchronized
  have i_RX9 : ∀ w ∈ u_ws RX9 TX9 10, w ∈ wsX9_count := fun w h => List.mem_cons_of_mem _ (iu_X9 w h)
  have f_33 := hts _ (List.mem_cons_of_mem _ (lwg_of t_242 rfl))
  have hl := lv_entry ([.ref (ad 0), .int (nI 1)]) (n := 2) (Nat.le_of_ble_eq_true rfl)
  rw [lg_entry_eq]
  generalize (lg_sl ([.ref (ad 0), .int (nI 1)]) ++ List.replicate (2 - (lg_sl ([.ref (ad 0), .int (nI 1)])).length) Slot.unset).toArray = ls at hl ⊢
  have hl : lv_has ls 2 [(0, .ref (ad 0)), (1, .int (nI 1))] := hl
  refine lv_iload_n hx hb dX9_count_0 rfl (lv_at hl 1 rfl) ?_
  refine lv_tableIn (off := 47) (tgt := 48) hx hb dX9_count_1 (by decide) (by decide) (by decide) (by decide) ?_
  refine lv_aload_n hx hb dX9_count_48 rfl (lv_at hl 0 rfl) ?_
  refine h_get (C := RX9) (T := TX9) (N := 10) hx hb hts i_RX9 hown hI h0 rfl 3 (by decide) f_33 rfl rfl dX9_count_49 ?_
  refine k_Ri (va_runV (As := []) (rest := []) ⟨hx, hb, hml, hown, hts⟩ (c_X0_size l G z ad M (k := 12) (sz := s0) h12) (cwV 0 hts (gV (lwg_of t_450 rfl) (lwg_of t_451 rfl) (lwg_of t_452 rfl) (lwg_of t_5 rfl) (lwg_of t_453 rfl)) rfl rfl rfl (by decide +kernel) ⟨Nat.le_of_ble_eq_true rfl, Nat.le_of_ble_eq_true rfl⟩) (hI.preV h12 rfl) rfl rfl hl.1 rfl (lv_room (Nat.le_of_ble_eq_true rfl)) dX9_count_52 ⟨Nat.le_of_ble_eq_true rfl, Nat.le_of_ble_eq_true rfl⟩) (fun _ h => h) (fun r_1 hp_2 => ?_)
  rw [hp_2]
  exact e_Ri hx hb hr rfl hlocks (rfl) dX9_count_55

/-- X9_count -/
abbrev rm_c_X9_count_2 : Room := { frames := 1, cells := 0, slots := 0, locals := 20 }
set_option maxHeartbeats 4000000 in
set_option maxRecDepth 100000 in
theorem c_X9_count_2 (l : Launch) (G : GG) (z : Nat) (ad : Nat → Nat) (M : Mem) {qa : Nat} {qs : Nat} {fw : Int32} {jn : Nat} (h0 : M 0 = some (cStore ad qa qs fw)) (h8 : M 8 = some (cOnes ad jn))  : Met l yX9_count wsX9_count rm_c_X9_count_2 (Pr G z ad M [.ref (ad 0), .int (nI 2)]) (vp_Si (fun r : Int32 => r = nI jn)) 0 0 (fun _ => False) := by
  refine Met.ofW (cc := cX9_count) (maxL := 2) (ret := (some .int)) (by decide) rfl ?_
  intro p e s m args below meth c s₁ B hml hv
  obtain ⟨rfl, hv⟩ := hv
  have hI := Iv.entry hv
  have hx := B.exec
  have hb := B.bytes
  have hr := B.returns
  have hts := atoms_spec (ws := wsX9_count) B.pre
  have hown : s.vm.findClass RX9 = some m.cls := findClass_of_methodNamed B.named
  have hlocks := B.notSynchronized
  have i_RX9 : ∀ w ∈ u_ws RX9 TX9 10, w ∈ wsX9_count := fun w h => List.mem_cons_of_mem _ (iu_X9 w h)
  have f_26 := hts _ (List.mem_cons_of_mem _ (lwg_of t_241 rfl))
  have hl := lv_entry ([.ref (ad 0), .int (nI 2)]) (n := 2) (Nat.le_of_ble_eq_true rfl)
  rw [lg_entry_eq]
  generalize (lg_sl ([.ref (ad 0), .int (nI 2)]) ++ List.replicate (2 - (lg_sl ([.ref (ad 0), .int (nI 2)])).length) Slot.unset).toArray = ls at hl ⊢
  have hl : lv_has ls 2 [(0, .ref (ad 0)), (1, .int (nI 2))] := hl
  refine lv_iload_n hx hb dX9_count_0 rfl (lv_at hl 1 rfl) ?_
  refine lv_tableIn (off := 55) (tgt := 56) hx hb dX9_count_1 (by decide) (by decide) (by decide) (by decide) ?_
  refine lv_aload_n hx hb dX9_count_56 rfl (lv_at hl 0 rfl) ?_
  refine h_get (C := RX9) (T := TX9) (N := 10) hx hb hts i_RX9 hown hI h0 rfl 2 (by decide) f_26 rfl rfl dX9_count_57 ?_
  refine k_Ri (va_runV (As := []) (rest := []) ⟨hx, hb, hml, hown, hts⟩ (c_X5_joins l G z ad M (jn := jn) h8) (cwV 0 hts (gV (lwg_of t_454 rfl) (lwg_of t_455 rfl) (lwg_of t_456 rfl) (lwg_of t_4 rfl) (lwg_of t_457 rfl)) rfl rfl rfl (by decide +kernel) ⟨Nat.le_of_ble_eq_true rfl, Nat.le_of_ble_eq_true rfl⟩) (hI.preV h8 rfl) rfl rfl hl.1 rfl (lv_room (Nat.le_of_ble_eq_true rfl)) dX9_count_60 ⟨Nat.le_of_ble_eq_true rfl, Nat.le_of_ble_eq_true rfl⟩) (fun _ h => h) (fun r_1 hp_2 => ?_)
  rw [hp_2]
  exact e_Ri hx hb hr rfl hlocks (rfl) dX9_count_63

/-- X9_count -/
abbrev rm_c_X9_count_3 : Room := { frames := 1, cells := 0, slots := 0, locals := 20 }
set_option maxHeartbeats 4000000 in
set_option maxRecDepth 100000 in
theorem c_X9_count_3 (l : Launch) (G : GG) (z : Nat) (ad : Nat → Nat) (M : Mem) {qa : Nat} {qs : Nat} {fw : Int32} {jn : Nat} (h0 : M 0 = some (cStore ad qa qs fw)) (h8 : M 8 = some (cOnes ad jn)) (hjn : jn ≤ 40) : Met l yX9_count wsX9_count rm_c_X9_count_3 (Pr G z ad M [.ref (ad 0), .int (nI 3)]) (vp_Si (fun r : Int32 => r = nI (40 - jn))) 0 0 (fun _ => False) := by
  refine Met.ofW (cc := cX9_count) (maxL := 2) (ret := (some .int)) (by decide) rfl ?_
  intro p e s m args below meth c s₁ B hml hv
  obtain ⟨rfl, hv⟩ := hv
  have hI := Iv.entry hv
  have hx := B.exec
  have hb := B.bytes
  have hr := B.returns
  have hts := atoms_spec (ws := wsX9_count) B.pre
  have hown : s.vm.findClass RX9 = some m.cls := findClass_of_methodNamed B.named
  have hlocks := B.notSynchronized
  have i_RX9 : ∀ w ∈ u_ws RX9 TX9 10, w ∈ wsX9_count := fun w h => List.mem_cons_of_mem _ (iu_X9 w h)
  have f_26 := hts _ (List.mem_cons_of_mem _ (lwg_of t_241 rfl))
  have hl := lv_entry ([.ref (ad 0), .int (nI 3)]) (n := 2) (Nat.le_of_ble_eq_true rfl)
  rw [lg_entry_eq]
  generalize (lg_sl ([.ref (ad 0), .int (nI 3)]) ++ List.replicate (2 - (lg_sl ([.ref (ad 0), .int (nI 3)])).length) Slot.unset).toArray = ls at hl ⊢
  have hl : lv_has ls 2 [(0, .ref (ad 0)), (1, .int (nI 3))] := hl
  refine lv_iload_n hx hb dX9_count_0 rfl (lv_at hl 1 rfl) ?_
  refine lv_tableIn (off := 63) (tgt := 64) hx hb dX9_count_1 (by decide) (by decide) (by decide) (by decide) ?_
  refine lv_bipush (v := nI 40) hx hb dX9_count_64 (by decide) ?_
  refine lv_aload_n hx hb dX9_count_66 rfl (lv_at hl 0 rfl) ?_
  refine h_get (C := RX9) (T := TX9) (N := 10) hx hb hts i_RX9 hown hI h0 rfl 2 (by decide) f_26 rfl rfl dX9_count_67 ?_
  refine k_Ri (va_runV (As := []) (rest := [.int (nI 40)]) ⟨hx, hb, hml, hown, hts⟩ (c_X5_joins l G z ad M (jn := jn) h8) (cwV 0 hts (gV (lwg_of t_454 rfl) (lwg_of t_455 rfl) (lwg_of t_456 rfl) (lwg_of t_4 rfl) (lwg_of t_457 rfl)) rfl rfl rfl (by decide +kernel) ⟨Nat.le_of_ble_eq_true rfl, Nat.le_of_ble_eq_true rfl⟩) (hI.preV h8 rfl) rfl rfl hl.1 rfl (lv_room (Nat.le_of_ble_eq_true rfl)) dX9_count_70 ⟨Nat.le_of_ble_eq_true rfl, Nat.le_of_ble_eq_true rfl⟩) (fun _ h => h) (fun r_1 hp_2 => ?_)
  rw [hp_2]
  refine lv_isub hx hb dX9_count_73 ?_
  refine n_eq (pk_sub (a := 40) (b := jn) (by omega)) ?_
  exact e_Ri hx hb hr rfl hlocks (rfl) dX9_count_74

/-- X9_count -/
abbrev rm_c_X9_count_4 : Room := { frames := 1, cells := 0, slots := 0, locals := 20 }
set_option maxHeartbeats 4000000 in
set_option maxRecDepth 100000 in
theorem c_X9_count_4 (l : Launch) (G : GG) (z : Nat) (ad : Nat → Nat) (M : Mem) {qa : Nat} {qs : Nat} {fw : Int32} {aa : Nat} {uv : Nat} (h0 : M 0 = some (cStore ad qa qs fw)) (hq : M qa = some (cQuestion ad qa aa uv))  : Met l yX9_count wsX9_count rm_c_X9_count_4 (Pr G z ad M [.ref (ad 0), .int (nI 4)]) (vp_Si (fun r : Int32 => r = nI aa)) 0 0 (fun _ => False) := by
  refine Met.ofW (cc := cX9_count) (maxL := 2) (ret := (some .int)) (by decide) rfl ?_
  intro p e s m args below meth c s₁ B hml hv
  obtain ⟨rfl, hv⟩ := hv
  have hI := Iv.entry hv
  have hx := B.exec
  have hb := B.bytes
  have hr := B.returns
  have hts := atoms_spec (ws := wsX9_count) B.pre
  have hown : s.vm.findClass RX9 = some m.cls := findClass_of_methodNamed B.named
  have hlocks := B.notSynchronized
  have i_RX9 : ∀ w ∈ u_ws RX9 TX9 10, w ∈ wsX9_count := fun w h => List.mem_cons_of_mem _ (iu_X9 w h)
  have f_61 := hts _ (List.mem_cons_of_mem _ (lwg_of t_246 rfl))
  have hl := lv_entry ([.ref (ad 0), .int (nI 4)]) (n := 2) (Nat.le_of_ble_eq_true rfl)
  rw [lg_entry_eq]
  generalize (lg_sl ([.ref (ad 0), .int (nI 4)]) ++ List.replicate (2 - (lg_sl ([.ref (ad 0), .int (nI 4)])).length) Slot.unset).toArray = ls at hl ⊢
  have hl : lv_has ls 2 [(0, .ref (ad 0)), (1, .int (nI 4))] := hl
  refine lv_iload_n hx hb dX9_count_0 rfl (lv_at hl 1 rfl) ?_
  refine lv_tableIn (off := 74) (tgt := 75) hx hb dX9_count_1 (by decide) (by decide) (by decide) (by decide) ?_
  refine lv_aload_n hx hb dX9_count_75 rfl (lv_at hl 0 rfl) ?_
  refine h_get (C := RX9) (T := TX9) (N := 10) hx hb hts i_RX9 hown hI h0 rfl 7 (by decide) f_61 rfl rfl dX9_count_76 ?_
  refine k_Ri (va_runV (As := []) (rest := []) ⟨hx, hb, hml, hown, hts⟩ (c_X6_atoms l G z ad M (k := qa) (aa := aa) (uv := uv) hq) (cwV 0 hts (gV (lwg_of t_315 rfl) (lwg_of t_316 rfl) (lwg_of t_317 rfl) (lwg_of t_12 rfl) (lwg_of t_318 rfl)) rfl rfl rfl (by decide +kernel) ⟨Nat.le_of_ble_eq_true rfl, Nat.le_of_ble_eq_true rfl⟩) (hI.preV hq rfl) rfl rfl hl.1 rfl (lv_room (Nat.le_of_ble_eq_true rfl)) dX9_count_79 ⟨Nat.le_of_ble_eq_true rfl, Nat.le_of_ble_eq_true rfl⟩) (fun _ h => h) (fun r_1 hp_2 => ?_)
  rw [hp_2]
  exact e_Ri hx hb hr rfl hlocks (rfl) dX9_count_82

/-- X9_count -/
abbrev rm_c_X9_count_5 : Room := { frames := 2, cells := 0, slots := 0, locals := 40 }
set_option maxHeartbeats 4000000 in
set_option maxRecDepth 100000 in
theorem c_X9_count_5 (l : Launch) (G : GG) (z : Nat) (ad : Nat → Nat) (M : Mem) {qa : Nat} {qs : Nat} {fw : Int32} {aa : Nat} {uv : Nat} (h0 : M 0 = some (cStore ad qa qs fw)) (hq : M qa = some (cQuestion ad qa aa uv)) (huv : uv < 8) : Met l yX9_count wsX9_count rm_c_X9_count_5 (Pr G z ad M [.ref (ad 0), .int (nI 5)]) (vp_Si (fun r : Int32 => r = nI (cnt3 uv))) 0 0 (fun _ => False) := by
  refine Met.ofW (cc := cX9_count) (maxL := 2) (ret := (some .int)) (by decide) rfl ?_
  intro p e s m args below meth c s₁ B hml hv
  obtain ⟨rfl, hv⟩ := hv
  have hI := Iv.entry hv
  have hx := B.exec
  have hb := B.bytes
  have hr := B.returns
  have hts := atoms_spec (ws := wsX9_count) B.pre
  have hown : s.vm.findClass RX9 = some m.cls := findClass_of_methodNamed B.named
  have hlocks := B.notSynchronized
  have i_RX9 : ∀ w ∈ u_ws RX9 TX9 10, w ∈ wsX9_count := fun w h => List.mem_cons_of_mem _ (iu_X9 w h)
  have f_61 := hts _ (List.mem_cons_of_mem _ (lwg_of t_246 rfl))
  have hl := lv_entry ([.ref (ad 0), .int (nI 5)]) (n := 2) (Nat.le_of_ble_eq_true rfl)
  rw [lg_entry_eq]
  generalize (lg_sl ([.ref (ad 0), .int (nI 5)]) ++ List.replicate (2 - (lg_sl ([.ref (ad 0), .int (nI 5)])).length) Slot.unset).toArray = ls at hl ⊢
  have hl : lv_has ls 2 [(0, .ref (ad 0)), (1, .int (nI 5))] := hl
  refine lv_iload_n hx hb dX9_count_0 rfl (lv_at hl 1 rfl) ?_
  refine lv_tableIn (off := 82) (tgt := 83) hx hb dX9_count_1 (by decide) (by decide) (by decide) (by decide) ?_
  refine lv_aload_n hx hb dX9_count_83 rfl (lv_at hl 0 rfl) ?_
  refine h_get (C := RX9) (T := TX9) (N := 10) hx hb hts i_RX9 hown hI h0 rfl 7 (by decide) f_61 rfl rfl dX9_count_84 ?_
  refine k_Ri (va_runV (As := []) (rest := []) ⟨hx, hb, hml, hown, hts⟩ (c_X6_variables l G z ad M (k := qa) (aa := aa) (uv := uv) hq (by omega)) (cwV 0 hts (gV (lwg_of t_458 rfl) (lwg_of t_459 rfl) (lwg_of t_460 rfl) (lwg_of t_12 rfl) (lwg_of t_461 rfl)) rfl rfl rfl (by decide +kernel) ⟨Nat.le_of_ble_eq_true rfl, Nat.le_of_ble_eq_true rfl⟩) (hI.preV hq rfl) rfl rfl hl.1 rfl (lv_room (Nat.le_of_ble_eq_true rfl)) dX9_count_87 ⟨Nat.le_of_ble_eq_true rfl, Nat.le_of_ble_eq_true rfl⟩) (fun _ h => h) (fun r_1 hp_2 => ?_)
  rw [hp_2]
  exact e_Ri hx hb hr rfl hlocks (rfl) dX9_count_90

/-- X9_count -/
abbrev rm_c_X9_count_x : Room := { frames := 0, cells := 0, slots := 0, locals := 0 }
set_option maxHeartbeats 4000000 in
set_option maxRecDepth 100000 in
theorem c_X9_count_x (l : Launch) (G : GG) (z : Nat) (ad : Nat → Nat) (M : Mem) {qa : Nat} {qs : Nat} {fw : Int32} {x : Int32} (h0 : M 0 = some (cStore ad qa qs fw)) (hout : x.toInt < 0 ∨ 5 < x.toInt) : Met l yX9_count wsX9_count rm_c_X9_count_x (Pr G z ad M [.ref (ad 0), .int x]) (vp_Si (fun r : Int32 => r = (-1))) 0 0 (fun _ => False) := by
  refine Met.ofW (cc := cX9_count) (maxL := 2) (ret := (some .int)) (by decide) rfl ?_
  intro p e s m args below meth c s₁ B hml hv
  obtain ⟨rfl, hv⟩ := hv
  have hI := Iv.entry hv
  have hx := B.exec
  have hb := B.bytes
  have hr := B.returns
  have hts := atoms_spec (ws := wsX9_count) B.pre
  have hown : s.vm.findClass RX9 = some m.cls := findClass_of_methodNamed B.named
  have hlocks := B.notSynchronized
  have hl := lv_entry ([.ref (ad 0), .int x]) (n := 2) (Nat.le_of_ble_eq_true rfl)
  rw [lg_entry_eq]
  generalize (lg_sl ([.ref (ad 0), .int x]) ++ List.replicate (2 - (lg_sl ([.ref (ad 0), .int x])).length) Slot.unset).toArray = ls at hl ⊢
  have hl : lv_has ls 2 [(0, .ref (ad 0)), (1, .int x)] := hl
  refine lv_iload_n hx hb dX9_count_0 rfl (lv_at hl 1 rfl) ?_
  refine lv_tableOut (tgt := 91) hx hb dX9_count_1 (hout) (by decide) ?_
  refine lv_iconst (v := (-1)) hx hb dX9_count_91 (by decide) ?_
  exact e_Ri hx hb hr rfl hlocks (rfl) dX9_count_92

/-- X9_whyRefused -/
abbrev rm_c_X9_whyRefused : Room := { frames := 5, cells := 0, slots := 0, locals := 118 }
set_option maxHeartbeats 4000000 in
set_option maxRecDepth 100000 in
theorem c_X9_whyRefused (l : Launch) (G : GG) (z : Nat) (ad : Nat → Nat) (M : Mem) {n : Nat} {kd : Nat → Nat} {fm : Nat → Int32} {to : Nat → Int32} {sz : Nat → Nat} {rl : Nat → Nat → Nat} {en : Nat → Nat → Nat} {qa : Nat} {qs : Nat} {fw : Int32} {k : Nat} {q : Nat} {f0 : Int32} {t0 : Int32} {s0 : Nat} {r0 : Nat → Nat} {e0 : Nat → Nat} {jn : Nat} {lst : Nat → Nat} {le : Nat → Nat} {mo : Nat → Nat} {al : Nat → Nat} {ff : Nat → Int32} {lf : Nat → Int32} (hL : LSm G ad M n kd fm to sz rl en) (h0 : M 0 = some (cStore ad qa qs fw)) (hk : M k = some (cLine ad k q f0 t0)) (he : M (k + 1) = some (cEnds ad (k + 1) s0)) (hr2 : M (k + 2) = some (aI G 6 (nF r0))) (hr3 : M (k + 3) = some (aI G 6 (oF (thE e0)))) (hr4 : M (k + 4) = some (aI G 6 (oF (olE e0)))) (h3 : M 3 = some (cLaws ad )) (h4 : M 4 = some (aI G 36 (nF le))) (h5 : M 5 = some (aI G 36 (nF mo))) (h6 : M 6 = some (aI G 36 (nF al))) (h8 : M 8 = some (cOnes ad jn)) (h10 : M 10 = some (aI G 40 (nF lst))) (h20 : M 20 = some (aI G 120 ff)) (h21 : M 21 = some (aI G 120 lf)) (hw : LSw n kd sz rl en) (hs0 : s0 ≤ 6) (hr0 : ∀ j, j < s0 → r0 j < 6) (he0 : ∀ j, j < s0 → e0 j < 40 + n) (hlst : ∀ u, u < 40 → lst u < 40) (hq : q < 6) (hkp : 100 ≤ k) (hle : ∀ j, j < 36 → le j < 100) (hmo : ∀ j, j < 36 → mo j < 100) (hal : ∀ j, j < 36 → al j ≤ 100) : Met l yX9_whyRefused wsX9_whyRefused rm_c_X9_whyRefused (Pr G z ad M [.ref (ad 0), .ref (ad k)]) (Ni G z ad (fun (r : Int32) (M' : Mem) => ∃ ff2 : Nat → Int32, ∃ lf2 : Nat → Int32, M' 20 = some (aI G 120 ff2) ∧ M' 21 = some (aI G 120 lf2) ∧ (∀ j : Nat, j ≠ 20 → j ≠ 21 → M' j = M j) ∧ (r = nI 1 ∧ ¬ alw le mo r0 s0 q 6 ∨ r = nI 2 ∧ alw le mo r0 s0 q 6 ∧ ¬ brs fm to e0 f0 t0 s0 ∨ r = nI 3 ∧ alw le mo r0 s0 q 6 ∧ brs fm to e0 f0 t0 s0 ∧ crw n kd fm to sz rl en lst al q f0 t0 r0 e0 s0 ∨ r = nI 0 ∧ alw le mo r0 s0 q 6 ∧ brs fm to e0 f0 t0 s0 ∧ ¬ crw n kd fm to sz rl en lst al q f0 t0 r0 e0 s0))) 0 0 (fr z) := by
  refine Met.ofW (cc := cX9_whyRefused) (maxL := 2) (ret := (some .int)) (by decide) rfl ?_
  intro p e s m args below meth c s₁ B hml hv
  obtain ⟨rfl, hv⟩ := hv
  have hI := Iv.entry hv
  have hx := B.exec
  have hb := B.bytes
  have hr := B.returns
  have hts := atoms_spec (ws := wsX9_whyRefused) B.pre
  have hown : s.vm.findClass RX9 = some m.cls := findClass_of_methodNamed B.named
  have hlocks := B.notSynchronized
  have i_RX9 : ∀ w ∈ u_ws RX9 TX9 10, w ∈ wsX9_whyRefused := fun w h => List.mem_cons_of_mem _ (iu_X9 w h)
  have f_19 := hts _ (List.mem_cons_of_mem _ (lwg_of t_240 rfl))
  have f_40 := hts _ (List.mem_cons_of_mem _ (lwg_of t_243 rfl))
  have f_26 := hts _ (List.mem_cons_of_mem _ (lwg_of t_241 rfl))
  have hl := lv_entry ([.ref (ad 0), .ref (ad k)]) (n := 2) (Nat.le_of_ble_eq_true rfl)
  rw [lg_entry_eq]
  generalize (lg_sl ([.ref (ad 0), .ref (ad k)]) ++ List.replicate (2 - (lg_sl ([.ref (ad 0), .ref (ad k)])).length) Slot.unset).toArray = ls at hl ⊢
  have hl : lv_has ls 2 [(0, .ref (ad 0)), (1, .ref (ad k))] := hl
  have h16 := hL.1
  obtain ⟨mcn, ed, h17, hed⟩ := id hL.2.1
  have hw1 := hw.1
  refine lv_aload_n hx hb dX9_whyRefused_0 rfl (lv_at hl 0 rfl) ?_
  refine h_get (C := RX9) (T := TX9) (N := 10) hx hb hts i_RX9 hown hI h0 rfl 1 (by decide) f_19 rfl rfl dX9_whyRefused_1 ?_
  refine lv_aload_n hx hb dX9_whyRefused_4 rfl (lv_at hl 1 rfl) ?_
  refine k_Ri (va_runV (As := [.ref (ad k)]) (rest := []) ⟨hx, hb, hml, hown, hts⟩ (c_X1_allowEnds l G z ad M (k := k) (kd := q) (fm := f0) (to := t0) (sz := s0) (rl := r0) (le := le) (mo := mo) h3 h4 h5 hk he hr2 (by omega) (by omega) hr0 hle hmo) (cwV 1 hts (gV (lwg_of t_690 rfl) (lwg_of t_691 rfl) (lwg_of t_692 rfl) (lwg_of t_3 rfl) (lwg_of t_693 rfl)) rfl rfl rfl (by decide +kernel) ⟨Nat.le_of_ble_eq_true rfl, Nat.le_of_ble_eq_true rfl⟩) (hI.preV h3 rfl) rfl rfl hl.1 rfl (lv_room (Nat.le_of_ble_eq_true rfl)) dX9_whyRefused_5 ⟨Nat.le_of_ble_eq_true rfl, Nat.le_of_ble_eq_true rfl⟩) (fun _ h => h) (fun r_1 hp_2 => ?_)
  obtain ⟨b1, b1_e, b1_q⟩ := hp_2
  refine n_eq (show _ = bI b1 from b1_e) ?_
  refine lv_if_ne (tgt := 13) hx hb dX9_whyRefused_8 (by decide) (fun c_3 => ?_) (fun c_3 => ?_)
  · -- 8: bI b1 ne
    have c_3 : b1 = true := bI_t (c_3)
    refine lv_aload_n hx hb dX9_whyRefused_13 rfl (lv_at hl 0 rfl) ?_
    refine h_get (C := RX9) (T := TX9) (N := 10) hx hb hts i_RX9 hown hI h0 rfl 4 (by decide) f_40 rfl rfl dX9_whyRefused_14 ?_
    refine lv_aload_n hx hb dX9_whyRefused_17 rfl (lv_at hl 1 rfl) ?_
    refine k_Ri (va_runV (As := [.ref (ad k)]) (rest := []) ⟨hx, hb, hml, hown, hts⟩ (c_X3_bear l G z ad M (n := n) (kd := kd) (fm := fm) (to := to) (sz := sz) (rl := rl) (en := en) (k := k) (q := q) (f0 := f0) (t0 := t0) (s0 := s0) (r0 := r0) (e0 := e0) hL hk he hr4 hw (by omega) hr0 he0) (cwV 1 hts (gV (lwg_of t_698 rfl) (lwg_of t_699 rfl) (lwg_of t_700 rfl) (lwg_of t_6 rfl) (lwg_of t_701 rfl)) rfl rfl rfl (by decide +kernel) ⟨Nat.le_of_ble_eq_true rfl, Nat.le_of_ble_eq_true rfl⟩) (hI.preV h16 rfl) rfl rfl hl.1 rfl (lv_room (Nat.le_of_ble_eq_true rfl)) dX9_whyRefused_18 ⟨Nat.le_of_ble_eq_true rfl, Nat.le_of_ble_eq_true rfl⟩) (fun _ h => h) (fun r_4 hp_5 => ?_)
    obtain ⟨b2, b2_e, b2_q⟩ := hp_5
    refine n_eq (show _ = bI b2 from b2_e) ?_
    refine lv_if_ne (tgt := 26) hx hb dX9_whyRefused_21 (by decide) (fun c_6 => ?_) (fun c_6 => ?_)
    · -- 21: bI b2 ne
      have c_6 : b2 = true := bI_t (c_6)
      refine lv_aload_n hx hb dX9_whyRefused_26 rfl (lv_at hl 0 rfl) ?_
      refine h_get (C := RX9) (T := TX9) (N := 10) hx hb hts i_RX9 hown hI h0 rfl 4 (by decide) f_40 rfl rfl dX9_whyRefused_27 ?_
      refine lv_aload_n hx hb dX9_whyRefused_30 rfl (lv_at hl 1 rfl) ?_
      refine lv_aload_n hx hb dX9_whyRefused_31 rfl (lv_at hl 0 rfl) ?_
      refine h_get (C := RX9) (T := TX9) (N := 10) hx hb hts i_RX9 hown hI h0 rfl 1 (by decide) f_19 rfl rfl dX9_whyRefused_32 ?_
      refine lv_aload_n hx hb dX9_whyRefused_35 rfl (lv_at hl 0 rfl) ?_
      refine h_get (C := RX9) (T := TX9) (N := 10) hx hb hts i_RX9 hown hI h0 rfl 2 (by decide) f_26 rfl rfl dX9_whyRefused_36 ?_
      refine k_Ni (va_runV (As := [.ref (ad k), .ref (ad 3), .ref (ad 8)]) (rest := []) ⟨hx, hb, hml, hown, hts⟩ (c_X3_crowdedBy l G z ad M (n := n) (kd := kd) (fm := fm) (to := to) (sz := sz) (rl := rl) (en := en) (k := k) (q := q) (f0 := f0) (t0 := t0) (s0 := s0) (r0 := r0) (e0 := e0) (jn := jn) (lst := lst) (al := al) (ff := ff) (lf := lf) hL hk he hr2 hr3 h3 h6 h8 h10 h20 h21 hw (by omega) hr0 he0 hlst (by omega) (by omega) hal) (cwV 3 hts (gV (lwg_of t_711 rfl) (lwg_of t_712 rfl) (lwg_of t_713 rfl) (lwg_of t_6 rfl) (lwg_of t_714 rfl)) rfl rfl rfl (by decide +kernel) ⟨Nat.le_of_ble_eq_true rfl, Nat.le_of_ble_eq_true rfl⟩) (hI.preV h16 rfl) rfl rfl hl.1 rfl (lv_room (Nat.le_of_ble_eq_true rfl)) dX9_whyRefused_39 ⟨Nat.le_of_ble_eq_true rfl, Nat.le_of_ble_eq_true rfl⟩) hI (fun r_7 M_9 H_10 locs_11 hp_8 hI => ?_)
      obtain ⟨b_16, ff2_17, lf2_18, hm_12, hm_13, hF_14, hP_15⟩ := hp_8
      have hm_19 : M_9 0 = some (cStore ad qa qs fw) := by rw [hF_14 0 (by omega) (by omega)]; exact h0
      have hm_20 : M_9 k = some (cLine ad k q f0 t0) := by rw [hF_14 k (by omega) (by omega)]; exact hk
      have hm_21 : M_9 (k + 1) = some (cEnds ad (k + 1) s0) := by rw [hF_14 (k + 1) (by omega) (by omega)]; exact he
      have hm_22 : M_9 (k + 2) = some (aI G 6 (nF r0)) := by rw [hF_14 (k + 2) (by omega) (by omega)]; exact hr2
      have hm_23 : M_9 (k + 3) = some (aI G 6 (oF (thE e0))) := by rw [hF_14 (k + 3) (by omega) (by omega)]; exact hr3
      have hm_24 : M_9 (k + 4) = some (aI G 6 (oF (olE e0))) := by rw [hF_14 (k + 4) (by omega) (by omega)]; exact hr4
      have hm_25 : M_9 3 = some (cLaws ad ) := by rw [hF_14 3 (by omega) (by omega)]; exact h3
      have hm_26 : M_9 4 = some (aI G 36 (nF le)) := by rw [hF_14 4 (by omega) (by omega)]; exact h4
      have hm_27 : M_9 5 = some (aI G 36 (nF mo)) := by rw [hF_14 5 (by omega) (by omega)]; exact h5
      have hm_28 : M_9 6 = some (aI G 36 (nF al)) := by rw [hF_14 6 (by omega) (by omega)]; exact h6
      have hm_29 : M_9 8 = some (cOnes ad jn) := by rw [hF_14 8 (by omega) (by omega)]; exact h8
      have hm_30 : M_9 10 = some (aI G 40 (nF lst)) := by rw [hF_14 10 (by omega) (by omega)]; exact h10
      have hm_31 : M_9 16 = some (cLines ad ) := by rw [hF_14 16 (by omega) (by omega)]; exact h16
      have hm_32 : M_9 17 = some (cList ad mcn ed n) := by rw [hF_14 17 (by omega) (by omega)]; exact h17
      have hL_33 : LSm G ad M_9 n kd fm to sz rl en := hL.keep (fun j hj => hF_14 j (by omega) (by omega))
      have hF_34 : ∀ j : Nat, j ≠ 20 → j ≠ 21 → M_9 j = M j := fun j q0 q1 => (hF_14 j q0 q1)
      refine n_eq (show _ = bI b_16 from hP_15.1) ?_
      refine lv_if_eq (tgt := 49) hx hb dX9_whyRefused_42 (by decide) (fun c_35 => ?_) (fun c_35 => ?_)
      · -- 42: bI b_16 eq
        have c_35 : b_16 = false := bI_f (c_35)
        refine lv_iconst (v := nI 0) hx hb dX9_whyRefused_49 (by decide) ?_
        exact e_Ni hx hb hr rfl hlocks hI ⟨ff2_17, lf2_18, hm_12, hm_13, (fun j q0 q1 => hF_34 j q0 q1), Or.inr (Or.inr (Or.inr ⟨rfl, b1_q.mp (by assumption), b2_q.mp (by assumption), fun h => absurd (hP_15.2.mpr h) (by rw [show b_16 = false by assumption]; exact Bool.false_ne_true)⟩))⟩ dX9_whyRefused_50
      · -- 42: bI b_16 ne
        have c_35 : b_16 = true := bI_t (c_35)
        refine lv_iconst (v := nI 3) hx hb dX9_whyRefused_45 (by decide) ?_
        refine lv_goto (tgt := 50) hx hb dX9_whyRefused_46 (by decide) ?_
        exact e_Ni hx hb hr rfl hlocks hI ⟨ff2_17, lf2_18, hm_12, hm_13, (fun j q0 q1 => hF_34 j q0 q1), Or.inr (Or.inr (Or.inl ⟨rfl, b1_q.mp (by assumption), b2_q.mp (by assumption), hP_15.2.mp (by assumption)⟩))⟩ dX9_whyRefused_50
    · -- 21: bI b2 eq
      have c_6 : b2 = false := bI_f (c_6)
      refine lv_iconst (v := nI 2) hx hb dX9_whyRefused_24 (by decide) ?_
      exact e_Ni hx hb hr rfl hlocks hI ⟨ff, lf, h20, h21, (fun j _ _ => rfl), Or.inr (Or.inl ⟨rfl, b1_q.mp (by assumption), fun h => absurd (b2_q.mpr h) (by rw [show b2 = false by assumption]; exact Bool.false_ne_true)⟩)⟩ dX9_whyRefused_25
  · -- 8: bI b1 eq
    have c_3 : b1 = false := bI_f (c_3)
    refine lv_iconst (v := nI 1) hx hb dX9_whyRefused_11 (by decide) ?_
    exact e_Ni hx hb hr rfl hlocks hI ⟨ff, lf, h20, h21, (fun j _ _ => rfl), Or.inl ⟨rfl, fun h => absurd (b1_q.mpr h) (by rw [show b1 = false by assumption]; exact Bool.false_ne_true)⟩⟩ dX9_whyRefused_12

section PH
variable {n uv aa : Nat} {K : Nat → Nat → Prop} {T : Nat → Nat → Nat → Prop} {lst ro te pn av : Nat → Nat} {nt : Nat → Bool} {sx dm : Nat → Int64} {ft : Nat → Nat}
theorem ph_d {v : Nat} {d : Int64} (h : dmO uv aa nt sx ft v d) : ∀ t, inS d t = true → t < 40 := fun t ht => by
  cases hu : uv.testBit v with
  | false => rw [(h.1 hu t).mp ht]; decide
  | true => exact ((h.2 hu t).mp ht).1
theorem ph_s (hg : ∀ i, i < aa → gd K T lst ro te pn i n sx ft) (hav0 : ∀ i, i < aa → (av i).testBit 0 = false → ∀ p, p < pn i → te (i * 4 + p) ≠ 40) : ∀ i, i < aa → (av i).testBit 0 = false → ∀ f, f < ft i → ∀ t, t < 40 → inS (sx ((i * 120 + f) * 3)) t = true := fun i hi h0 f hf t ht => by
  obtain ⟨q, k1, k2, k3, k4⟩ := (hg i hi).2.1 f hf
  exact (k4 0 (by decide) t).mpr ⟨ht, fun p hp h4 => absurd h4 (hav0 i hi h0 p hp)⟩
/-- P holds of just the answers, in their order -/
def aP (P : Nat → Bool) (n : Nat) (K : Nat → Nat → Prop) (T : Nat → Nat → Nat → Prop) (lst ro te pn : Nat → Nat) (nt : Nat → Bool) (uv aa : Nat) : Prop := ∀ a b c, a < 40 → b < 40 → c < 40 → (P (a * 1600 + b * 40 + c) = true ↔ ANS n K T lst ro te pn nt uv aa a b c)
theorem ph_p (hg : ∀ i, i < aa → gd K T lst ro te pn i n sx ft) (hd : ∀ v, v < 3 → dmO uv aa nt sx ft v (dm v)) (ht : ∀ i, i < aa → ∀ p, p < pn i → te (i * 4 + p) < 43) : aP (anP dm sx ft nt aa) n K T lst ro te pn nt uv aa := fun a b c ha hb hc => by rw [anP_at hb hc]; exact an_iff hg hd ht ha hb hc
end PH

/-- X9_answers -/
abbrev rm_c_X9_answers_0 : Room := { frames := 1, cells := 0, slots := 0, locals := 20 }
set_option maxHeartbeats 4000000 in
set_option maxRecDepth 100000 in
theorem c_X9_answers_0 (l : Launch) (G : GG) (z : Nat) (ad : Nat → Nat) (M : Mem) {qa : Nat} {qs : Nat} {fw : Int32} {aa : Nat} {uv : Nat} {d : Int32} (h0 : M 0 = some (cStore ad qa qs fw)) (hq : M qa = some (cQuestion ad qa aa uv)) (ha0 : aa = 0) : Met l yX9_answers wsX9_answers rm_c_X9_answers_0 (Pr G z ad M [.ref (ad 0), .int d]) (vp_Si (fun r : Int32 => r = nI 0)) 0 0 (fun _ => False) := by
  refine Met.ofW (cc := cX9_answers) (maxL := 2) (ret := (some .int)) (by decide) rfl ?_
  intro p e s m args below meth c s₁ B hml hv
  obtain ⟨rfl, hv⟩ := hv
  have hI := Iv.entry hv
  have hx := B.exec
  have hb := B.bytes
  have hr := B.returns
  have hts := atoms_spec (ws := wsX9_answers) B.pre
  have hown : s.vm.findClass RX9 = some m.cls := findClass_of_methodNamed B.named
  have hlocks := B.notSynchronized
  have i_RX9 : ∀ w ∈ u_ws RX9 TX9 10, w ∈ wsX9_answers := fun w h => List.mem_cons_of_mem _ (iu_X9 w h)
  have f_61 := hts _ (List.mem_cons_of_mem _ (lwg_of t_246 rfl))
  have hl := lv_entry ([.ref (ad 0), .int d]) (n := 2) (Nat.le_of_ble_eq_true rfl)
  rw [lg_entry_eq]
  generalize (lg_sl ([.ref (ad 0), .int d]) ++ List.replicate (2 - (lg_sl ([.ref (ad 0), .int d])).length) Slot.unset).toArray = ls at hl ⊢
  have hl : lv_has ls 2 [(0, .ref (ad 0)), (1, .int d)] := hl
  refine lv_aload_n hx hb dX9_answers_0 rfl (lv_at hl 0 rfl) ?_
  refine h_get (C := RX9) (T := TX9) (N := 10) hx hb hts i_RX9 hown hI h0 rfl 7 (by decide) f_61 rfl rfl dX9_answers_1 ?_
  refine k_Ri (va_runV (As := []) (rest := []) ⟨hx, hb, hml, hown, hts⟩ (c_X6_atoms l G z ad M (k := qa) (aa := aa) (uv := uv) hq) (cwV 0 hts (gV (lwg_of t_315 rfl) (lwg_of t_316 rfl) (lwg_of t_317 rfl) (lwg_of t_12 rfl) (lwg_of t_318 rfl)) rfl rfl rfl (by decide +kernel) ⟨Nat.le_of_ble_eq_true rfl, Nat.le_of_ble_eq_true rfl⟩) (hI.preV hq rfl) rfl rfl hl.1 rfl (lv_room (Nat.le_of_ble_eq_true rfl)) dX9_answers_4 ⟨Nat.le_of_ble_eq_true rfl, Nat.le_of_ble_eq_true rfl⟩) (fun _ h => h) (fun r_1 hp_2 => ?_)
  rw [hp_2]
  refine lv_if_ne (tgt := 12) hx hb dX9_answers_7 (by decide) (fun c_3 => ?_) (fun c_3 => ?_)
  · -- 7: nI aa ne
    have c_3 : aa ≠ 0 := by have h := mt (nI_eq (a := aa) (b := 0) (by omega) (by omega)).mpr c_3; omega
    omega
  · -- 7: nI aa eq
    have c_3 : aa = 0 := (nI_eq (a := aa) (b := 0) (by omega) (by omega)).mp (c_3)
    refine lv_iconst (v := nI 0) hx hb dX9_answers_10 (by decide) ?_
    exact e_Ri hx hb hr rfl hlocks (rfl) dX9_answers_11

/-- X9_answers -/
abbrev rm_c_X9_answers : Room := { frames := 5, cells := 0, slots := 0, locals := 117 }
set_option maxHeartbeats 4000000 in
set_option maxRecDepth 100000 in
theorem c_X9_answers (l : Launch) (G : GG) (z : Nat) (ad : Nat → Nat) (M : Mem) {n : Nat} {kd : Nat → Nat} {fm : Nat → Int32} {to : Nat → Int32} {sz : Nat → Nat} {rl : Nat → Nat → Nat} {en : Nat → Nat → Nat} {qa : Nat} {qs : Nat} {fw : Int32} {qm : Nat} {pz : Nat} {aa : Nat} {uv : Nat} {jn : Nat} {lst : Nat → Nat} {kn : Nat → Nat} {nt : Nat → Bool} {pn : Nat → Nat} {av : Nat → Nat} {ro : Nat → Nat} {te : Nat → Nat} {sx : Nat → Int64} {ft : Nat → Nat} {rx : Nat → Int64} {dm : Nat → Int64} {rc : Nat → Int32} {d : Int32} (hL : LSm G ad M n kd fm to sz rl en) (h0 : M 0 = some (cStore ad qa qs fw)) (h23 : M 23 = some (cMatcher ad qm pz)) (h24 : M 24 = some (aJ G 2160 sx)) (h25 : M 25 = some (aI G 6 (nF ft))) (h26 : M 26 = some (aJ G 240 rx)) (h27 : M 27 = some (aJ G 3 dm)) (h28 : M 28 = some (aI G 3 rc)) (hk : M qa = some (cQuestion ad qa aa uv)) (q1 : M (qa + 1) = some (aI G 6 (nF kn))) (q2 : M (qa + 2) = some (aZ G 6 (bF nt))) (q3 : M (qa + 3) = some (aI G 6 (nF pn))) (q4 : M (qa + 4) = some (aI G 6 (nF av))) (q5 : M (qa + 5) = some (aI G 24 (nF ro))) (q6 : M (qa + 6) = some (aI G 24 (nF te))) (h8 : M 8 = some (cOnes ad jn)) (h10 : M 10 = some (aI G 40 (nF lst))) (hw : LSw n kd sz rl en) (hqa : 29 < qa ∧ qa < 51) (haa : aa ≤ 6) (huv : uv < 8) (hqw : (∀ i, i < aa → kn i < 6 ∧ pn i ≤ 4 ∧ ∀ j, j < pn i → ro (i * 4 + j) < 6 ∧ te (i * 4 + j) < 43)) (hav : ∀ i, i < aa → av i < 8) (hav0 : ∀ i, i < aa → (av i).testBit 0 = false → ∀ p9, p9 < pn i → te (i * 4 + p9) ≠ 40) (hlst : ∀ u, u < 40 → lst u < 40) (ha0 : 0 < aa) : Met l yX9_answers wsX9_answers rm_c_X9_answers (Pr G z ad M [.ref (ad 0), .int d]) (Ni G z ad (fun (r : Int32) (M' : Mem) => ∃ P : Nat → Bool, ∃ s2 : Nat → Int64, ∃ f2 : Nat → Nat, ∃ d2 : Nat → Int64, ∃ p2 : Nat, ∃ r2 : Nat → Int64, ∃ rc2 : Nat → Int32, M' 23 = some (cMatcher ad qa p2) ∧ M' 24 = some (aJ G 2160 s2) ∧ M' 25 = some (aI G 6 (nF f2)) ∧ M' 27 = some (aJ G 3 d2) ∧ M' 26 = some (aJ G 240 r2) ∧ M' 28 = some (aI G 3 rc2) ∧ (∀ j : Nat, j ≠ 23 → j ≠ 24 → j ≠ 25 → j ≠ 27 → j ≠ 26 → j ≠ 28 → M' j = M j) ∧ (r = nI (cntB P 64000) ∧ aP P n (kQ kd fm to kn d) (tL rl en sz lst) lst ro te pn nt uv aa))) 0 0 (fr z) := by
  refine Met.ofW (cc := cX9_answers) (maxL := 2) (ret := (some .int)) (by decide) rfl ?_
  intro p e s m args below meth c s₁ B hml hv
  obtain ⟨rfl, hv⟩ := hv
  have hI := Iv.entry hv
  have hx := B.exec
  have hb := B.bytes
  have hr := B.returns
  have hts := atoms_spec (ws := wsX9_answers) B.pre
  have hown : s.vm.findClass RX9 = some m.cls := findClass_of_methodNamed B.named
  have hlocks := B.notSynchronized
  have i_RX9 : ∀ w ∈ u_ws RX9 TX9 10, w ∈ wsX9_answers := fun w h => List.mem_cons_of_mem _ (iu_X9 w h)
  have f_61 := hts _ (List.mem_cons_of_mem _ (lwg_of t_246 rfl))
  have f_54 := hts _ (List.mem_cons_of_mem _ (lwg_of t_245 rfl))
  have f_40 := hts _ (List.mem_cons_of_mem _ (lwg_of t_243 rfl))
  have f_26 := hts _ (List.mem_cons_of_mem _ (lwg_of t_241 rfl))
  have hl := lv_entry ([.ref (ad 0), .int d]) (n := 2) (Nat.le_of_ble_eq_true rfl)
  rw [lg_entry_eq]
  generalize (lg_sl ([.ref (ad 0), .int d]) ++ List.replicate (2 - (lg_sl ([.ref (ad 0), .int d])).length) Slot.unset).toArray = ls at hl ⊢
  have hl : lv_has ls 2 [(0, .ref (ad 0)), (1, .int d)] := hl
  have h16 := hL.1
  obtain ⟨mcn, ed, h17, hed⟩ := id hL.2.1
  refine lv_aload_n hx hb dX9_answers_0 rfl (lv_at hl 0 rfl) ?_
  refine h_get (C := RX9) (T := TX9) (N := 10) hx hb hts i_RX9 hown hI h0 rfl 7 (by decide) f_61 rfl rfl dX9_answers_1 ?_
  refine k_Ri (va_runV (As := []) (rest := []) ⟨hx, hb, hml, hown, hts⟩ (c_X6_atoms l G z ad M (k := qa) (aa := aa) (uv := uv) hk) (cwV 0 hts (gV (lwg_of t_315 rfl) (lwg_of t_316 rfl) (lwg_of t_317 rfl) (lwg_of t_12 rfl) (lwg_of t_318 rfl)) rfl rfl rfl (by decide +kernel) ⟨Nat.le_of_ble_eq_true rfl, Nat.le_of_ble_eq_true rfl⟩) (hI.preV hk rfl) rfl rfl hl.1 rfl (lv_room (Nat.le_of_ble_eq_true rfl)) dX9_answers_4 ⟨Nat.le_of_ble_eq_true rfl, Nat.le_of_ble_eq_true rfl⟩) (fun _ h => h) (fun r_1 hp_2 => ?_)
  rw [hp_2]
  refine lv_if_ne (tgt := 12) hx hb dX9_answers_7 (by decide) (fun c_3 => ?_) (fun c_3 => ?_)
  · -- 7: nI aa ne
    have c_3 : aa ≠ 0 := by have h := mt (nI_eq (a := aa) (b := 0) (by omega) (by omega)).mpr c_3; omega
    refine lv_aload_n hx hb dX9_answers_12 rfl (lv_at hl 0 rfl) ?_
    refine h_get (C := RX9) (T := TX9) (N := 10) hx hb hts i_RX9 hown hI h0 rfl 6 (by decide) f_54 rfl rfl dX9_answers_13 ?_
    refine lv_aload_n hx hb dX9_answers_16 rfl (lv_at hl 0 rfl) ?_
    refine h_get (C := RX9) (T := TX9) (N := 10) hx hb hts i_RX9 hown hI h0 rfl 7 (by decide) f_61 rfl rfl dX9_answers_17 ?_
    refine lv_aload_n hx hb dX9_answers_20 rfl (lv_at hl 0 rfl) ?_
    refine h_get (C := RX9) (T := TX9) (N := 10) hx hb hts i_RX9 hown hI h0 rfl 4 (by decide) f_40 rfl rfl dX9_answers_21 ?_
    refine lv_aload_n hx hb dX9_answers_24 rfl (lv_at hl 0 rfl) ?_
    refine h_get (C := RX9) (T := TX9) (N := 10) hx hb hts i_RX9 hown hI h0 rfl 2 (by decide) f_26 rfl rfl dX9_answers_25 ?_
    refine lv_iload_n hx hb dX9_answers_28 rfl (lv_at hl 1 rfl) ?_
    refine k_Nv (va_runV (As := [.ref (ad qa), .ref (ad 16), .ref (ad 8), .int d]) (rest := []) ⟨hx, hb, hml, hown, hts⟩ (c_X4_prepare l G z ad M (n := n) (kd := kd) (fm := fm) (to := to) (sz := sz) (rl := rl) (en := en) (qm := qm) (pz := pz) (aa := aa) (uv := uv) (qn := qa) (jn := jn) (lst := lst) (kn := kn) (nt := nt) (pn := pn) (ro := ro) (te := te) (sx := sx) (ft := ft) (dm := dm) (d := d) hL h23 h24 h25 h27 hk q1 q2 q3 q5 q6 h8 h10 hw (by omega) (by omega) (by omega) hqw hlst) (cwV 4 hts (gV (lwg_of t_319 rfl) (lwg_of t_320 rfl) (lwg_of t_321 rfl) (lwg_of t_11 rfl) (lwg_of t_322 rfl)) rfl rfl rfl (by decide +kernel) ⟨Nat.le_of_ble_eq_true rfl, Nat.le_of_ble_eq_true rfl⟩) (hI.preV h23 rfl) rfl rfl hl.1 rfl (lv_room (Nat.le_of_ble_eq_true rfl)) dX9_answers_29 ⟨Nat.le_of_ble_eq_true rfl, Nat.le_of_ble_eq_true rfl⟩) hI (fun M_6 H_7 locs_8 hp_5 hI => ?_)
    obtain ⟨s2_15, f2_16, d2_17, hm_9, hm_10, hm_11, hm_12, hF_13, hP_14⟩ := hp_5
    have hm_18 : M_6 0 = some (cStore ad qa qs fw) := by rw [hF_13 0 (by omega) (by omega) (by omega) (by omega)]; exact h0
    have hm_19 : M_6 26 = some (aJ G 240 rx) := by rw [hF_13 26 (by omega) (by omega) (by omega) (by omega)]; exact h26
    have hm_20 : M_6 28 = some (aI G 3 rc) := by rw [hF_13 28 (by omega) (by omega) (by omega) (by omega)]; exact h28
    have hm_21 : M_6 qa = some (cQuestion ad qa aa uv) := by rw [hF_13 qa (by omega) (by omega) (by omega) (by omega)]; exact hk
    have hm_22 : M_6 (qa + 1) = some (aI G 6 (nF kn)) := by rw [hF_13 (qa + 1) (by omega) (by omega) (by omega) (by omega)]; exact q1
    have hm_23 : M_6 (qa + 2) = some (aZ G 6 (bF nt)) := by rw [hF_13 (qa + 2) (by omega) (by omega) (by omega) (by omega)]; exact q2
    have hm_24 : M_6 (qa + 3) = some (aI G 6 (nF pn)) := by rw [hF_13 (qa + 3) (by omega) (by omega) (by omega) (by omega)]; exact q3
    have hm_25 : M_6 (qa + 4) = some (aI G 6 (nF av)) := by rw [hF_13 (qa + 4) (by omega) (by omega) (by omega) (by omega)]; exact q4
    have hm_26 : M_6 (qa + 5) = some (aI G 24 (nF ro)) := by rw [hF_13 (qa + 5) (by omega) (by omega) (by omega) (by omega)]; exact q5
    have hm_27 : M_6 (qa + 6) = some (aI G 24 (nF te)) := by rw [hF_13 (qa + 6) (by omega) (by omega) (by omega) (by omega)]; exact q6
    have hm_28 : M_6 8 = some (cOnes ad jn) := by rw [hF_13 8 (by omega) (by omega) (by omega) (by omega)]; exact h8
    have hm_29 : M_6 10 = some (aI G 40 (nF lst)) := by rw [hF_13 10 (by omega) (by omega) (by omega) (by omega)]; exact h10
    have hm_30 : M_6 16 = some (cLines ad ) := by rw [hF_13 16 (by omega) (by omega) (by omega) (by omega)]; exact h16
    have hm_31 : M_6 17 = some (cList ad mcn ed n) := by rw [hF_13 17 (by omega) (by omega) (by omega) (by omega)]; exact h17
    have hL_32 : LSm G ad M_6 n kd fm to sz rl en := hL.keep (fun j hj => hF_13 j (by omega) (by omega) (by omega) (by omega))
    have hF_33 : ∀ j : Nat, j ≠ 23 → j ≠ 24 → j ≠ 25 → j ≠ 27 → M_6 j = M j := fun j q0 q1 q2 q3 => (hF_13 j q0 q1 q2 q3)
    have hgd := hP_14.1
    have hdm := hP_14.2
    have hfa : ∀ i9, i9 < aa → f2_16 i9 ≤ 120 := fun i9 h9 => Nat.le_trans (hgd i9 h9).1 hw.1
    have hphs := ph_s hgd hav0
    have hpp := ph_p hgd hdm (fun i9 h9 p9 h8 => ((hqw i9 h9).2.2 p9 h8).2)
    refine lv_aload_n hx hb dX9_answers_32 rfl (lv_at hl 0 rfl) ?_
    refine h_get (C := RX9) (T := TX9) (N := 10) hx hb hts i_RX9 hown hI hm_18 rfl 6 (by decide) f_54 rfl rfl dX9_answers_33 ?_
    refine k_Ni (va_runV (As := []) (rest := []) ⟨hx, hb, hml, hown, hts⟩ (c_X4_howMany l G z ad M_6 (qm := qa) (pz := pz) (aa := aa) (uv := uv) (av := av) (nt := nt) (sx := s2_15) (ft := f2_16) (rx := rx) (dm := d2_17) (rc := rc) hm_9 hm_10 hm_11 hm_19 hm_12 hm_20 hm_21 hm_23 hm_25 (by omega) (by omega) hav hfa (ph_d (hdm 2 (by decide))) hphs) (cwV 0 hts (gV (lwg_of t_397 rfl) (lwg_of t_398 rfl) (lwg_of t_399 rfl) (lwg_of t_11 rfl) (lwg_of t_400 rfl)) rfl rfl rfl (by decide +kernel) ⟨Nat.le_of_ble_eq_true rfl, Nat.le_of_ble_eq_true rfl⟩) (hI.preV hm_9 rfl) rfl rfl hl.1 rfl (lv_room (Nat.le_of_ble_eq_true rfl)) dX9_answers_36 ⟨Nat.le_of_ble_eq_true rfl, Nat.le_of_ble_eq_true rfl⟩) hI (fun r_34 M_36 H_37 locs_38 hp_35 hI => ?_)
    obtain ⟨p2_44, r2_45, rc2_46, hr_39, hm_40, hm_41, hm_42, hF_43⟩ := hp_35
    have hm_47 : M_36 0 = some (cStore ad qa qs fw) := by rw [hF_43 0 (by omega) (by omega) (by omega)]; exact hm_18
    have hm_48 : M_36 24 = some (aJ G 2160 s2_15) := by rw [hF_43 24 (by omega) (by omega) (by omega)]; exact hm_10
    have hm_49 : M_36 25 = some (aI G 6 (nF f2_16)) := by rw [hF_43 25 (by omega) (by omega) (by omega)]; exact hm_11
    have hm_50 : M_36 27 = some (aJ G 3 d2_17) := by rw [hF_43 27 (by omega) (by omega) (by omega)]; exact hm_12
    have hm_51 : M_36 qa = some (cQuestion ad qa aa uv) := by rw [hF_43 qa (by omega) (by omega) (by omega)]; exact hm_21
    have hm_52 : M_36 (qa + 1) = some (aI G 6 (nF kn)) := by rw [hF_43 (qa + 1) (by omega) (by omega) (by omega)]; exact hm_22
    have hm_53 : M_36 (qa + 2) = some (aZ G 6 (bF nt)) := by rw [hF_43 (qa + 2) (by omega) (by omega) (by omega)]; exact hm_23
    have hm_54 : M_36 (qa + 3) = some (aI G 6 (nF pn)) := by rw [hF_43 (qa + 3) (by omega) (by omega) (by omega)]; exact hm_24
    have hm_55 : M_36 (qa + 4) = some (aI G 6 (nF av)) := by rw [hF_43 (qa + 4) (by omega) (by omega) (by omega)]; exact hm_25
    have hm_56 : M_36 (qa + 5) = some (aI G 24 (nF ro)) := by rw [hF_43 (qa + 5) (by omega) (by omega) (by omega)]; exact hm_26
    have hm_57 : M_36 (qa + 6) = some (aI G 24 (nF te)) := by rw [hF_43 (qa + 6) (by omega) (by omega) (by omega)]; exact hm_27
    have hm_58 : M_36 8 = some (cOnes ad jn) := by rw [hF_43 8 (by omega) (by omega) (by omega)]; exact hm_28
    have hm_59 : M_36 10 = some (aI G 40 (nF lst)) := by rw [hF_43 10 (by omega) (by omega) (by omega)]; exact hm_29
    have hm_60 : M_36 16 = some (cLines ad ) := by rw [hF_43 16 (by omega) (by omega) (by omega)]; exact hm_30
    have hm_61 : M_36 17 = some (cList ad mcn ed n) := by rw [hF_43 17 (by omega) (by omega) (by omega)]; exact hm_31
    have hL_62 : LSm G ad M_36 n kd fm to sz rl en := hL_32.keep (fun j hj => hF_43 j (by omega) (by omega) (by omega))
    have hF_63 : ∀ j : Nat, j ≠ 23 → j ≠ 24 → j ≠ 25 → j ≠ 27 → j ≠ 26 → j ≠ 28 → M_36 j = M j := fun j q0 q1 q2 q3 q4 q5 => (hF_43 j q0 q4 q5).trans (hF_33 j q0 q1 q2 q3)
    rw [hr_39]
    exact e_Ni hx hb hr rfl hlocks hI ⟨_, s2_15, f2_16, d2_17, p2_44, r2_45, rc2_46, hm_40, hm_48, hm_49, hm_50, hm_41, hm_42, (fun j q0 q1 q2 q3 q4 q5 => hF_63 j q0 q1 q2 q3 q4 q5), ⟨rfl, hpp⟩⟩ dX9_answers_39
  · -- 7: nI aa eq
    have c_3 : aa = 0 := (nI_eq (a := aa) (b := 0) (by omega) (by omega)).mp (c_3)
    omega

/-- X9_answer -/
abbrev rm_c_X9_answer_a : Room := { frames := 0, cells := 0, slots := 0, locals := 0 }
set_option maxHeartbeats 4000000 in
set_option maxRecDepth 100000 in
theorem c_X9_answer_a (l : Launch) (G : GG) (z : Nat) (ad : Nat → Nat) (M : Mem) {qa : Nat} {qs : Nat} {fw : Int32} {d : Int32} {x : Int32} {y : Int32} (h0 : M 0 = some (cStore ad qa qs fw)) (hx0 : x < 0) : Met l yX9_answer wsX9_answer rm_c_X9_answer_a (Pr G z ad M [.ref (ad 0), .int d, .int x, .int y]) (vp_Si (fun r : Int32 => r = (-1))) 0 0 (fun _ => False) := by
  refine Met.ofW (cc := cX9_answer) (maxL := 4) (ret := (some .int)) (by decide) rfl ?_
  intro p e s m args below meth c s₁ B hml hv
  obtain ⟨rfl, hv⟩ := hv
  have hI := Iv.entry hv
  have hx := B.exec
  have hb := B.bytes
  have hr := B.returns
  have hts := atoms_spec (ws := wsX9_answer) B.pre
  have hown : s.vm.findClass RX9 = some m.cls := findClass_of_methodNamed B.named
  have hlocks := B.notSynchronized
  have hl := lv_entry ([.ref (ad 0), .int d, .int x, .int y]) (n := 4) (Nat.le_of_ble_eq_true rfl)
  rw [lg_entry_eq]
  generalize (lg_sl ([.ref (ad 0), .int d, .int x, .int y]) ++ List.replicate (4 - (lg_sl ([.ref (ad 0), .int d, .int x, .int y])).length) Slot.unset).toArray = ls at hl ⊢
  have hl : lv_has ls 4 [(0, .ref (ad 0)), (1, .int d), (2, .int x), (3, .int y)] := hl
  refine lv_iload_n hx hb dX9_answer_0 rfl (lv_at hl 2 rfl) ?_
  refine lv_if_lt (tgt := 24) hx hb dX9_answer_1 (by decide) (fun c_1 => ?_) (fun c_1 => ?_)
  · -- 1: x lt
    refine lv_iconst (v := (-1)) hx hb dX9_answer_24 (by decide) ?_
    exact e_Ri hx hb hr rfl hlocks (rfl) dX9_answer_25
  · -- 1: x ge
    contradiction

/-- X9_answer -/
abbrev rm_c_X9_answer_b : Room := { frames := 0, cells := 0, slots := 0, locals := 0 }
set_option maxHeartbeats 4000000 in
set_option maxRecDepth 100000 in
theorem c_X9_answer_b (l : Launch) (G : GG) (z : Nat) (ad : Nat → Nat) (M : Mem) {qa : Nat} {qs : Nat} {fw : Int32} {d : Int32} {x : Int32} {y : Int32} (h0 : M 0 = some (cStore ad qa qs fw)) (hbad : y < 0 ∨ ¬ y < nI 3) : Met l yX9_answer wsX9_answer rm_c_X9_answer_b (Pr G z ad M [.ref (ad 0), .int d, .int x, .int y]) (vp_Si (fun r : Int32 => r = (-1))) 0 0 (fun _ => False) := by
  refine Met.ofW (cc := cX9_answer) (maxL := 4) (ret := (some .int)) (by decide) rfl ?_
  intro p e s m args below meth c s₁ B hml hv
  obtain ⟨rfl, hv⟩ := hv
  have hI := Iv.entry hv
  have hx := B.exec
  have hb := B.bytes
  have hr := B.returns
  have hts := atoms_spec (ws := wsX9_answer) B.pre
  have hown : s.vm.findClass RX9 = some m.cls := findClass_of_methodNamed B.named
  have hlocks := B.notSynchronized
  have hl := lv_entry ([.ref (ad 0), .int d, .int x, .int y]) (n := 4) (Nat.le_of_ble_eq_true rfl)
  rw [lg_entry_eq]
  generalize (lg_sl ([.ref (ad 0), .int d, .int x, .int y]) ++ List.replicate (4 - (lg_sl ([.ref (ad 0), .int d, .int x, .int y])).length) Slot.unset).toArray = ls at hl ⊢
  have hl : lv_has ls 4 [(0, .ref (ad 0)), (1, .int d), (2, .int x), (3, .int y)] := hl
  refine lv_iload_n hx hb dX9_answer_0 rfl (lv_at hl 2 rfl) ?_
  refine lv_if_lt (tgt := 24) hx hb dX9_answer_1 (by decide) (fun c_1 => ?_) (fun c_1 => ?_)
  · -- 1: x lt
    refine lv_iconst (v := (-1)) hx hb dX9_answer_24 (by decide) ?_
    exact e_Ri hx hb hr rfl hlocks (rfl) dX9_answer_25
  · -- 1: x ge
    refine lv_iload_n hx hb dX9_answer_4 rfl (lv_at hl 3 rfl) ?_
    refine lv_if_lt (tgt := 24) hx hb dX9_answer_5 (by decide) (fun c_2 => ?_) (fun c_2 => ?_)
    · -- 5: y lt
      refine lv_iconst (v := (-1)) hx hb dX9_answer_24 (by decide) ?_
      exact e_Ri hx hb hr rfl hlocks (rfl) dX9_answer_25
    · -- 5: y ge
      refine lv_iload_n hx hb dX9_answer_8 rfl (lv_at hl 3 rfl) ?_
      refine lv_iconst (v := nI 3) hx hb dX9_answer_9 (by decide) ?_
      refine lv_icmp_ge (tgt := 24) hx hb dX9_answer_10 (by decide) (fun c_3 => ?_) (fun c_3 => ?_)
      · -- 10: y ge
        refine lv_iconst (v := (-1)) hx hb dX9_answer_24 (by decide) ?_
        exact e_Ri hx hb hr rfl hlocks (rfl) dX9_answer_25
      · -- 10: y lt
        rcases hbad with h9 | h9; contradiction; exact absurd (Int32.not_lt.mp h9) (by assumption)

/-- X9_answer -/
abbrev rm_c_X9_answer_c : Room := { frames := 1, cells := 0, slots := 0, locals := 21 }
set_option maxHeartbeats 4000000 in
set_option maxRecDepth 100000 in
theorem c_X9_answer_c (l : Launch) (G : GG) (z : Nat) (ad : Nat → Nat) (M : Mem) {qa : Nat} {qs : Nat} {fw : Int32} {aa : Nat} {uv : Nat} {d : Int32} {x : Int32} {v : Nat} (h0 : M 0 = some (cStore ad qa qs fw)) (hq : M qa = some (cQuestion ad qa aa uv)) (huv : uv < 8) (hv3 : v < 3) (hno : uv.testBit v = false) : Met l yX9_answer wsX9_answer rm_c_X9_answer_c (Pr G z ad M [.ref (ad 0), .int d, .int x, .int (nI v)]) (vp_Si (fun r : Int32 => r = (-1))) 0 0 (fun _ => False) := by
  refine Met.ofW (cc := cX9_answer) (maxL := 4) (ret := (some .int)) (by decide) rfl ?_
  intro p e s m args below meth c s₁ B hml hv
  obtain ⟨rfl, hv⟩ := hv
  have hI := Iv.entry hv
  have hx := B.exec
  have hb := B.bytes
  have hr := B.returns
  have hts := atoms_spec (ws := wsX9_answer) B.pre
  have hown : s.vm.findClass RX9 = some m.cls := findClass_of_methodNamed B.named
  have hlocks := B.notSynchronized
  have i_RX9 : ∀ w ∈ u_ws RX9 TX9 10, w ∈ wsX9_answer := fun w h => List.mem_cons_of_mem _ (iu_X9 w h)
  have f_61 := hts _ (List.mem_cons_of_mem _ (lwg_of t_246 rfl))
  have hl := lv_entry ([.ref (ad 0), .int d, .int x, .int (nI v)]) (n := 4) (Nat.le_of_ble_eq_true rfl)
  rw [lg_entry_eq]
  generalize (lg_sl ([.ref (ad 0), .int d, .int x, .int (nI v)]) ++ List.replicate (4 - (lg_sl ([.ref (ad 0), .int d, .int x, .int (nI v)])).length) Slot.unset).toArray = ls at hl ⊢
  have hl : lv_has ls 4 [(0, .ref (ad 0)), (1, .int d), (2, .int x), (3, .int (nI v))] := hl
  refine lv_iload_n hx hb dX9_answer_0 rfl (lv_at hl 2 rfl) ?_
  refine lv_if_lt (tgt := 24) hx hb dX9_answer_1 (by decide) (fun c_1 => ?_) (fun c_1 => ?_)
  · -- 1: x lt
    refine lv_iconst (v := (-1)) hx hb dX9_answer_24 (by decide) ?_
    exact e_Ri hx hb hr rfl hlocks (rfl) dX9_answer_25
  · -- 1: x ge
    refine lv_iload_n hx hb dX9_answer_4 rfl (lv_at hl 3 rfl) ?_
    refine lv_if_lt (tgt := 24) hx hb dX9_answer_5 (by decide) (fun c_2 => ?_) (fun c_2 => ?_)
    · -- 5: nI v lt
      have c_2 : v < 0 := (nI_ltI (a := v) (b := 0) (by omega) (by omega)).mp (c_2)
      omega
    · -- 5: nI v ge
      have c_2 : 0 ≤ v := by have h := mt (nI_ltI (a := v) (b := 0) (by omega) (by omega)).mpr c_2; omega
      refine lv_iload_n hx hb dX9_answer_8 rfl (lv_at hl 3 rfl) ?_
      refine lv_iconst (v := nI 3) hx hb dX9_answer_9 (by decide) ?_
      refine lv_icmp_ge (tgt := 24) hx hb dX9_answer_10 (by decide) (fun c_3 => ?_) (fun c_3 => ?_)
      · -- 10: nI v ge
        have c_3 : 3 ≤ v := (nI_leI (a := 3) (b := v) (by omega) (by omega)).mp (c_3)
        omega
      · -- 10: nI v lt
        have c_3 : v < 3 := by have h := mt (nI_leI (a := 3) (b := v) (by omega) (by omega)).mpr c_3; omega
        refine lv_aload_n hx hb dX9_answer_13 rfl (lv_at hl 0 rfl) ?_
        refine h_get (C := RX9) (T := TX9) (N := 10) hx hb hts i_RX9 hown hI h0 rfl 7 (by decide) f_61 rfl rfl dX9_answer_14 ?_
        refine lv_iload_n hx hb dX9_answer_17 rfl (lv_at hl 3 rfl) ?_
        refine k_Ri (va_runV (As := [.int (nI v)]) (rest := []) ⟨hx, hb, hml, hown, hts⟩ (c_X6_uses l G z ad M (k := qa) (aa := aa) (uv := uv) (v := v) hq (by omega) (by omega)) (cwV 1 hts (gV (lwg_of t_439 rfl) (lwg_of t_390 rfl) (lwg_of t_391 rfl) (lwg_of t_12 rfl) (lwg_of t_392 rfl)) rfl rfl rfl (by decide +kernel) ⟨Nat.le_of_ble_eq_true rfl, Nat.le_of_ble_eq_true rfl⟩) (hI.preV hq rfl) rfl rfl hl.1 rfl (lv_room (Nat.le_of_ble_eq_true rfl)) dX9_answer_18 ⟨Nat.le_of_ble_eq_true rfl, Nat.le_of_ble_eq_true rfl⟩) (fun _ h => h) (fun r_4 hp_5 => ?_)
        rw [hp_5]
        refine lv_if_ne (tgt := 26) hx hb dX9_answer_21 (by decide) (fun c_6 => ?_) (fun c_6 => ?_)
        · -- 21: bI (uv.testBit v) ne
          have c_6 : uv.testBit v = true := bI_t (c_6)
          simp_all
        · -- 21: bI (uv.testBit v) eq
          have c_6 : uv.testBit v = false := bI_f (c_6)
          refine lv_iconst (v := (-1)) hx hb dX9_answer_24 (by decide) ?_
          exact e_Ri hx hb hr rfl hlocks (rfl) dX9_answer_25

/-- X9_answer -/
abbrev rm_c_X9_answer : Room := { frames := 5, cells := 0, slots := 0, locals := 112 }
set_option maxHeartbeats 4000000 in
set_option maxRecDepth 100000 in
theorem c_X9_answer (l : Launch) (G : GG) (z : Nat) (ad : Nat → Nat) (M : Mem) {n : Nat} {kd : Nat → Nat} {fm : Nat → Int32} {to : Nat → Int32} {sz : Nat → Nat} {rl : Nat → Nat → Nat} {en : Nat → Nat → Nat} {qa : Nat} {qs : Nat} {fw : Int32} {qm : Nat} {pz : Nat} {aa : Nat} {uv : Nat} {jn : Nat} {lst : Nat → Nat} {kn : Nat → Nat} {nt : Nat → Bool} {pn : Nat → Nat} {av : Nat → Nat} {ro : Nat → Nat} {te : Nat → Nat} {sx : Nat → Int64} {ft : Nat → Nat} {rx : Nat → Int64} {dm : Nat → Int64} {rc : Nat → Int32} {d : Int32} {q : Nat} {v : Nat} (hL : LSm G ad M n kd fm to sz rl en) (h0 : M 0 = some (cStore ad qa qs fw)) (h23 : M 23 = some (cMatcher ad qm pz)) (h24 : M 24 = some (aJ G 2160 sx)) (h25 : M 25 = some (aI G 6 (nF ft))) (h26 : M 26 = some (aJ G 240 rx)) (h27 : M 27 = some (aJ G 3 dm)) (h28 : M 28 = some (aI G 3 rc)) (hk : M qa = some (cQuestion ad qa aa uv)) (q1 : M (qa + 1) = some (aI G 6 (nF kn))) (q2 : M (qa + 2) = some (aZ G 6 (bF nt))) (q3 : M (qa + 3) = some (aI G 6 (nF pn))) (q4 : M (qa + 4) = some (aI G 6 (nF av))) (q5 : M (qa + 5) = some (aI G 24 (nF ro))) (q6 : M (qa + 6) = some (aI G 24 (nF te))) (h8 : M 8 = some (cOnes ad jn)) (h10 : M 10 = some (aI G 40 (nF lst))) (hw : LSw n kd sz rl en) (hqa : 29 < qa ∧ qa < 51) (haa : aa ≤ 6) (huv : uv < 8) (hqw : (∀ i, i < aa → kn i < 6 ∧ pn i ≤ 4 ∧ ∀ j, j < pn i → ro (i * 4 + j) < 6 ∧ te (i * 4 + j) < 43)) (hav : ∀ i, i < aa → av i < 8) (hav0 : ∀ i, i < aa → (av i).testBit 0 = false → ∀ p9, p9 < pn i → te (i * 4 + p9) ≠ 40) (hlst : ∀ u, u < 40 → lst u < 40) (hq : q < 2 ^ 31) (hv3 : v < 3) (hus : uv.testBit v = true) : Met l yX9_answer wsX9_answer rm_c_X9_answer (Pr G z ad M [.ref (ad 0), .int d, .int (nI q), .int (nI v)]) (Ni G z ad (fun (r : Int32) (M' : Mem) => ∃ P : Nat → Bool, ∃ s2 : Nat → Int64, ∃ f2 : Nat → Nat, ∃ d2 : Nat → Int64, ∃ p2 : Nat, ∃ r2 : Nat → Int64, ∃ rc2 : Nat → Int32, M' 23 = some (cMatcher ad qa p2) ∧ M' 24 = some (aJ G 2160 s2) ∧ M' 25 = some (aI G 6 (nF f2)) ∧ M' 27 = some (aJ G 3 d2) ∧ M' 26 = some (aJ G 240 r2) ∧ M' 28 = some (aI G 3 rc2) ∧ (∀ j : Nat, j ≠ 23 → j ≠ 24 → j ≠ 25 → j ≠ 27 → j ≠ 26 → j ≠ 28 → M' j = M j) ∧ (aP P n (kQ kd fm to kn d) (tL rl en sz lst) lst ro te pn nt uv aa ∧ (cntB P 64000 ≤ q ∧ r = -1 ∨ ∃ k, k < 64000 ∧ P k = true ∧ cntB P k = q ∧ r = nI (cmp3 (k / 1600) (k / 40 % 40) (k % 40) v))))) 0 0 (fr z) := by
  refine Met.ofW (cc := cX9_answer) (maxL := 4) (ret := (some .int)) (by decide) rfl ?_
  intro p e s m args below meth c s₁ B hml hv
  obtain ⟨rfl, hv⟩ := hv
  have hI := Iv.entry hv
  have hx := B.exec
  have hb := B.bytes
  have hr := B.returns
  have hts := atoms_spec (ws := wsX9_answer) B.pre
  have hown : s.vm.findClass RX9 = some m.cls := findClass_of_methodNamed B.named
  have hlocks := B.notSynchronized
  have i_RX9 : ∀ w ∈ u_ws RX9 TX9 10, w ∈ wsX9_answer := fun w h => List.mem_cons_of_mem _ (iu_X9 w h)
  have f_61 := hts _ (List.mem_cons_of_mem _ (lwg_of t_246 rfl))
  have f_54 := hts _ (List.mem_cons_of_mem _ (lwg_of t_245 rfl))
  have f_40 := hts _ (List.mem_cons_of_mem _ (lwg_of t_243 rfl))
  have f_26 := hts _ (List.mem_cons_of_mem _ (lwg_of t_241 rfl))
  have hl := lv_entry ([.ref (ad 0), .int d, .int (nI q), .int (nI v)]) (n := 4) (Nat.le_of_ble_eq_true rfl)
  rw [lg_entry_eq]
  generalize (lg_sl ([.ref (ad 0), .int d, .int (nI q), .int (nI v)]) ++ List.replicate (4 - (lg_sl ([.ref (ad 0), .int d, .int (nI q), .int (nI v)])).length) Slot.unset).toArray = ls at hl ⊢
  have hl : lv_has ls 4 [(0, .ref (ad 0)), (1, .int d), (2, .int (nI q)), (3, .int (nI v))] := hl
  have h16 := hL.1
  obtain ⟨mcn, ed, h17, hed⟩ := id hL.2.1
  refine lv_iload_n hx hb dX9_answer_0 rfl (lv_at hl 2 rfl) ?_
  refine lv_if_lt (tgt := 24) hx hb dX9_answer_1 (by decide) (fun c_1 => ?_) (fun c_1 => ?_)
  · -- 1: nI q lt
    have c_1 : q < 0 := (nI_ltI (a := q) (b := 0) (by omega) (by omega)).mp (c_1)
    omega
  · -- 1: nI q ge
    have c_1 : 0 ≤ q := by have h := mt (nI_ltI (a := q) (b := 0) (by omega) (by omega)).mpr c_1; omega
    refine lv_iload_n hx hb dX9_answer_4 rfl (lv_at hl 3 rfl) ?_
    refine lv_if_lt (tgt := 24) hx hb dX9_answer_5 (by decide) (fun c_2 => ?_) (fun c_2 => ?_)
    · -- 5: nI v lt
      have c_2 : v < 0 := (nI_ltI (a := v) (b := 0) (by omega) (by omega)).mp (c_2)
      omega
    · -- 5: nI v ge
      have c_2 : 0 ≤ v := by have h := mt (nI_ltI (a := v) (b := 0) (by omega) (by omega)).mpr c_2; omega
      refine lv_iload_n hx hb dX9_answer_8 rfl (lv_at hl 3 rfl) ?_
      refine lv_iconst (v := nI 3) hx hb dX9_answer_9 (by decide) ?_
      refine lv_icmp_ge (tgt := 24) hx hb dX9_answer_10 (by decide) (fun c_3 => ?_) (fun c_3 => ?_)
      · -- 10: nI v ge
        have c_3 : 3 ≤ v := (nI_leI (a := 3) (b := v) (by omega) (by omega)).mp (c_3)
        omega
      · -- 10: nI v lt
        have c_3 : v < 3 := by have h := mt (nI_leI (a := 3) (b := v) (by omega) (by omega)).mpr c_3; omega
        refine lv_aload_n hx hb dX9_answer_13 rfl (lv_at hl 0 rfl) ?_
        refine h_get (C := RX9) (T := TX9) (N := 10) hx hb hts i_RX9 hown hI h0 rfl 7 (by decide) f_61 rfl rfl dX9_answer_14 ?_
        refine lv_iload_n hx hb dX9_answer_17 rfl (lv_at hl 3 rfl) ?_
        refine k_Ri (va_runV (As := [.int (nI v)]) (rest := []) ⟨hx, hb, hml, hown, hts⟩ (c_X6_uses l G z ad M (k := qa) (aa := aa) (uv := uv) (v := v) hk (by omega) (by omega)) (cwV 1 hts (gV (lwg_of t_439 rfl) (lwg_of t_390 rfl) (lwg_of t_391 rfl) (lwg_of t_12 rfl) (lwg_of t_392 rfl)) rfl rfl rfl (by decide +kernel) ⟨Nat.le_of_ble_eq_true rfl, Nat.le_of_ble_eq_true rfl⟩) (hI.preV hk rfl) rfl rfl hl.1 rfl (lv_room (Nat.le_of_ble_eq_true rfl)) dX9_answer_18 ⟨Nat.le_of_ble_eq_true rfl, Nat.le_of_ble_eq_true rfl⟩) (fun _ h => h) (fun r_4 hp_5 => ?_)
        rw [hp_5]
        refine lv_if_ne (tgt := 26) hx hb dX9_answer_21 (by decide) (fun c_6 => ?_) (fun c_6 => ?_)
        · -- 21: bI (uv.testBit v) ne
          have c_6 : uv.testBit v = true := bI_t (c_6)
          refine lv_aload_n hx hb dX9_answer_26 rfl (lv_at hl 0 rfl) ?_
          refine h_get (C := RX9) (T := TX9) (N := 10) hx hb hts i_RX9 hown hI h0 rfl 6 (by decide) f_54 rfl rfl dX9_answer_27 ?_
          refine lv_aload_n hx hb dX9_answer_30 rfl (lv_at hl 0 rfl) ?_
          refine h_get (C := RX9) (T := TX9) (N := 10) hx hb hts i_RX9 hown hI h0 rfl 7 (by decide) f_61 rfl rfl dX9_answer_31 ?_
          refine lv_aload_n hx hb dX9_answer_34 rfl (lv_at hl 0 rfl) ?_
          refine h_get (C := RX9) (T := TX9) (N := 10) hx hb hts i_RX9 hown hI h0 rfl 4 (by decide) f_40 rfl rfl dX9_answer_35 ?_
          refine lv_aload_n hx hb dX9_answer_38 rfl (lv_at hl 0 rfl) ?_
          refine h_get (C := RX9) (T := TX9) (N := 10) hx hb hts i_RX9 hown hI h0 rfl 2 (by decide) f_26 rfl rfl dX9_answer_39 ?_
          refine lv_iload_n hx hb dX9_answer_42 rfl (lv_at hl 1 rfl) ?_
          refine k_Nv (va_runV (As := [.ref (ad qa), .ref (ad 16), .ref (ad 8), .int d]) (rest := []) ⟨hx, hb, hml, hown, hts⟩ (c_X4_prepare l G z ad M (n := n) (kd := kd) (fm := fm) (to := to) (sz := sz) (rl := rl) (en := en) (qm := qm) (pz := pz) (aa := aa) (uv := uv) (qn := qa) (jn := jn) (lst := lst) (kn := kn) (nt := nt) (pn := pn) (ro := ro) (te := te) (sx := sx) (ft := ft) (dm := dm) (d := d) hL h23 h24 h25 h27 hk q1 q2 q3 q5 q6 h8 h10 hw (by omega) (by omega) (by omega) hqw hlst) (cwV 4 hts (gV (lwg_of t_319 rfl) (lwg_of t_320 rfl) (lwg_of t_321 rfl) (lwg_of t_11 rfl) (lwg_of t_322 rfl)) rfl rfl rfl (by decide +kernel) ⟨Nat.le_of_ble_eq_true rfl, Nat.le_of_ble_eq_true rfl⟩) (hI.preV h23 rfl) rfl rfl hl.1 rfl (lv_room (Nat.le_of_ble_eq_true rfl)) dX9_answer_43 ⟨Nat.le_of_ble_eq_true rfl, Nat.le_of_ble_eq_true rfl⟩) hI (fun M_9 H_10 locs_11 hp_8 hI => ?_)
          obtain ⟨s2_18, f2_19, d2_20, hm_12, hm_13, hm_14, hm_15, hF_16, hP_17⟩ := hp_8
          have hm_21 : M_9 0 = some (cStore ad qa qs fw) := by rw [hF_16 0 (by omega) (by omega) (by omega) (by omega)]; exact h0
          have hm_22 : M_9 26 = some (aJ G 240 rx) := by rw [hF_16 26 (by omega) (by omega) (by omega) (by omega)]; exact h26
          have hm_23 : M_9 28 = some (aI G 3 rc) := by rw [hF_16 28 (by omega) (by omega) (by omega) (by omega)]; exact h28
          have hm_24 : M_9 qa = some (cQuestion ad qa aa uv) := by rw [hF_16 qa (by omega) (by omega) (by omega) (by omega)]; exact hk
          have hm_25 : M_9 (qa + 1) = some (aI G 6 (nF kn)) := by rw [hF_16 (qa + 1) (by omega) (by omega) (by omega) (by omega)]; exact q1
          have hm_26 : M_9 (qa + 2) = some (aZ G 6 (bF nt)) := by rw [hF_16 (qa + 2) (by omega) (by omega) (by omega) (by omega)]; exact q2
          have hm_27 : M_9 (qa + 3) = some (aI G 6 (nF pn)) := by rw [hF_16 (qa + 3) (by omega) (by omega) (by omega) (by omega)]; exact q3
          have hm_28 : M_9 (qa + 4) = some (aI G 6 (nF av)) := by rw [hF_16 (qa + 4) (by omega) (by omega) (by omega) (by omega)]; exact q4
          have hm_29 : M_9 (qa + 5) = some (aI G 24 (nF ro)) := by rw [hF_16 (qa + 5) (by omega) (by omega) (by omega) (by omega)]; exact q5
          have hm_30 : M_9 (qa + 6) = some (aI G 24 (nF te)) := by rw [hF_16 (qa + 6) (by omega) (by omega) (by omega) (by omega)]; exact q6
          have hm_31 : M_9 8 = some (cOnes ad jn) := by rw [hF_16 8 (by omega) (by omega) (by omega) (by omega)]; exact h8
          have hm_32 : M_9 10 = some (aI G 40 (nF lst)) := by rw [hF_16 10 (by omega) (by omega) (by omega) (by omega)]; exact h10
          have hm_33 : M_9 16 = some (cLines ad ) := by rw [hF_16 16 (by omega) (by omega) (by omega) (by omega)]; exact h16
          have hm_34 : M_9 17 = some (cList ad mcn ed n) := by rw [hF_16 17 (by omega) (by omega) (by omega) (by omega)]; exact h17
          have hL_35 : LSm G ad M_9 n kd fm to sz rl en := hL.keep (fun j hj => hF_16 j (by omega) (by omega) (by omega) (by omega))
          have hF_36 : ∀ j : Nat, j ≠ 23 → j ≠ 24 → j ≠ 25 → j ≠ 27 → M_9 j = M j := fun j q0 q1 q2 q3 => (hF_16 j q0 q1 q2 q3)
          have hgd := hP_17.1
          have hdm := hP_17.2
          have hfa : ∀ i9, i9 < aa → f2_19 i9 ≤ 120 := fun i9 h9 => Nat.le_trans (hgd i9 h9).1 hw.1
          have hphs := ph_s hgd hav0
          have hpp := ph_p hgd hdm (fun i9 h9 p9 h8 => ((hqw i9 h9).2.2 p9 h8).2)
          refine lv_aload_n hx hb dX9_answer_46 rfl (lv_at hl 0 rfl) ?_
          refine h_get (C := RX9) (T := TX9) (N := 10) hx hb hts i_RX9 hown hI hm_21 rfl 6 (by decide) f_54 rfl rfl dX9_answer_47 ?_
          refine lv_iload_n hx hb dX9_answer_50 rfl (lv_at hl 2 rfl) ?_
          refine k_Ni (va_runV (As := [.int (nI q)]) (rest := []) ⟨hx, hb, hml, hown, hts⟩ (c_X4_find l G z ad M_9 (qm := qa) (pz := pz) (aa := aa) (uv := uv) (av := av) (nt := nt) (sx := s2_18) (ft := f2_19) (rx := rx) (dm := d2_20) (rc := rc) (q := q) hm_12 hm_13 hm_14 hm_22 hm_15 hm_23 hm_24 hm_26 hm_28 (by omega) (by omega) hav hfa (ph_d (hdm 2 (by decide))) hphs (by omega)) (cwV 1 hts (gV (lwg_of t_440 rfl) (lwg_of t_403 rfl) (lwg_of t_404 rfl) (lwg_of t_11 rfl) (lwg_of t_405 rfl)) rfl rfl rfl (by decide +kernel) ⟨Nat.le_of_ble_eq_true rfl, Nat.le_of_ble_eq_true rfl⟩) (hI.preV hm_12 rfl) rfl rfl hl.1 rfl (lv_room (Nat.le_of_ble_eq_true rfl)) dX9_answer_51 ⟨Nat.le_of_ble_eq_true rfl, Nat.le_of_ble_eq_true rfl⟩) hI (fun r_37 M_39 H_40 locs_41 hp_38 hI => ?_)
          obtain ⟨b2_47, p2_48, r2_49, rc2_50, hm_42, hm_43, hm_44, hF_45, hP_46⟩ := hp_38
          have hm_51 : M_39 0 = some (cStore ad qa qs fw) := by rw [hF_45 0 (by omega) (by omega) (by omega)]; exact hm_21
          have hm_52 : M_39 24 = some (aJ G 2160 s2_18) := by rw [hF_45 24 (by omega) (by omega) (by omega)]; exact hm_13
          have hm_53 : M_39 25 = some (aI G 6 (nF f2_19)) := by rw [hF_45 25 (by omega) (by omega) (by omega)]; exact hm_14
          have hm_54 : M_39 27 = some (aJ G 3 d2_20) := by rw [hF_45 27 (by omega) (by omega) (by omega)]; exact hm_15
          have hm_55 : M_39 qa = some (cQuestion ad qa aa uv) := by rw [hF_45 qa (by omega) (by omega) (by omega)]; exact hm_24
          have hm_56 : M_39 (qa + 1) = some (aI G 6 (nF kn)) := by rw [hF_45 (qa + 1) (by omega) (by omega) (by omega)]; exact hm_25
          have hm_57 : M_39 (qa + 2) = some (aZ G 6 (bF nt)) := by rw [hF_45 (qa + 2) (by omega) (by omega) (by omega)]; exact hm_26
          have hm_58 : M_39 (qa + 3) = some (aI G 6 (nF pn)) := by rw [hF_45 (qa + 3) (by omega) (by omega) (by omega)]; exact hm_27
          have hm_59 : M_39 (qa + 4) = some (aI G 6 (nF av)) := by rw [hF_45 (qa + 4) (by omega) (by omega) (by omega)]; exact hm_28
          have hm_60 : M_39 (qa + 5) = some (aI G 24 (nF ro)) := by rw [hF_45 (qa + 5) (by omega) (by omega) (by omega)]; exact hm_29
          have hm_61 : M_39 (qa + 6) = some (aI G 24 (nF te)) := by rw [hF_45 (qa + 6) (by omega) (by omega) (by omega)]; exact hm_30
          have hm_62 : M_39 8 = some (cOnes ad jn) := by rw [hF_45 8 (by omega) (by omega) (by omega)]; exact hm_31
          have hm_63 : M_39 10 = some (aI G 40 (nF lst)) := by rw [hF_45 10 (by omega) (by omega) (by omega)]; exact hm_32
          have hm_64 : M_39 16 = some (cLines ad ) := by rw [hF_45 16 (by omega) (by omega) (by omega)]; exact hm_33
          have hm_65 : M_39 17 = some (cList ad mcn ed n) := by rw [hF_45 17 (by omega) (by omega) (by omega)]; exact hm_34
          have hL_66 : LSm G ad M_39 n kd fm to sz rl en := hL_35.keep (fun j hj => hF_45 j (by omega) (by omega) (by omega))
          have hF_67 : ∀ j : Nat, j ≠ 23 → j ≠ 24 → j ≠ 25 → j ≠ 27 → j ≠ 26 → j ≠ 28 → M_39 j = M j := fun j q0 q1 q2 q3 q4 q5 => (hF_45 j q0 q4 q5).trans (hF_36 j q0 q1 q2 q3)
          refine n_eq (show _ = bI b2_47 from hP_46.1) ?_
          refine lv_if_eq (tgt := 68) hx hb dX9_answer_54 (by decide) (fun c_68 => ?_) (fun c_68 => ?_)
          · -- 54: bI b2_47 eq
            have c_68 : b2_47 = false := bI_f (c_68)
            refine lv_iconst (v := (-1)) hx hb dX9_answer_68 (by decide) ?_
            exact e_Ni hx hb hr rfl hlocks hI ⟨_, s2_18, f2_19, d2_20, p2_48, r2_49, rc2_50, hm_42, hm_52, hm_53, hm_54, hm_43, hm_44, (fun j q0 q1 q2 q3 q4 q5 => hF_67 j q0 q1 q2 q3 q4 q5), ⟨hpp, Or.inl (by
      rcases hP_46.2 with h9 | h9
      · exact ⟨by rw [← h9.2.1]; exact h9.2.2, rfl⟩
      · exact absurd ((by assumption : b2_47 = false).symm.trans h9.1) (by decide))⟩⟩ dX9_answer_69
          · -- 54: bI b2_47 ne
            have c_68 : b2_47 = true := bI_t (c_68)
            refine lv_aload_n hx hb dX9_answer_57 rfl (lv_at hl 0 rfl) ?_
            refine h_get (C := RX9) (T := TX9) (N := 10) hx hb hts i_RX9 hown hI hm_51 rfl 6 (by decide) f_54 rfl rfl dX9_answer_58 ?_
            refine lv_iload_n hx hb dX9_answer_61 rfl (lv_at hl 3 rfl) ?_
            refine k_Ri (va_runV (As := [.int (nI v)]) (rest := []) ⟨hx, hb, hml, hown, hts⟩ (c_X4_found l G z ad M_39 (qm := qa) (pz := p2_48) (rc := rc2_50) (v := v) hm_42 hm_44 (by omega)) (cwV 1 hts (gV (lwg_of t_441 rfl) (lwg_of t_442 rfl) (lwg_of t_443 rfl) (lwg_of t_11 rfl) (lwg_of t_444 rfl)) rfl rfl rfl (by decide +kernel) ⟨Nat.le_of_ble_eq_true rfl, Nat.le_of_ble_eq_true rfl⟩) (hI.preV hm_42 rfl) rfl rfl hl.1 rfl (lv_room (Nat.le_of_ble_eq_true rfl)) dX9_answer_62 ⟨Nat.le_of_ble_eq_true rfl, Nat.le_of_ble_eq_true rfl⟩) (fun _ h => h) (fun r_69 hp_70 => ?_)
            rw [hp_70]
            refine lv_goto (tgt := 69) hx hb dX9_answer_65 (by decide) ?_
            exact e_Ni hx hb hr rfl hlocks hI ⟨_, s2_18, f2_19, d2_20, p2_48, r2_49, rc2_50, hm_42, hm_52, hm_53, hm_54, hm_43, hm_44, (fun j q0 q1 q2 q3 q4 q5 => hF_67 j q0 q1 q2 q3 q4 q5), ⟨hpp, Or.inr (by
      rcases hP_46.2 with h9 | h9
      · exact absurd ((by assumption : b2_47 = true).symm.trans h9.1) (by decide)
      · obtain ⟨_, k9, h1, h2, h3, h4, h5, h6⟩ := h9
        refine ⟨k9, h1, h2, h3, ?_⟩
        rcases (show v = 0 ∨ v = 1 ∨ v = 2 by omega) with rfl | rfl | rfl
        · exact h4
        · exact h5
        · exact h6)⟩⟩ dX9_answer_69
        · -- 21: bI (uv.testBit v) eq
          have c_6 : uv.testBit v = false := bI_f (c_6)
          simp_all
