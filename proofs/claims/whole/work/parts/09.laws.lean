/-- X1_setEnds -/
abbrev rm_c_X1_setEnds : Room := { frames := 0, cells := 0, slots := 0, locals := 0 }
set_option maxHeartbeats 4000000 in
set_option maxRecDepth 100000 in
theorem c_X1_setEnds (l : Launch) (G : GG) (z : Nat) (ad : Nat → Nat) (M : Mem) {le : Nat → Nat} {mo : Nat → Nat} {kd : Nat} {x : Nat} {a : Nat} {b : Nat} (h3 : M 3 = some (cLaws ad )) (h4 : M 4 = some (aI G 36 (nF le))) (h5 : M 5 = some (aI G 36 (nF mo))) (hkd : kd < 6) (hx : x < 6) : Met l yX1_setEnds wsX1_setEnds rm_c_X1_setEnds (Pr G z ad M [.ref (ad 3), .int (nI kd), .int (nI x), .int (nI a), .int (nI b)]) (Nv G z ad (fun (M' : Mem) => M' 4 = some (aI G 36 (nF (va_up le (kd * 6 + x) a))) ∧ M' 5 = some (aI G 36 (nF (va_up mo (kd * 6 + x) b))) ∧ (∀ j : Nat, j ≠ 4 → j ≠ 5 → M' j = M j))) 0 0 (fr z) := by
  refine Met.ofW (cc := cX1_setEnds) (maxL := 5) (ret := none) (by decide) rfl ?_
  intro p e s m args below meth c s₁ B hml hv
  obtain ⟨rfl, hv⟩ := hv
  have hI := Iv.entry hv
  have hx := B.exec
  have hb := B.bytes
  have hr := B.returns
  have hts := atoms_spec (ws := wsX1_setEnds) B.pre
  have hown : s.vm.findClass RX1 = some m.cls := findClass_of_methodNamed B.named
  have hlocks := B.notSynchronized
  have i_RX1 : ∀ w ∈ u_ws RX1 TX1 4, w ∈ wsX1_setEnds := fun w h => List.mem_cons_of_mem _ (iu_X1 w h)
  have f_9 := hts _ (List.mem_cons_of_mem _ (lwg_of t_61 rfl))
  have f_15 := hts _ (List.mem_cons_of_mem _ (lwg_of t_62 rfl))
  have hl := lv_entry ([.ref (ad 3), .int (nI kd), .int (nI x), .int (nI a), .int (nI b)]) (n := 5) (Nat.le_of_ble_eq_true rfl)
  rw [lg_entry_eq]
  generalize (lg_sl ([.ref (ad 3), .int (nI kd), .int (nI x), .int (nI a), .int (nI b)]) ++ List.replicate (5 - (lg_sl ([.ref (ad 3), .int (nI kd), .int (nI x), .int (nI a), .int (nI b)])).length) Slot.unset).toArray = ls at hl ⊢
  have hl : lv_has ls 5 [(0, .ref (ad 3)), (1, .int (nI kd)), (2, .int (nI x)), (3, .int (nI a)), (4, .int (nI b))] := hl
  refine lv_aload_n hx hb dX1_setEnds_0 rfl (lv_at hl 0 rfl) ?_
  refine h_get (C := RX1) (T := TX1) (N := 4) hx hb hts i_RX1 hown hI h3 rfl 0 (by decide) f_9 rfl rfl dX1_setEnds_1 ?_
  refine lv_iload_n hx hb dX1_setEnds_4 rfl (lv_at hl 1 rfl) ?_
  refine lv_bipush (v := nI 6) hx hb dX1_setEnds_5 (by decide) ?_
  refine lv_imul hx hb dX1_setEnds_7 ?_
  refine n_eq (pk_mul kd 6) ?_
  refine lv_iload_n hx hb dX1_setEnds_8 rfl (lv_at hl 2 rfl) ?_
  refine lv_iadd hx hb dX1_setEnds_9 ?_
  refine n_eq (nI_add (kd * 6) x) ?_
  refine lv_iload_n hx hb dX1_setEnds_10 rfl (lv_at hl 3 rfl) ?_
  refine h_iast (i := (kd * 6) + x) (x := nI a) hx hb hI h4 (by omega) (by decide) dX1_setEnds_11 (fun M_1 H_2 locs_3 eM_4 hI => ?_)
  rw [upd_nF] at eM_4
  have hm_5 : M_1 3 = some (cLaws ad ) := by rw [eM_4, va_up_ne _ _ (by omega)]; exact h3
  have hm_6 : M_1 4 = some (aI G 36 (nF (va_up le ((kd * 6) + x) a))) := by rw [eM_4]; exact va_up_self _ _ _
  have hm_7 : M_1 5 = some (aI G 36 (nF mo)) := by rw [eM_4, va_up_ne _ _ (by omega)]; exact h5
  have hF_8 : ∀ j : Nat, j ≠ 4 → M_1 j = M j := fun j q0 => by rw [eM_4, va_up_ne _ _ q0]
  refine lv_aload_n hx hb dX1_setEnds_12 rfl (lv_at hl 0 rfl) ?_
  refine h_get (C := RX1) (T := TX1) (N := 4) hx hb hts i_RX1 hown hI hm_5 rfl 1 (by decide) f_15 rfl rfl dX1_setEnds_13 ?_
  refine lv_iload_n hx hb dX1_setEnds_16 rfl (lv_at hl 1 rfl) ?_
  refine lv_bipush (v := nI 6) hx hb dX1_setEnds_17 (by decide) ?_
  refine lv_imul hx hb dX1_setEnds_19 ?_
  refine n_eq (pk_mul kd 6) ?_
  refine lv_iload_n hx hb dX1_setEnds_20 rfl (lv_at hl 2 rfl) ?_
  refine lv_iadd hx hb dX1_setEnds_21 ?_
  refine n_eq (nI_add (kd * 6) x) ?_
  refine lv_iload hx hb dX1_setEnds_22 (lv_at hl 4 rfl) ?_
  refine h_iast (i := (kd * 6) + x) (x := nI b) hx hb hI hm_7 (by omega) (by decide) dX1_setEnds_24 (fun M_9 H_10 locs_11 eM_12 hI => ?_)
  rw [upd_nF] at eM_12
  have hm_13 : M_9 3 = some (cLaws ad ) := by rw [eM_12, va_up_ne _ _ (by omega)]; exact hm_5
  have hm_14 : M_9 4 = some (aI G 36 (nF (va_up le ((kd * 6) + x) a))) := by rw [eM_12, va_up_ne _ _ (by omega)]; exact hm_6
  have hm_15 : M_9 5 = some (aI G 36 (nF (va_up mo ((kd * 6) + x) b))) := by rw [eM_12]; exact va_up_self _ _ _
  have hF_16 : ∀ j : Nat, j ≠ 4 → j ≠ 5 → M_9 j = M j := fun j q0 q1 => by rw [eM_12, va_up_ne _ _ q1]; exact hF_8 j q0
  exact e_Nv hx hb hr hlocks hI ⟨hm_14, hm_15, (fun j q0 q1 => hF_16 j q0 q1)⟩ dX1_setEnds_25

/-- X1_setAlone -/
abbrev rm_c_X1_setAlone : Room := { frames := 0, cells := 0, slots := 0, locals := 0 }
set_option maxHeartbeats 4000000 in
set_option maxRecDepth 100000 in
theorem c_X1_setAlone (l : Launch) (G : GG) (z : Nat) (ad : Nat → Nat) (M : Mem) {al : Nat → Nat} {kd : Nat} {x : Nat} {a : Nat} (h3 : M 3 = some (cLaws ad )) (h6 : M 6 = some (aI G 36 (nF al))) (hkd : kd < 6) (hx : x < 6) : Met l yX1_setAlone wsX1_setAlone rm_c_X1_setAlone (Pr G z ad M [.ref (ad 3), .int (nI kd), .int (nI x), .int (nI a)]) (Nv G z ad (fun (M' : Mem) => M' 6 = some (aI G 36 (nF (va_up al (kd * 6 + x) a))) ∧ (∀ j : Nat, j ≠ 6 → M' j = M j))) 0 0 (fr z) := by
  refine Met.ofW (cc := cX1_setAlone) (maxL := 4) (ret := none) (by decide) rfl ?_
  intro p e s m args below meth c s₁ B hml hv
  obtain ⟨rfl, hv⟩ := hv
  have hI := Iv.entry hv
  have hx := B.exec
  have hb := B.bytes
  have hr := B.returns
  have hts := atoms_spec (ws := wsX1_setAlone) B.pre
  have hown : s.vm.findClass RX1 = some m.cls := findClass_of_methodNamed B.named
  have hlocks := B.notSynchronized
  have i_RX1 : ∀ w ∈ u_ws RX1 TX1 4, w ∈ wsX1_setAlone := fun w h => List.mem_cons_of_mem _ (iu_X1 w h)
  have f_18 := hts _ (List.mem_cons_of_mem _ (lwg_of t_63 rfl))
  have hl := lv_entry ([.ref (ad 3), .int (nI kd), .int (nI x), .int (nI a)]) (n := 4) (Nat.le_of_ble_eq_true rfl)
  rw [lg_entry_eq]
  generalize (lg_sl ([.ref (ad 3), .int (nI kd), .int (nI x), .int (nI a)]) ++ List.replicate (4 - (lg_sl ([.ref (ad 3), .int (nI kd), .int (nI x), .int (nI a)])).length) Slot.unset).toArray = ls at hl ⊢
  have hl : lv_has ls 4 [(0, .ref (ad 3)), (1, .int (nI kd)), (2, .int (nI x)), (3, .int (nI a))] := hl
  refine lv_aload_n hx hb dX1_setAlone_0 rfl (lv_at hl 0 rfl) ?_
  refine h_get (C := RX1) (T := TX1) (N := 4) hx hb hts i_RX1 hown hI h3 rfl 2 (by decide) f_18 rfl rfl dX1_setAlone_1 ?_
  refine lv_iload_n hx hb dX1_setAlone_4 rfl (lv_at hl 1 rfl) ?_
  refine lv_bipush (v := nI 6) hx hb dX1_setAlone_5 (by decide) ?_
  refine lv_imul hx hb dX1_setAlone_7 ?_
  refine n_eq (pk_mul kd 6) ?_
  refine lv_iload_n hx hb dX1_setAlone_8 rfl (lv_at hl 2 rfl) ?_
  refine lv_iadd hx hb dX1_setAlone_9 ?_
  refine n_eq (nI_add (kd * 6) x) ?_
  refine lv_iload_n hx hb dX1_setAlone_10 rfl (lv_at hl 3 rfl) ?_
  refine h_iast (i := (kd * 6) + x) (x := nI a) hx hb hI h6 (by omega) (by decide) dX1_setAlone_11 (fun M_1 H_2 locs_3 eM_4 hI => ?_)
  rw [upd_nF] at eM_4
  have hm_5 : M_1 3 = some (cLaws ad ) := by rw [eM_4, va_up_ne _ _ (by omega)]; exact h3
  have hm_6 : M_1 6 = some (aI G 36 (nF (va_up al ((kd * 6) + x) a))) := by rw [eM_4]; exact va_up_self _ _ _
  have hF_7 : ∀ j : Nat, j ≠ 6 → M_1 j = M j := fun j q0 => by rw [eM_4, va_up_ne _ _ q0]
  exact e_Nv hx hb hr hlocks hI ⟨hm_6, (fun j q0 => hF_7 j q0)⟩ dX1_setAlone_12

/-- X1_isHolding -/
abbrev rm_c_X1_isHolding : Room := { frames := 0, cells := 0, slots := 0, locals := 0 }
set_option maxHeartbeats 4000000 in
set_option maxRecDepth 100000 in
theorem c_X1_isHolding (l : Launch) (G : GG) (z : Nat) (ad : Nat → Nat) (M : Mem) {ho : Nat → Bool} {kd : Nat} (h3 : M 3 = some (cLaws ad )) (h7 : M 7 = some (aZ G 6 (bF ho))) (hkd : kd < 6) : Met l yX1_isHolding wsX1_isHolding rm_c_X1_isHolding (Pr G z ad M [.ref (ad 3), .int (nI kd)]) (vp_Si (fun r : Int32 => r = bI (ho kd))) 0 0 (fun _ => False) := by
  refine Met.ofW (cc := cX1_isHolding) (maxL := 2) (ret := (some .boolean)) (by decide) rfl ?_
  intro p e s m args below meth c s₁ B hml hv
  obtain ⟨rfl, hv⟩ := hv
  have hI := Iv.entry hv
  have hx := B.exec
  have hb := B.bytes
  have hr := B.returns
  have hts := atoms_spec (ws := wsX1_isHolding) B.pre
  have hown : s.vm.findClass RX1 = some m.cls := findClass_of_methodNamed B.named
  have hlocks := B.notSynchronized
  have i_RX1 : ∀ w ∈ u_ws RX1 TX1 4, w ∈ wsX1_isHolding := fun w h => List.mem_cons_of_mem _ (iu_X1 w h)
  have f_21 := hts _ (List.mem_cons_of_mem _ (lwg_of t_64 rfl))
  have hl := lv_entry ([.ref (ad 3), .int (nI kd)]) (n := 2) (Nat.le_of_ble_eq_true rfl)
  rw [lg_entry_eq]
  generalize (lg_sl ([.ref (ad 3), .int (nI kd)]) ++ List.replicate (2 - (lg_sl ([.ref (ad 3), .int (nI kd)])).length) Slot.unset).toArray = ls at hl ⊢
  have hl : lv_has ls 2 [(0, .ref (ad 3)), (1, .int (nI kd))] := hl
  refine lv_aload_n hx hb dX1_isHolding_0 rfl (lv_at hl 0 rfl) ?_
  refine h_get (C := RX1) (T := TX1) (N := 4) hx hb hts i_RX1 hown hI h3 rfl 3 (by decide) f_21 rfl rfl dX1_isHolding_1 ?_
  refine lv_iload_n hx hb dX1_isHolding_4 rfl (lv_at hl 1 rfl) ?_
  refine h_zald (i := kd) hx hb hI h7 (by omega) (by decide) dX1_isHolding_5 ?_
  exact e_Ri hx hb hr (bI_nar _) hlocks (rfl) dX1_isHolding_6

/-- X1_mostAlone -/
abbrev rm_c_X1_mostAlone : Room := { frames := 0, cells := 0, slots := 0, locals := 0 }
set_option maxHeartbeats 4000000 in
set_option maxRecDepth 100000 in
theorem c_X1_mostAlone (l : Launch) (G : GG) (z : Nat) (ad : Nat → Nat) (M : Mem) {al : Nat → Nat} {kd : Nat} {x : Nat} (h3 : M 3 = some (cLaws ad )) (h6 : M 6 = some (aI G 36 (nF al))) (hkd : kd < 6) (hx : x < 6) : Met l yX1_mostAlone wsX1_mostAlone rm_c_X1_mostAlone (Pr G z ad M [.ref (ad 3), .int (nI kd), .int (nI x)]) (vp_Si (fun r : Int32 => r = nI (al (kd * 6 + x)))) 0 0 (fun _ => False) := by
  refine Met.ofW (cc := cX1_mostAlone) (maxL := 3) (ret := (some .int)) (by decide) rfl ?_
  intro p e s m args below meth c s₁ B hml hv
  obtain ⟨rfl, hv⟩ := hv
  have hI := Iv.entry hv
  have hx := B.exec
  have hb := B.bytes
  have hr := B.returns
  have hts := atoms_spec (ws := wsX1_mostAlone) B.pre
  have hown : s.vm.findClass RX1 = some m.cls := findClass_of_methodNamed B.named
  have hlocks := B.notSynchronized
  have i_RX1 : ∀ w ∈ u_ws RX1 TX1 4, w ∈ wsX1_mostAlone := fun w h => List.mem_cons_of_mem _ (iu_X1 w h)
  have f_18 := hts _ (List.mem_cons_of_mem _ (lwg_of t_63 rfl))
  have hl := lv_entry ([.ref (ad 3), .int (nI kd), .int (nI x)]) (n := 3) (Nat.le_of_ble_eq_true rfl)
  rw [lg_entry_eq]
  generalize (lg_sl ([.ref (ad 3), .int (nI kd), .int (nI x)]) ++ List.replicate (3 - (lg_sl ([.ref (ad 3), .int (nI kd), .int (nI x)])).length) Slot.unset).toArray = ls at hl ⊢
  have hl : lv_has ls 3 [(0, .ref (ad 3)), (1, .int (nI kd)), (2, .int (nI x))] := hl
  refine lv_aload_n hx hb dX1_mostAlone_0 rfl (lv_at hl 0 rfl) ?_
  refine h_get (C := RX1) (T := TX1) (N := 4) hx hb hts i_RX1 hown hI h3 rfl 2 (by decide) f_18 rfl rfl dX1_mostAlone_1 ?_
  refine lv_iload_n hx hb dX1_mostAlone_4 rfl (lv_at hl 1 rfl) ?_
  refine lv_bipush (v := nI 6) hx hb dX1_mostAlone_5 (by decide) ?_
  refine lv_imul hx hb dX1_mostAlone_7 ?_
  refine n_eq (pk_mul kd 6) ?_
  refine lv_iload_n hx hb dX1_mostAlone_8 rfl (lv_at hl 2 rfl) ?_
  refine lv_iadd hx hb dX1_mostAlone_9 ?_
  refine n_eq (nI_add (kd * 6) x) ?_
  refine h_iald (i := (kd * 6) + x) hx hb hI h6 (by omega) (by decide) dX1_mostAlone_10 ?_
  exact e_Ri hx hb hr rfl hlocks (rfl) dX1_mostAlone_11

/-- X1_setHolding -/
abbrev rm_c_X1_setHolding : Room := { frames := 0, cells := 0, slots := 0, locals := 0 }
set_option maxHeartbeats 4000000 in
set_option maxRecDepth 100000 in
theorem c_X1_setHolding (l : Launch) (G : GG) (z : Nat) (ad : Nat → Nat) (M : Mem) {ho : Nat → Bool} {kd : Nat} {b : Bool} (h3 : M 3 = some (cLaws ad )) (h7 : M 7 = some (aZ G 6 (bF ho))) (hkd : kd < 6) : Met l yX1_setHolding wsX1_setHolding rm_c_X1_setHolding (Pr G z ad M [.ref (ad 3), .int (nI kd), .int (bI b)]) (Ni G z ad (fun (r : Int32) (M' : Mem) => r = bI (decide (ho kd ≠ b)) ∧ M' 7 = some (aZ G 6 (bF (va_up ho kd b))) ∧ (∀ j : Nat, j ≠ 7 → M' j = M j))) 0 0 (fr z) := by
  refine Met.ofW (cc := cX1_setHolding) (maxL := 4) (ret := (some .boolean)) (by decide) rfl ?_
  intro p e s m args below meth c s₁ B hml hv
  obtain ⟨rfl, hv⟩ := hv
  have hI := Iv.entry hv
  have hx := B.exec
  have hb := B.bytes
  have hr := B.returns
  have hts := atoms_spec (ws := wsX1_setHolding) B.pre
  have hown : s.vm.findClass RX1 = some m.cls := findClass_of_methodNamed B.named
  have hlocks := B.notSynchronized
  have i_RX1 : ∀ w ∈ u_ws RX1 TX1 4, w ∈ wsX1_setHolding := fun w h => List.mem_cons_of_mem _ (iu_X1 w h)
  have f_21 := hts _ (List.mem_cons_of_mem _ (lwg_of t_64 rfl))
  have hl := lv_entry ([.ref (ad 3), .int (nI kd), .int (bI b)]) (n := 4) (Nat.le_of_ble_eq_true rfl)
  rw [lg_entry_eq]
  generalize (lg_sl ([.ref (ad 3), .int (nI kd), .int (bI b)]) ++ List.replicate (4 - (lg_sl ([.ref (ad 3), .int (nI kd), .int (bI b)])).length) Slot.unset).toArray = ls at hl ⊢
  have hl : lv_has ls 4 [(0, .ref (ad 3)), (1, .int (nI kd)), (2, .int (bI b))] := hl
  refine lv_aload_n hx hb dX1_setHolding_0 rfl (lv_at hl 0 rfl) ?_
  refine h_get (C := RX1) (T := TX1) (N := 4) hx hb hts i_RX1 hown hI h3 rfl 3 (by decide) f_21 rfl rfl dX1_setHolding_1 ?_
  refine lv_iload_n hx hb dX1_setHolding_4 rfl (lv_at hl 1 rfl) ?_
  refine h_zald (i := kd) hx hb hI h7 (by omega) (by decide) dX1_setHolding_5 ?_
  refine lv_iload_n hx hb dX1_setHolding_6 rfl (lv_at hl 2 rfl) ?_
  refine lv_icmp_eq (tgt := 14) hx hb dX1_setHolding_7 (by decide) (fun c_1 => ?_) (fun c_1 => ?_)
  · -- 7: bI (ho kd) eq
    have c_1 : ho kd = b := bI_inj c_1
    refine lv_iconst (v := nI 0) hx hb dX1_setHolding_14 (by decide) ?_
    refine lv_istore_n (lv' := [(3, .int (nI 0)), (0, .ref (ad 3)), (1, .int (nI kd)), (2, .int (bI b))]) hx hb dX1_setHolding_15 rfl hl (by decide) rfl (fun ls hl => ?_)
    refine lv_aload_n hx hb dX1_setHolding_16 rfl (lv_at hl 1 rfl) ?_
    refine h_get (C := RX1) (T := TX1) (N := 4) hx hb hts i_RX1 hown hI h3 rfl 3 (by decide) f_21 rfl rfl dX1_setHolding_17 ?_
    refine lv_iload_n hx hb dX1_setHolding_20 rfl (lv_at hl 2 rfl) ?_
    refine lv_iload_n hx hb dX1_setHolding_21 rfl (lv_at hl 3 rfl) ?_
    refine h_zast (i := kd) (x := bI b) hx hb hI h7 (by omega) (by decide) (bI_vnar _) dX1_setHolding_22 (fun M_2 H_3 locs_4 eM_5 hI => ?_)
    rw [upd_bF] at eM_5
    have hm_6 : M_2 3 = some (cLaws ad ) := by rw [eM_5, va_up_ne _ _ (by omega)]; exact h3
    have hm_7 : M_2 7 = some (aZ G 6 (bF (va_up ho kd b))) := by rw [eM_5]; exact va_up_self _ _ _
    have hF_8 : ∀ j : Nat, j ≠ 7 → M_2 j = M j := fun j q0 => by rw [eM_5, va_up_ne _ _ q0]
    refine lv_iload_n hx hb dX1_setHolding_23 rfl (lv_at hl 0 rfl) ?_
    exact e_Ni hx hb hr rfl hlocks hI ⟨dec_f (Decidable.not_not.mpr (by assumption)), hm_7, (fun j q0 => hF_8 j q0)⟩ dX1_setHolding_24
  · -- 7: bI (ho kd) ne
    have c_1 : ho kd ≠ b := (fun h => c_1 (congrArg bI h))
    refine lv_iconst (v := nI 1) hx hb dX1_setHolding_10 (by decide) ?_
    refine lv_goto (tgt := 15) hx hb dX1_setHolding_11 (by decide) ?_
    refine lv_istore_n (lv' := [(3, .int (nI 1)), (0, .ref (ad 3)), (1, .int (nI kd)), (2, .int (bI b))]) hx hb dX1_setHolding_15 rfl hl (by decide) rfl (fun ls hl => ?_)
    refine lv_aload_n hx hb dX1_setHolding_16 rfl (lv_at hl 1 rfl) ?_
    refine h_get (C := RX1) (T := TX1) (N := 4) hx hb hts i_RX1 hown hI h3 rfl 3 (by decide) f_21 rfl rfl dX1_setHolding_17 ?_
    refine lv_iload_n hx hb dX1_setHolding_20 rfl (lv_at hl 2 rfl) ?_
    refine lv_iload_n hx hb dX1_setHolding_21 rfl (lv_at hl 3 rfl) ?_
    refine h_zast (i := kd) (x := bI b) hx hb hI h7 (by omega) (by decide) (bI_vnar _) dX1_setHolding_22 (fun M_9 H_10 locs_11 eM_12 hI => ?_)
    rw [upd_bF] at eM_12
    have hm_13 : M_9 3 = some (cLaws ad ) := by rw [eM_12, va_up_ne _ _ (by omega)]; exact h3
    have hm_14 : M_9 7 = some (aZ G 6 (bF (va_up ho kd b))) := by rw [eM_12]; exact va_up_self _ _ _
    have hF_15 : ∀ j : Nat, j ≠ 7 → M_9 j = M j := fun j q0 => by rw [eM_12, va_up_ne _ _ q0]
    refine lv_iload_n hx hb dX1_setHolding_23 rfl (lv_at hl 0 rfl) ?_
    exact e_Ni hx hb hr rfl hlocks hI ⟨dec_t (by assumption), hm_14, (fun j q0 => hF_15 j q0)⟩ dX1_setHolding_24

/-- a line of kind kd with the roles rl has, of each role, as many ends as its law says -/
def alw (le mo : Nat → Nat) (rl : Nat → Nat) (sz kd n : Nat) : Prop := ∀ x, x < n → le (kd * 6 + x) ≤ cntR rl x sz ∧ cntR rl x sz ≤ mo (kd * 6 + x)

/-- X1_allowEnds -/
abbrev rm_c_X1_allowEnds : Room := { frames := 1, cells := 0, slots := 0, locals := 23 }
set_option maxHeartbeats 4000000 in
set_option maxRecDepth 100000 in
theorem c_X1_allowEnds (l : Launch) (G : GG) (z : Nat) (ad : Nat → Nat) (M : Mem) {k : Nat} {kd : Nat} {fm : Int32} {to : Int32} {sz : Nat} {rl : Nat → Nat} {le : Nat → Nat} {mo : Nat → Nat} (h3 : M 3 = some (cLaws ad )) (h4 : M 4 = some (aI G 36 (nF le))) (h5 : M 5 = some (aI G 36 (nF mo))) (hk : M k = some (cLine ad k kd fm to)) (he : M (k + 1) = some (cEnds ad (k + 1) sz)) (hr1 : M (k + 2) = some (aI G 6 (nF rl))) (hkd : kd < 6) (hsz : sz ≤ 6) (hrl : ∀ j, j < sz → rl j < 6) (hle : ∀ j, j < 36 → le j < 100) (hmo : ∀ j, j < 36 → mo j < 100) : Met l yX1_allowEnds wsX1_allowEnds rm_c_X1_allowEnds (Pr G z ad M [.ref (ad 3), .ref (ad k)]) (vp_Si (fun r : Int32 => ∃ b : Bool, r = bI b ∧ (b = true ↔ alw le mo rl sz kd 6))) 0 0 (fun _ => False) := by
  refine Met.ofW (cc := cX1_allowEnds) (maxL := 5) (ret := (some .boolean)) (by decide) rfl ?_
  intro p e s m args below meth c s₁ B hml hv
  obtain ⟨rfl, hv⟩ := hv
  have hI := Iv.entry hv
  have hx := B.exec
  have hb := B.bytes
  have hr := B.returns
  have hts := atoms_spec (ws := wsX1_allowEnds) B.pre
  have hown : s.vm.findClass RX1 = some m.cls := findClass_of_methodNamed B.named
  have hlocks := B.notSynchronized
  have i_RX2 : ∀ w ∈ u_ws RX2 TX2 4, w ∈ wsX1_allowEnds := fun w h => List.mem_cons_of_mem _ (iu_X2 w h)
  have i_RX1 : ∀ w ∈ u_ws RX1 TX1 4, w ∈ wsX1_allowEnds := fun w h => List.mem_cons_of_mem _ (iu_X1 w h)
  have f_9 := hts _ (List.mem_cons_of_mem _ (lwg_of t_61 rfl))
  have f_15 := hts _ (List.mem_cons_of_mem _ (lwg_of t_62 rfl))
  have hl := lv_entry ([.ref (ad 3), .ref (ad k)]) (n := 5) (Nat.le_of_ble_eq_true rfl)
  rw [lg_entry_eq]
  generalize (lg_sl ([.ref (ad 3), .ref (ad k)]) ++ List.replicate (5 - (lg_sl ([.ref (ad 3), .ref (ad k)])).length) Slot.unset).toArray = ls at hl ⊢
  have hl : lv_has ls 5 [(0, .ref (ad 3)), (1, .ref (ad k))] := hl
  refine w_q (fun Q hQ => ?_)
  refine lv_iconst (v := nI 0) hx hb dX1_allowEnds_0 (by decide) ?_
  refine lv_istore_n (lv' := [(2, .int (nI 0)), (0, .ref (ad 3)), (1, .ref (ad k))]) hx hb dX1_allowEnds_1 rfl hl (by decide) rfl (fun ls hl => ?_)
  have lp2_1 : ∀ (fuel : Nat) (i : Nat) (ls : Array Slot), (6 - i) < fuel → (i ≤ 6) → (alw le mo rl sz kd i) → lv_has ls 5 [(0, .ref (ad 3)), (1, .ref (ad k)), (2, .int (nI i))] → W p l e (headSpec wsX1_allowEnds rm_c_X1_allowEnds).room s m ([.ref (ad 3), .ref (ad k)] : List Value).toArray below meth c s.heap [] 0 0 Q (F0 m 2 ls []) := by
    intro fuel
    induction fuel with
    | zero => intro i ls hfu hi hno hl; exact absurd hfu (Nat.not_lt_zero _)
    | succ fuel ih_2 =>
      intro i ls hfu hi hno hl
      refine lv_iload_n hx hb dX1_allowEnds_2 rfl (lv_at hl 2 rfl) ?_
      refine lv_bipush (v := nI 6) hx hb dX1_allowEnds_3 (by decide) ?_
      refine lv_icmp_ge (tgt := 58) hx hb dX1_allowEnds_5 (by decide) (fun c_3 => ?_) (fun c_3 => ?_)
      · -- 5: nI i ge
        have c_3 : 6 ≤ i := (nI_leI (a := 6) (b := i) (by omega) (by omega)).mp (c_3)
        refine lv_iconst (v := nI 1) hx hb dX1_allowEnds_58 (by decide) ?_
        subst hQ
        exact e_Ri hx hb hr rfl hlocks (⟨true, rfl, ⟨fun _ => (by rw [show 6 = i by omega]; exact hno), fun _ => rfl⟩⟩) dX1_allowEnds_59
      · -- 5: nI i lt
        have c_3 : i < 6 := by have h := mt (nI_leI (a := 6) (b := i) (by omega) (by omega)).mpr c_3; omega
        refine lv_aload_n hx hb dX1_allowEnds_8 rfl (lv_at hl 1 rfl) ?_
        refine h_getN (C := RX2) (T := TX2) (N := 4) hx hb hts i_RX2 hown hI hk rfl 3 (by decide) (nwf_at (i := 4) (q := ("LineStore$Laws", 25, "LineStore$Line", "ends", "LLineStore$Ends;", "LineStore")) hI rfl) rfl rfl dX1_allowEnds_9 ?_
        refine lv_iload_n hx hb dX1_allowEnds_12 rfl (lv_at hl 2 rfl) ?_
        refine k_Ri (va_runV (As := [.int (nI i)]) (rest := []) ⟨hx, hb, hml, hown, hts⟩ (c_X0_inRole l G z ad M (k := k + 1) (sz := sz) (rl := rl) (x := i) he hr1 (by omega) (by omega) (by omega)) (cwV 1 hts (gV (lwg_of t_694 rfl) (lwg_of t_695 rfl) (lwg_of t_696 rfl) (lwg_of t_5 rfl) (lwg_of t_697 rfl)) rfl rfl rfl (by decide +kernel) ⟨Nat.le_of_ble_eq_true rfl, Nat.le_of_ble_eq_true rfl⟩) (hI.preV he rfl) rfl rfl hl.1 rfl (lv_room (Nat.le_of_ble_eq_true rfl)) dX1_allowEnds_13 ⟨Nat.le_of_ble_eq_true rfl, Nat.le_of_ble_eq_true rfl⟩) (fun _ h => h) (fun r_4 hp_5 => ?_)
        rw [hp_5]
        refine lv_istore_n (lv' := [(3, .int (nI (cntR rl i sz))), (0, .ref (ad 3)), (1, .ref (ad k)), (2, .int (nI i))]) hx hb dX1_allowEnds_16 rfl hl (by decide) rfl (fun ls hl => ?_)
        refine lv_aload_n hx hb dX1_allowEnds_17 rfl (lv_at hl 2 rfl) ?_
        refine h_getN (C := RX2) (T := TX2) (N := 4) hx hb hts i_RX2 hown hI hk rfl 0 (by decide) (nwf_at (i := 5) (q := ("LineStore$Laws", 37, "LineStore$Line", "kind", "I", "LineStore")) hI rfl) rfl rfl dX1_allowEnds_18 ?_
        refine lv_bipush (v := nI 6) hx hb dX1_allowEnds_21 (by decide) ?_
        refine lv_imul hx hb dX1_allowEnds_23 ?_
        refine n_eq (pk_mul kd 6) ?_
        refine lv_iload_n hx hb dX1_allowEnds_24 rfl (lv_at hl 3 rfl) ?_
        refine lv_iadd hx hb dX1_allowEnds_25 ?_
        refine n_eq (nI_add (kd * 6) i) ?_
        refine lv_istore (lv' := [(4, .int (nI ((kd * 6) + i))), (3, .int (nI (cntR rl i sz))), (0, .ref (ad 3)), (1, .ref (ad k)), (2, .int (nI i))]) hx hb dX1_allowEnds_26 hl (by decide) rfl (fun ls hl => ?_)
        have hcn := cntR_le rl i sz
        have hl1 := hle (kd * 6 + i) (by omega)
        have hm1 := hmo (kd * 6 + i) (by omega)
        refine lv_iload_n hx hb dX1_allowEnds_28 rfl (lv_at hl 1 rfl) ?_
        refine lv_aload_n hx hb dX1_allowEnds_29 rfl (lv_at hl 2 rfl) ?_
        refine h_get (C := RX1) (T := TX1) (N := 4) hx hb hts i_RX1 hown hI h3 rfl 0 (by decide) f_9 rfl rfl dX1_allowEnds_30 ?_
        refine lv_iload hx hb dX1_allowEnds_33 (lv_at hl 0 rfl) ?_
        refine h_iald (i := (kd * 6) + i) hx hb hI h4 (by omega) (by decide) dX1_allowEnds_35 ?_
        refine lv_icmp_lt (tgt := 50) hx hb dX1_allowEnds_36 (by decide) (fun c_6 => ?_) (fun c_6 => ?_)
        · -- 36: nI (cntR rl i sz) lt
          have c_6 : cntR rl i sz < le ((kd * 6) + i) := (nI_ltI (a := cntR rl i sz) (b := le ((kd * 6) + i)) (by omega) (by omega)).mp (c_6)
          refine lv_iconst (v := nI 0) hx hb dX1_allowEnds_50 (by decide) ?_
          subst hQ
          exact e_Ri hx hb hr rfl hlocks (⟨false, rfl, ⟨fun h => absurd h Bool.false_ne_true, fun h => (by have := h i (by omega); omega)⟩⟩) dX1_allowEnds_51
        · -- 36: nI (cntR rl i sz) ge
          have c_6 : le ((kd * 6) + i) ≤ cntR rl i sz := by have h := mt (nI_ltI (a := cntR rl i sz) (b := le ((kd * 6) + i)) (by omega) (by omega)).mpr c_6; omega
          refine lv_iload_n hx hb dX1_allowEnds_39 rfl (lv_at hl 1 rfl) ?_
          refine lv_aload_n hx hb dX1_allowEnds_40 rfl (lv_at hl 2 rfl) ?_
          refine h_get (C := RX1) (T := TX1) (N := 4) hx hb hts i_RX1 hown hI h3 rfl 1 (by decide) f_15 rfl rfl dX1_allowEnds_41 ?_
          refine lv_iload hx hb dX1_allowEnds_44 (lv_at hl 0 rfl) ?_
          refine h_iald (i := (kd * 6) + i) hx hb hI h5 (by omega) (by decide) dX1_allowEnds_46 ?_
          refine lv_icmp_le (tgt := 52) hx hb dX1_allowEnds_47 (by decide) (fun c_7 => ?_) (fun c_7 => ?_)
          · -- 47: nI (cntR rl i sz) le
            have c_7 : cntR rl i sz ≤ mo ((kd * 6) + i) := (nI_leI (a := cntR rl i sz) (b := mo ((kd * 6) + i)) (by omega) (by omega)).mp (c_7)
            refine lv_iinc (v := nI (i + 1)) (lv' := [(2, .int (nI (i + 1))), (4, .int (nI ((kd * 6) + i))), (3, .int (nI (cntR rl i sz))), (0, .ref (ad 3)), (1, .ref (ad k))]) hx hb dX1_allowEnds_52 hl (k := 4) rfl (nI_add i 1) (by decide) rfl (fun ls hl => ?_)
            refine lv_goto (tgt := 2) hx hb dX1_allowEnds_55 (by decide) ?_
            exact ih_2 (i + 1) ls (by omega) (by omega) (lt_s2 hno ⟨by assumption, by assumption⟩) (lv_sub hl [3, 4, 0] rfl)
          · -- 47: nI (cntR rl i sz) gt
            have c_7 : mo ((kd * 6) + i) < cntR rl i sz := by have h := mt (nI_leI (a := cntR rl i sz) (b := mo ((kd * 6) + i)) (by omega) (by omega)).mpr c_7; omega
            refine lv_iconst (v := nI 0) hx hb dX1_allowEnds_50 (by decide) ?_
            subst hQ
            exact e_Ri hx hb hr rfl hlocks (⟨false, rfl, ⟨fun h => absurd h Bool.false_ne_true, fun h => (by have := h i (by omega); omega)⟩⟩) dX1_allowEnds_51
  exact lp2_1 ((6 - 0) + 1) 0 ls (Nat.lt_succ_self _) (by omega) (fun j hj => absurd hj (Nat.not_lt_zero j)) (lv_sub hl [1, 2, 0] rfl)

/-- X2_isInForce -/
abbrev rm_c_X2_isInForce : Room := { frames := 0, cells := 0, slots := 0, locals := 0 }
set_option maxHeartbeats 4000000 in
set_option maxRecDepth 100000 in
theorem c_X2_isInForce (l : Launch) (G : GG) (z : Nat) (ad : Nat → Nat) (M : Mem) {k : Nat} {kd : Nat} {fm : Int32} {to : Int32} {d : Int32} (hk : M k = some (cLine ad k kd fm to))  : Met l yX2_isInForce wsX2_isInForce rm_c_X2_isInForce (Pr G z ad M [.ref (ad k), .int d]) (vp_Si (fun r : Int32 => r = bI (decide (fm ≤ d ∧ d ≤ to)))) 0 0 (fun _ => False) := by
  refine Met.ofW (cc := cX2_isInForce) (maxL := 2) (ret := (some .boolean)) (by decide) rfl ?_
  intro p e s m args below meth c s₁ B hml hv
  obtain ⟨rfl, hv⟩ := hv
  have hI := Iv.entry hv
  have hx := B.exec
  have hb := B.bytes
  have hr := B.returns
  have hts := atoms_spec (ws := wsX2_isInForce) B.pre
  have hown : s.vm.findClass RX2 = some m.cls := findClass_of_methodNamed B.named
  have hlocks := B.notSynchronized
  have i_RX2 : ∀ w ∈ u_ws RX2 TX2 4, w ∈ wsX2_isInForce := fun w h => List.mem_cons_of_mem _ (iu_X2 w h)
  have f_13 := hts _ (List.mem_cons_of_mem _ (lwg_of t_662 rfl))
  have f_16 := hts _ (List.mem_cons_of_mem _ (lwg_of t_665 rfl))
  have hl := lv_entry ([.ref (ad k), .int d]) (n := 2) (Nat.le_of_ble_eq_true rfl)
  rw [lg_entry_eq]
  generalize (lg_sl ([.ref (ad k), .int d]) ++ List.replicate (2 - (lg_sl ([.ref (ad k), .int d])).length) Slot.unset).toArray = ls at hl ⊢
  have hl : lv_has ls 2 [(0, .ref (ad k)), (1, .int d)] := hl
  refine lv_aload_n hx hb dX2_isInForce_0 rfl (lv_at hl 0 rfl) ?_
  refine h_get (C := RX2) (T := TX2) (N := 4) hx hb hts i_RX2 hown hI hk rfl 1 (by decide) f_13 rfl rfl dX2_isInForce_1 ?_
  refine lv_iload_n hx hb dX2_isInForce_4 rfl (lv_at hl 1 rfl) ?_
  refine lv_icmp_gt (tgt := 20) hx hb dX2_isInForce_5 (by decide) (fun c_1 => ?_) (fun c_1 => ?_)
  · -- 5: fm gt
    refine lv_iconst (v := nI 0) hx hb dX2_isInForce_20 (by decide) ?_
    exact e_Ri hx hb hr rfl hlocks (dec_f (fun h => by first | exact i_lnle (by assumption) h.1 | exact i_lnle (by assumption) h.2)) dX2_isInForce_21
  · -- 5: fm le
    refine lv_iload_n hx hb dX2_isInForce_8 rfl (lv_at hl 1 rfl) ?_
    refine lv_aload_n hx hb dX2_isInForce_9 rfl (lv_at hl 0 rfl) ?_
    refine h_get (C := RX2) (T := TX2) (N := 4) hx hb hts i_RX2 hown hI hk rfl 2 (by decide) f_16 rfl rfl dX2_isInForce_10 ?_
    refine lv_icmp_gt (tgt := 20) hx hb dX2_isInForce_13 (by decide) (fun c_2 => ?_) (fun c_2 => ?_)
    · -- 13: d gt
      refine lv_iconst (v := nI 0) hx hb dX2_isInForce_20 (by decide) ?_
      exact e_Ri hx hb hr rfl hlocks (dec_f (fun h => by first | exact i_lnle (by assumption) h.1 | exact i_lnle (by assumption) h.2)) dX2_isInForce_21
    · -- 13: d le
      refine lv_iconst (v := nI 1) hx hb dX2_isInForce_16 (by decide) ?_
      refine lv_goto (tgt := 21) hx hb dX2_isInForce_17 (by decide) ?_
      exact e_Ri hx hb hr rfl hlocks (dec_t (⟨i_nlt (by assumption), i_nlt (by assumption)⟩)) dX2_isInForce_21

/-- X2_isInForceOnOrAfter -/
abbrev rm_c_X2_isInForceOnOrAfter : Room := { frames := 0, cells := 0, slots := 0, locals := 0 }
set_option maxHeartbeats 4000000 in
set_option maxRecDepth 100000 in
theorem c_X2_isInForceOnOrAfter (l : Launch) (G : GG) (z : Nat) (ad : Nat → Nat) (M : Mem) {k : Nat} {kd : Nat} {fm : Int32} {to : Int32} {d : Int32} (hk : M k = some (cLine ad k kd fm to))  : Met l yX2_isInForceOnOrAfter wsX2_isInForceOnOrAfter rm_c_X2_isInForceOnOrAfter (Pr G z ad M [.ref (ad k), .int d]) (vp_Si (fun r : Int32 => r = bI (decide (fm ≤ to ∧ d ≤ to)))) 0 0 (fun _ => False) := by
  refine Met.ofW (cc := cX2_isInForceOnOrAfter) (maxL := 2) (ret := (some .boolean)) (by decide) rfl ?_
  intro p e s m args below meth c s₁ B hml hv
  obtain ⟨rfl, hv⟩ := hv
  have hI := Iv.entry hv
  have hx := B.exec
  have hb := B.bytes
  have hr := B.returns
  have hts := atoms_spec (ws := wsX2_isInForceOnOrAfter) B.pre
  have hown : s.vm.findClass RX2 = some m.cls := findClass_of_methodNamed B.named
  have hlocks := B.notSynchronized
  have i_RX2 : ∀ w ∈ u_ws RX2 TX2 4, w ∈ wsX2_isInForceOnOrAfter := fun w h => List.mem_cons_of_mem _ (iu_X2 w h)
  have f_13 := hts _ (List.mem_cons_of_mem _ (lwg_of t_662 rfl))
  have f_16 := hts _ (List.mem_cons_of_mem _ (lwg_of t_665 rfl))
  have hl := lv_entry ([.ref (ad k), .int d]) (n := 2) (Nat.le_of_ble_eq_true rfl)
  rw [lg_entry_eq]
  generalize (lg_sl ([.ref (ad k), .int d]) ++ List.replicate (2 - (lg_sl ([.ref (ad k), .int d])).length) Slot.unset).toArray = ls at hl ⊢
  have hl : lv_has ls 2 [(0, .ref (ad k)), (1, .int d)] := hl
  refine lv_aload_n hx hb dX2_isInForceOnOrAfter_0 rfl (lv_at hl 0 rfl) ?_
  refine h_get (C := RX2) (T := TX2) (N := 4) hx hb hts i_RX2 hown hI hk rfl 1 (by decide) f_13 rfl rfl dX2_isInForceOnOrAfter_1 ?_
  refine lv_aload_n hx hb dX2_isInForceOnOrAfter_4 rfl (lv_at hl 0 rfl) ?_
  refine h_get (C := RX2) (T := TX2) (N := 4) hx hb hts i_RX2 hown hI hk rfl 2 (by decide) f_16 rfl rfl dX2_isInForceOnOrAfter_5 ?_
  refine lv_icmp_gt (tgt := 23) hx hb dX2_isInForceOnOrAfter_8 (by decide) (fun c_1 => ?_) (fun c_1 => ?_)
  · -- 8: fm gt
    refine lv_iconst (v := nI 0) hx hb dX2_isInForceOnOrAfter_23 (by decide) ?_
    exact e_Ri hx hb hr rfl hlocks (dec_f (fun h => by first | exact i_lnle (by assumption) h.1 | exact i_lnle (by assumption) h.2)) dX2_isInForceOnOrAfter_24
  · -- 8: fm le
    refine lv_iload_n hx hb dX2_isInForceOnOrAfter_11 rfl (lv_at hl 1 rfl) ?_
    refine lv_aload_n hx hb dX2_isInForceOnOrAfter_12 rfl (lv_at hl 0 rfl) ?_
    refine h_get (C := RX2) (T := TX2) (N := 4) hx hb hts i_RX2 hown hI hk rfl 2 (by decide) f_16 rfl rfl dX2_isInForceOnOrAfter_13 ?_
    refine lv_icmp_gt (tgt := 23) hx hb dX2_isInForceOnOrAfter_16 (by decide) (fun c_2 => ?_) (fun c_2 => ?_)
    · -- 16: d gt
      refine lv_iconst (v := nI 0) hx hb dX2_isInForceOnOrAfter_23 (by decide) ?_
      exact e_Ri hx hb hr rfl hlocks (dec_f (fun h => by first | exact i_lnle (by assumption) h.1 | exact i_lnle (by assumption) h.2)) dX2_isInForceOnOrAfter_24
    · -- 16: d le
      refine lv_iconst (v := nI 1) hx hb dX2_isInForceOnOrAfter_19 (by decide) ?_
      refine lv_goto (tgt := 24) hx hb dX2_isInForceOnOrAfter_20 (by decide) ?_
      exact e_Ri hx hb hr rfl hlocks (dec_t (⟨i_nlt (by assumption), i_nlt (by assumption)⟩)) dX2_isInForceOnOrAfter_24

/-- X2_isInForceThrough -/
abbrev rm_c_X2_isInForceThrough : Room := { frames := 0, cells := 0, slots := 0, locals := 0 }
set_option maxHeartbeats 4000000 in
set_option maxRecDepth 100000 in
theorem c_X2_isInForceThrough (l : Launch) (G : GG) (z : Nat) (ad : Nat → Nat) (M : Mem) {k : Nat} {kd : Nat} {fm : Int32} {to : Int32} {a : Int32} {b : Int32} (hk : M k = some (cLine ad k kd fm to))  : Met l yX2_isInForceThrough wsX2_isInForceThrough rm_c_X2_isInForceThrough (Pr G z ad M [.ref (ad k), .int a, .int b]) (vp_Si (fun r : Int32 => r = bI (decide (fm ≤ a ∧ b ≤ to)))) 0 0 (fun _ => False) := by
  refine Met.ofW (cc := cX2_isInForceThrough) (maxL := 3) (ret := (some .boolean)) (by decide) rfl ?_
  intro p e s m args below meth c s₁ B hml hv
  obtain ⟨rfl, hv⟩ := hv
  have hI := Iv.entry hv
  have hx := B.exec
  have hb := B.bytes
  have hr := B.returns
  have hts := atoms_spec (ws := wsX2_isInForceThrough) B.pre
  have hown : s.vm.findClass RX2 = some m.cls := findClass_of_methodNamed B.named
  have hlocks := B.notSynchronized
  have i_RX2 : ∀ w ∈ u_ws RX2 TX2 4, w ∈ wsX2_isInForceThrough := fun w h => List.mem_cons_of_mem _ (iu_X2 w h)
  have f_13 := hts _ (List.mem_cons_of_mem _ (lwg_of t_662 rfl))
  have f_16 := hts _ (List.mem_cons_of_mem _ (lwg_of t_665 rfl))
  have hl := lv_entry ([.ref (ad k), .int a, .int b]) (n := 3) (Nat.le_of_ble_eq_true rfl)
  rw [lg_entry_eq]
  generalize (lg_sl ([.ref (ad k), .int a, .int b]) ++ List.replicate (3 - (lg_sl ([.ref (ad k), .int a, .int b])).length) Slot.unset).toArray = ls at hl ⊢
  have hl : lv_has ls 3 [(0, .ref (ad k)), (1, .int a), (2, .int b)] := hl
  refine lv_aload_n hx hb dX2_isInForceThrough_0 rfl (lv_at hl 0 rfl) ?_
  refine h_get (C := RX2) (T := TX2) (N := 4) hx hb hts i_RX2 hown hI hk rfl 1 (by decide) f_13 rfl rfl dX2_isInForceThrough_1 ?_
  refine lv_iload_n hx hb dX2_isInForceThrough_4 rfl (lv_at hl 1 rfl) ?_
  refine lv_icmp_gt (tgt := 20) hx hb dX2_isInForceThrough_5 (by decide) (fun c_1 => ?_) (fun c_1 => ?_)
  · -- 5: fm gt
    refine lv_iconst (v := nI 0) hx hb dX2_isInForceThrough_20 (by decide) ?_
    exact e_Ri hx hb hr rfl hlocks (dec_f (fun h => by first | exact i_lnle (by assumption) h.1 | exact i_lnle (by assumption) h.2)) dX2_isInForceThrough_21
  · -- 5: fm le
    refine lv_iload_n hx hb dX2_isInForceThrough_8 rfl (lv_at hl 2 rfl) ?_
    refine lv_aload_n hx hb dX2_isInForceThrough_9 rfl (lv_at hl 0 rfl) ?_
    refine h_get (C := RX2) (T := TX2) (N := 4) hx hb hts i_RX2 hown hI hk rfl 2 (by decide) f_16 rfl rfl dX2_isInForceThrough_10 ?_
    refine lv_icmp_gt (tgt := 20) hx hb dX2_isInForceThrough_13 (by decide) (fun c_2 => ?_) (fun c_2 => ?_)
    · -- 13: b gt
      refine lv_iconst (v := nI 0) hx hb dX2_isInForceThrough_20 (by decide) ?_
      exact e_Ri hx hb hr rfl hlocks (dec_f (fun h => by first | exact i_lnle (by assumption) h.1 | exact i_lnle (by assumption) h.2)) dX2_isInForceThrough_21
    · -- 13: b le
      refine lv_iconst (v := nI 1) hx hb dX2_isInForceThrough_16 (by decide) ?_
      refine lv_goto (tgt := 21) hx hb dX2_isInForceThrough_17 (by decide) ?_
      exact e_Ri hx hb hr rfl hlocks (dec_t (⟨i_nlt (by assumption), i_nlt (by assumption)⟩)) dX2_isInForceThrough_21

/-- X2_isInForceWithin -/
abbrev rm_c_X2_isInForceWithin : Room := { frames := 1, cells := 0, slots := 0, locals := 30 }
set_option maxHeartbeats 4000000 in
set_option maxRecDepth 100000 in
theorem c_X2_isInForceWithin (l : Launch) (G : GG) (z : Nat) (ad : Nat → Nat) (M : Mem) {k : Nat} {kd : Nat} {fm : Int32} {to : Int32} {a : Int32} {b : Int32} (hk : M k = some (cLine ad k kd fm to))  : Met l yX2_isInForceWithin wsX2_isInForceWithin rm_c_X2_isInForceWithin (Pr G z ad M [.ref (ad k), .int a, .int b]) (vp_Si (fun r : Int32 => r = bI (decide ((if fm < a then a else fm) ≤ (if b < to then b else to))))) 0 0 (fun _ => False) := by
  refine Met.ofW (cc := cX2_isInForceWithin) (maxL := 3) (ret := (some .boolean)) (by decide) rfl ?_
  intro p e s m args below meth c s₁ B hml hv
  obtain ⟨rfl, hv⟩ := hv
  have hI := Iv.entry hv
  have hx := B.exec
  have hb := B.bytes
  have hr := B.returns
  have hts := atoms_spec (ws := wsX2_isInForceWithin) B.pre
  have hown : s.vm.findClass RX2 = some m.cls := findClass_of_methodNamed B.named
  have hlocks := B.notSynchronized
  have i_RX2 : ∀ w ∈ u_ws RX2 TX2 4, w ∈ wsX2_isInForceWithin := fun w h => List.mem_cons_of_mem _ (iu_X2 w h)
  have f_13 := hts _ (List.mem_cons_of_mem _ (lwg_of t_662 rfl))
  have m_23 := hts _ (List.mem_cons_of_mem _ (lwg_of t_736 rfl))
  have s_mmax := hts _ (List.mem_cons_of_mem _ (lwg_of t_737 rfl))
  have s_mi := hts _ (List.mem_cons_of_mem _ (lwg_of t_14 rfl))
  have s_mcmax := hts _ (List.mem_cons_of_mem _ (lwg_of t_738 rfl))
  have f_16 := hts _ (List.mem_cons_of_mem _ (lwg_of t_665 rfl))
  have m_29 := hts _ (List.mem_cons_of_mem _ (lwg_of t_739 rfl))
  have s_mmin := hts _ (List.mem_cons_of_mem _ (lwg_of t_740 rfl))
  have s_mcmin := hts _ (List.mem_cons_of_mem _ (lwg_of t_741 rfl))
  have hl := lv_entry ([.ref (ad k), .int a, .int b]) (n := 3) (Nat.le_of_ble_eq_true rfl)
  rw [lg_entry_eq]
  generalize (lg_sl ([.ref (ad k), .int a, .int b]) ++ List.replicate (3 - (lg_sl ([.ref (ad k), .int a, .int b])).length) Slot.unset).toArray = ls at hl ⊢
  have hl : lv_has ls 3 [(0, .ref (ad k)), (1, .int a), (2, .int b)] := hl
  refine lv_aload_n hx hb dX2_isInForceWithin_0 rfl (lv_at hl 0 rfl) ?_
  refine h_get (C := RX2) (T := TX2) (N := 4) hx hb hts i_RX2 hown hI hk rfl 1 (by decide) f_13 rfl rfl dX2_isInForceWithin_1 ?_
  refine lv_iload_n hx hb dX2_isInForceWithin_4 rfl (lv_at hl 1 rfl) ?_
  refine va_mmax hx hb (by rw [hml]; exact hl.1.symm) hown m_23 s_mmax s_mi s_mcmax (Nat.le_of_ble_eq_true rfl) (Nat.le_of_ble_eq_true rfl) (Nat.le_of_ble_eq_true rfl) (Nat.le_of_ble_eq_true rfl) dX2_isInForceWithin_5 ?_
  refine lv_aload_n hx hb dX2_isInForceWithin_8 rfl (lv_at hl 0 rfl) ?_
  refine h_get (C := RX2) (T := TX2) (N := 4) hx hb hts i_RX2 hown hI hk rfl 2 (by decide) f_16 rfl rfl dX2_isInForceWithin_9 ?_
  refine lv_iload_n hx hb dX2_isInForceWithin_12 rfl (lv_at hl 2 rfl) ?_
  refine va_mmin hx hb (by rw [hml]; exact hl.1.symm) hown m_29 s_mmin s_mi s_mcmin (Nat.le_of_ble_eq_true rfl) (Nat.le_of_ble_eq_true rfl) (Nat.le_of_ble_eq_true rfl) (Nat.le_of_ble_eq_true rfl) dX2_isInForceWithin_13 ?_
  refine lv_icmp_gt (tgt := 23) hx hb dX2_isInForceWithin_16 (by decide) (fun c_1 => ?_) (fun c_1 => ?_)
  · -- 16: if fm < a then a else fm gt
    refine lv_iconst (v := nI 0) hx hb dX2_isInForceWithin_23 (by decide) ?_
    exact e_Ri hx hb hr rfl hlocks (dec_f (i_lnle (by assumption))) dX2_isInForceWithin_24
  · -- 16: if fm < a then a else fm le
    refine lv_iconst (v := nI 1) hx hb dX2_isInForceWithin_19 (by decide) ?_
    refine lv_goto (tgt := 24) hx hb dX2_isInForceWithin_20 (by decide) ?_
    exact e_Ri hx hb hr rfl hlocks (dec_t (i_nlt (by assumption))) dX2_isInForceWithin_24

/-- lst is what hg says: a thing that hangs on itself counts as itself, another one as what it hangs on -/
def isRt (hg lst : Nat → Nat) (n : Nat) : Prop := ∀ t, t < n → lst t = if hg t = t then t else lst (hg t)
theorem isRt_s {hg g : Nat → Nat} {i v : Nat} (h : isRt hg g i) (hh : ∀ t, t ≤ i → hg t ≤ t) (hv : v = if hg i = i then i else g (hg i)) : isRt hg (va_up g i v) (i + 1) := by
  intro t ht
  by_cases hi : t = i
  · subst hi
    rw [va_up_self, hv]
    by_cases h2 : hg t = t
    · rw [if_pos h2, if_pos h2]
    · rw [if_neg h2, if_neg h2, va_up_ne _ _ h2]
  · have h1 := hh t (by omega)
    rw [va_up_ne _ _ hi, va_up_ne _ _ (by omega)]
    exact h t (by omega)

/-- X5_joins -/
abbrev rm_c_X5_joins : Room := { frames := 0, cells := 0, slots := 0, locals := 0 }
set_option maxHeartbeats 4000000 in
set_option maxRecDepth 100000 in
theorem c_X5_joins (l : Launch) (G : GG) (z : Nat) (ad : Nat → Nat) (M : Mem) {jn : Nat} (h8 : M 8 = some (cOnes ad jn))  : Met l yX5_joins wsX5_joins rm_c_X5_joins (Pr G z ad M [.ref (ad 8)]) (vp_Si (fun r : Int32 => r = nI jn)) 0 0 (fun _ => False) := by
  refine Met.ofW (cc := cX5_joins) (maxL := 1) (ret := (some .int)) (by decide) rfl ?_
  intro p e s m args below meth c s₁ B hml hv
  obtain ⟨rfl, hv⟩ := hv
  have hI := Iv.entry hv
  have hx := B.exec
  have hb := B.bytes
  have hr := B.returns
  have hts := atoms_spec (ws := wsX5_joins) B.pre
  have hown : s.vm.findClass RX5 = some m.cls := findClass_of_methodNamed B.named
  have hlocks := B.notSynchronized
  have i_RX5 : ∀ w ∈ u_ws RX5 TX5 4, w ∈ wsX5_joins := fun w h => List.mem_cons_of_mem _ (iu_X5 w h)
  have f_21 := hts _ (List.mem_cons_of_mem _ (lwg_of t_84 rfl))
  have hl := lv_entry ([.ref (ad 8)]) (n := 1) (Nat.le_of_ble_eq_true rfl)
  rw [lg_entry_eq]
  generalize (lg_sl ([.ref (ad 8)]) ++ List.replicate (1 - (lg_sl ([.ref (ad 8)])).length) Slot.unset).toArray = ls at hl ⊢
  have hl : lv_has ls 1 [(0, .ref (ad 8))] := hl
  refine lv_aload_n hx hb dX5_joins_0 rfl (lv_at hl 0 rfl) ?_
  refine h_get (C := RX5) (T := TX5) (N := 4) hx hb hts i_RX5 hown hI h8 rfl 3 (by decide) f_21 rfl rfl dX5_joins_1 ?_
  exact e_Ri hx hb hr rfl hlocks (rfl) dX5_joins_4

/-- X5_renewLeast -/
abbrev rm_c_X5_renewLeast : Room := { frames := 0, cells := 0, slots := 0, locals := 0 }
set_option maxHeartbeats 4000000 in
set_option maxRecDepth 100000 in
theorem c_X5_renewLeast (l : Launch) (G : GG) (z : Nat) (ad : Nat → Nat) (M : Mem) {jn : Nat} {hg : Nat → Nat} {lst : Nat → Nat} (h8 : M 8 = some (cOnes ad jn)) (h9 : M 9 = some (aI G 40 (nF hg))) (h10 : M 10 = some (aI G 40 (nF lst))) (hhg : ∀ t, t < 40 → hg t ≤ t) : Met l yX5_renewLeast wsX5_renewLeast rm_c_X5_renewLeast (Pr G z ad M [.ref (ad 8)]) (Nv G z ad (fun (M' : Mem) => ∃ l2 : Nat → Nat, M' 10 = some (aI G 40 (nF l2)) ∧ (∀ j : Nat, j ≠ 10 → M' j = M j) ∧ isRt hg l2 40)) 0 0 (fr z) := by
  refine Met.ofW (cc := cX5_renewLeast) (maxL := 3) (ret := none) (by decide) rfl ?_
  intro p e s m args below meth c s₁ B hml hv
  obtain ⟨rfl, hv⟩ := hv
  have hI := Iv.entry hv
  have hx := B.exec
  have hb := B.bytes
  have hr := B.returns
  have hts := atoms_spec (ws := wsX5_renewLeast) B.pre
  have hown : s.vm.findClass RX5 = some m.cls := findClass_of_methodNamed B.named
  have hlocks := B.notSynchronized
  have i_RX5 : ∀ w ∈ u_ws RX5 TX5 4, w ∈ wsX5_renewLeast := fun w h => List.mem_cons_of_mem _ (iu_X5 w h)
  have f_9 := hts _ (List.mem_cons_of_mem _ (lwg_of t_81 rfl))
  have f_15 := hts _ (List.mem_cons_of_mem _ (lwg_of t_82 rfl))
  have hl := lv_entry ([.ref (ad 8)]) (n := 3) (Nat.le_of_ble_eq_true rfl)
  rw [lg_entry_eq]
  generalize (lg_sl ([.ref (ad 8)]) ++ List.replicate (3 - (lg_sl ([.ref (ad 8)])).length) Slot.unset).toArray = ls at hl ⊢
  have hl : lv_has ls 3 [(0, .ref (ad 8))] := hl
  refine w_q (fun Q hQ => ?_)
  refine lv_iconst (v := nI 0) hx hb dX5_renewLeast_0 (by decide) ?_
  refine lv_istore_n (lv' := [(1, .int (nI 0)), (0, .ref (ad 8))]) hx hb dX5_renewLeast_1 rfl hl (by decide) rfl (fun ls hl => ?_)
  have lp2_1 : ∀ (fuel : Nat) (i : Nat) (g : Nat → Nat) (Mx : Mem) (Hx : Heap) (locsx : List Loc) (ls : Array Slot), (40 - i) < fuel → (i ≤ 40) → (isRt hg g i) → Iv G z ad Mx s Hx locsx → Mx 10 = some (aI G 40 (nF g)) → (∀ j : Nat, j ≠ 10 → Mx j = M j) → lv_has ls 3 [(0, .ref (ad 8)), (1, .int (nI i))] → W p l e (headSpec wsX5_renewLeast rm_c_X5_renewLeast).room s m ([.ref (ad 8)] : List Value).toArray below meth c Hx locsx 0 0 Q (F0 m 2 ls []) := by
    intro fuel
    induction fuel with
    | zero => intro i g Mx Hx locsx ls hfu hi hg1 hI hm_2 hF_3 hl; exact absurd hfu (Nat.not_lt_zero _)
    | succ fuel ih_4 =>
      intro i g Mx Hx locsx ls hfu hi hg1 hI hm_2 hF_3 hl
      have hm_5 : Mx 8 = some (cOnes ad jn) := by rw [hF_3 8 (by omega)]; exact h8
      have hm_6 : Mx 9 = some (aI G 40 (nF hg)) := by rw [hF_3 9 (by omega)]; exact h9
      refine lv_iload_n hx hb dX5_renewLeast_2 rfl (lv_at hl 1 rfl) ?_
      refine lv_bipush (v := nI 40) hx hb dX5_renewLeast_3 (by decide) ?_
      refine lv_icmp_ge (tgt := 42) hx hb dX5_renewLeast_5 (by decide) (fun c_7 => ?_) (fun c_7 => ?_)
      · -- 5: nI i ge
        have c_7 : 40 ≤ i := (nI_leI (a := 40) (b := i) (by omega) (by omega)).mp (c_7)
        subst hQ
        exact e_Nv hx hb hr hlocks hI ⟨g, hm_2, (fun j q0 => hF_3 j q0), (by rw [show 40 = i by omega]; exact hg1)⟩ dX5_renewLeast_42
      · -- 5: nI i lt
        have c_7 : i < 40 := by have h := mt (nI_leI (a := 40) (b := i) (by omega) (by omega)).mpr c_7; omega
        have hhi := hhg i (by omega)
        refine lv_aload_n hx hb dX5_renewLeast_8 rfl (lv_at hl 0 rfl) ?_
        refine h_get (C := RX5) (T := TX5) (N := 4) hx hb hts i_RX5 hown hI hm_5 rfl 0 (by decide) f_9 rfl rfl dX5_renewLeast_9 ?_
        refine lv_iload_n hx hb dX5_renewLeast_12 rfl (lv_at hl 1 rfl) ?_
        refine h_iald (i := i) hx hb hI hm_6 (by omega) (by decide) dX5_renewLeast_13 ?_
        refine lv_istore_n (lv' := [(2, .int (nI (hg i))), (0, .ref (ad 8)), (1, .int (nI i))]) hx hb dX5_renewLeast_14 rfl hl (by decide) rfl (fun ls hl => ?_)
        refine lv_aload_n hx hb dX5_renewLeast_15 rfl (lv_at hl 1 rfl) ?_
        refine h_get (C := RX5) (T := TX5) (N := 4) hx hb hts i_RX5 hown hI hm_5 rfl 1 (by decide) f_15 rfl rfl dX5_renewLeast_16 ?_
        refine lv_iload_n hx hb dX5_renewLeast_19 rfl (lv_at hl 2 rfl) ?_
        refine lv_iload_n hx hb dX5_renewLeast_20 rfl (lv_at hl 0 rfl) ?_
        refine lv_iload_n hx hb dX5_renewLeast_21 rfl (lv_at hl 2 rfl) ?_
        refine lv_icmp_ne (tgt := 29) hx hb dX5_renewLeast_22 (by decide) (fun c_8 => ?_) (fun c_8 => ?_)
        · -- 22: nI (hg i) ne
          have c_8 : hg i ≠ i := by have h := mt (nI_eq (a := hg i) (b := i) (by omega) (by omega)).mpr c_8; omega
          refine lv_aload_n hx hb dX5_renewLeast_29 rfl (lv_at hl 1 rfl) ?_
          refine h_get (C := RX5) (T := TX5) (N := 4) hx hb hts i_RX5 hown hI hm_5 rfl 1 (by decide) f_15 rfl rfl dX5_renewLeast_30 ?_
          refine lv_iload_n hx hb dX5_renewLeast_33 rfl (lv_at hl 0 rfl) ?_
          refine h_iald (i := hg i) hx hb hI hm_2 (by omega) (by decide) dX5_renewLeast_34 ?_
          refine h_iast (i := i) (x := nI (g (hg i))) hx hb hI hm_2 (by omega) (by decide) dX5_renewLeast_35 (fun M_9 H_10 locs_11 eM_12 hI => ?_)
          rw [upd_nF] at eM_12
          have hm_13 : M_9 8 = some (cOnes ad jn) := by rw [eM_12, va_up_ne _ _ (by omega)]; exact hm_5
          have hm_14 : M_9 9 = some (aI G 40 (nF hg)) := by rw [eM_12, va_up_ne _ _ (by omega)]; exact hm_6
          have hm_15 : M_9 10 = some (aI G 40 (nF (va_up g i (g (hg i))))) := by rw [eM_12]; exact va_up_self _ _ _
          have hF_16 : ∀ j : Nat, j ≠ 10 → M_9 j = M j := fun j q0 => by rw [eM_12, va_up_ne _ _ q0]; exact hF_3 j q0
          refine lv_iinc (v := nI (i + 1)) (lv' := [(1, .int (nI (i + 1))), (2, .int (nI (hg i))), (0, .ref (ad 8))]) hx hb dX5_renewLeast_36 hl (k := 2) rfl (nI_add i 1) (by decide) rfl (fun ls hl => ?_)
          refine lv_goto (tgt := 2) hx hb dX5_renewLeast_39 (by decide) ?_
          exact ih_4 (i + 1) (va_up g i (g (hg i))) M_9 H_10 locs_11 ls (by omega) (by omega) (isRt_s hg1 (fun t ht => hhg t (by omega)) (by first | rw [if_pos (by assumption)] | rw [if_neg (by assumption)])) hI hm_15 (fun j q0 => hF_16 j q0) (lv_sub hl [2, 0] rfl)
        · -- 22: nI (hg i) eq
          have c_8 : hg i = i := (nI_eq (a := hg i) (b := i) (by omega) (by omega)).mp (c_8)
          refine lv_iload_n hx hb dX5_renewLeast_25 rfl (lv_at hl 2 rfl) ?_
          refine lv_goto (tgt := 35) hx hb dX5_renewLeast_26 (by decide) ?_
          refine h_iast (i := i) (x := nI i) hx hb hI hm_2 (by omega) (by decide) dX5_renewLeast_35 (fun M_17 H_18 locs_19 eM_20 hI => ?_)
          rw [upd_nF] at eM_20
          have hm_21 : M_17 8 = some (cOnes ad jn) := by rw [eM_20, va_up_ne _ _ (by omega)]; exact hm_5
          have hm_22 : M_17 9 = some (aI G 40 (nF hg)) := by rw [eM_20, va_up_ne _ _ (by omega)]; exact hm_6
          have hm_23 : M_17 10 = some (aI G 40 (nF (va_up g i i))) := by rw [eM_20]; exact va_up_self _ _ _
          have hF_24 : ∀ j : Nat, j ≠ 10 → M_17 j = M j := fun j q0 => by rw [eM_20, va_up_ne _ _ q0]; exact hF_3 j q0
          refine lv_iinc (v := nI (i + 1)) (lv' := [(1, .int (nI (i + 1))), (2, .int (nI (hg i))), (0, .ref (ad 8))]) hx hb dX5_renewLeast_36 hl (k := 2) rfl (nI_add i 1) (by decide) rfl (fun ls hl => ?_)
          refine lv_goto (tgt := 2) hx hb dX5_renewLeast_39 (by decide) ?_
          exact ih_4 (i + 1) (va_up g i i) M_17 H_18 locs_19 ls (by omega) (by omega) (isRt_s hg1 (fun t ht => hhg t (by omega)) (by first | rw [if_pos (by assumption)] | rw [if_neg (by assumption)])) hI hm_23 (fun j q0 => hF_24 j q0) (lv_sub hl [2, 0] rfl)
  exact lp2_1 ((40 - 0) + 1) 0 lst M s.heap [] ls (Nat.lt_succ_self _) (by omega) (fun t ht => absurd ht (Nat.not_lt_zero t)) hI h10 (fun j _ => rfl) (lv_sub hl [1, 0] rfl)

/-- X5_join -/
abbrev rm_c_X5_join_same : Room := { frames := 1, cells := 0, slots := 0, locals := 30 }
set_option maxHeartbeats 4000000 in
set_option maxRecDepth 100000 in
theorem c_X5_join_same (l : Launch) (G : GG) (z : Nat) (ad : Nat → Nat) (M : Mem) {jn : Nat} {lst : Nat → Nat} {a : Nat} {b : Nat} (h8 : M 8 = some (cOnes ad jn)) (h10 : M 10 = some (aI G 40 (nF lst))) (ha : a < 40) (hb4 : b < 40) (hlst : ∀ t, t < 40 → lst t < 40) (hne : lst a = lst b) : Met l yX5_join wsX5_join rm_c_X5_join_same (Pr G z ad M [.ref (ad 8), .int (nI a), .int (nI b)]) (vp_Si (fun r : Int32 => r = nI 0)) 0 0 (fun _ => False) := by
  refine Met.ofW (cc := cX5_join) (maxL := 5) (ret := (some .boolean)) (by decide) rfl ?_
  intro p e s m args below meth c s₁ B hml hv
  obtain ⟨rfl, hv⟩ := hv
  have hI := Iv.entry hv
  have hx := B.exec
  have hb := B.bytes
  have hr := B.returns
  have hts := atoms_spec (ws := wsX5_join) B.pre
  have hown : s.vm.findClass RX5 = some m.cls := findClass_of_methodNamed B.named
  have hlocks := B.notSynchronized
  have i_RX5 : ∀ w ∈ u_ws RX5 TX5 4, w ∈ wsX5_join := fun w h => List.mem_cons_of_mem _ (iu_X5 w h)
  have f_15 := hts _ (List.mem_cons_of_mem _ (lwg_of t_82 rfl))
  have m_25 := hts _ (List.mem_cons_of_mem _ (lwg_of t_845 rfl))
  have s_mmin := hts _ (List.mem_cons_of_mem _ (lwg_of t_740 rfl))
  have s_mi := hts _ (List.mem_cons_of_mem _ (lwg_of t_14 rfl))
  have s_mcmin := hts _ (List.mem_cons_of_mem _ (lwg_of t_741 rfl))
  have m_31 := hts _ (List.mem_cons_of_mem _ (lwg_of t_846 rfl))
  have s_mmax := hts _ (List.mem_cons_of_mem _ (lwg_of t_737 rfl))
  have s_mcmax := hts _ (List.mem_cons_of_mem _ (lwg_of t_738 rfl))
  have hl := lv_entry ([.ref (ad 8), .int (nI a), .int (nI b)]) (n := 5) (Nat.le_of_ble_eq_true rfl)
  rw [lg_entry_eq]
  generalize (lg_sl ([.ref (ad 8), .int (nI a), .int (nI b)]) ++ List.replicate (5 - (lg_sl ([.ref (ad 8), .int (nI a), .int (nI b)])).length) Slot.unset).toArray = ls at hl ⊢
  have hl : lv_has ls 5 [(0, .ref (ad 8)), (1, .int (nI a)), (2, .int (nI b))] := hl
  have hla := hlst a ha
  have hlb := hlst b hb4
  refine lv_aload_n hx hb dX5_join_0 rfl (lv_at hl 0 rfl) ?_
  refine h_get (C := RX5) (T := TX5) (N := 4) hx hb hts i_RX5 hown hI h8 rfl 1 (by decide) f_15 rfl rfl dX5_join_1 ?_
  refine lv_iload_n hx hb dX5_join_4 rfl (lv_at hl 1 rfl) ?_
  refine h_iald (i := a) hx hb hI h10 (by omega) (by decide) dX5_join_5 ?_
  refine lv_aload_n hx hb dX5_join_6 rfl (lv_at hl 0 rfl) ?_
  refine h_get (C := RX5) (T := TX5) (N := 4) hx hb hts i_RX5 hown hI h8 rfl 1 (by decide) f_15 rfl rfl dX5_join_7 ?_
  refine lv_iload_n hx hb dX5_join_10 rfl (lv_at hl 2 rfl) ?_
  refine h_iald (i := b) hx hb hI h10 (by omega) (by decide) dX5_join_11 ?_
  refine va_mmin hx hb (by rw [hml]; exact hl.1.symm) hown m_25 s_mmin s_mi s_mcmin (Nat.le_of_ble_eq_true rfl) (Nat.le_of_ble_eq_true rfl) (Nat.le_of_ble_eq_true rfl) (Nat.le_of_ble_eq_true rfl) dX5_join_12 ?_
  refine n_eq (show _ = nI (min (lst a) (lst b)) from mmin_n (by omega) (by omega)) ?_
  refine lv_istore_n (lv' := [(3, .int (nI (min (lst a) (lst b)))), (0, .ref (ad 8)), (1, .int (nI a)), (2, .int (nI b))]) hx hb dX5_join_15 rfl hl (by decide) rfl (fun ls hl => ?_)
  refine lv_aload_n hx hb dX5_join_16 rfl (lv_at hl 1 rfl) ?_
  refine h_get (C := RX5) (T := TX5) (N := 4) hx hb hts i_RX5 hown hI h8 rfl 1 (by decide) f_15 rfl rfl dX5_join_17 ?_
  refine lv_iload_n hx hb dX5_join_20 rfl (lv_at hl 2 rfl) ?_
  refine h_iald (i := a) hx hb hI h10 (by omega) (by decide) dX5_join_21 ?_
  refine lv_aload_n hx hb dX5_join_22 rfl (lv_at hl 1 rfl) ?_
  refine h_get (C := RX5) (T := TX5) (N := 4) hx hb hts i_RX5 hown hI h8 rfl 1 (by decide) f_15 rfl rfl dX5_join_23 ?_
  refine lv_iload_n hx hb dX5_join_26 rfl (lv_at hl 3 rfl) ?_
  refine h_iald (i := b) hx hb hI h10 (by omega) (by decide) dX5_join_27 ?_
  refine va_mmax hx hb (by rw [hml]; exact hl.1.symm) hown m_31 s_mmax s_mi s_mcmax (Nat.le_of_ble_eq_true rfl) (Nat.le_of_ble_eq_true rfl) (Nat.le_of_ble_eq_true rfl) (Nat.le_of_ble_eq_true rfl) dX5_join_28 ?_
  refine n_eq (show _ = nI (max (lst a) (lst b)) from mmax_n (by omega) (by omega)) ?_
  refine lv_istore (lv' := [(4, .int (nI (max (lst a) (lst b)))), (3, .int (nI (min (lst a) (lst b)))), (0, .ref (ad 8)), (1, .int (nI a)), (2, .int (nI b))]) hx hb dX5_join_31 hl (by decide) rfl (fun ls hl => ?_)
  refine lv_iload_n hx hb dX5_join_33 rfl (lv_at hl 1 rfl) ?_
  refine lv_iload hx hb dX5_join_34 (lv_at hl 0 rfl) ?_
  refine lv_icmp_ne (tgt := 41) hx hb dX5_join_36 (by decide) (fun c_1 => ?_) (fun c_1 => ?_)
  · -- 36: nI (min (lst a) (lst b)) ne
    have c_1 : min (lst a) (lst b) ≠ max (lst a) (lst b) := by have h := mt (nI_eq (a := min (lst a) (lst b)) (b := max (lst a) (lst b)) (by omega) (by omega)).mpr c_1; omega
    omega
  · -- 36: nI (min (lst a) (lst b)) eq
    have c_1 : min (lst a) (lst b) = max (lst a) (lst b) := (nI_eq (a := min (lst a) (lst b)) (b := max (lst a) (lst b)) (by omega) (by omega)).mp (c_1)
    refine lv_iconst (v := nI 0) hx hb dX5_join_39 (by decide) ?_
    exact e_Ri hx hb hr rfl hlocks (rfl) dX5_join_40

/-- X5_join -/
abbrev rm_c_X5_join : Room := { frames := 1, cells := 0, slots := 0, locals := 30 }
set_option maxHeartbeats 4000000 in
set_option maxRecDepth 100000 in
theorem c_X5_join (l : Launch) (G : GG) (z : Nat) (ad : Nat → Nat) (M : Mem) {jn : Nat} {hg : Nat → Nat} {lst : Nat → Nat} {jd : Nat → Nat} {a : Nat} {b : Nat} (h8 : M 8 = some (cOnes ad jn)) (h9 : M 9 = some (aI G 40 (nF hg))) (h10 : M 10 = some (aI G 40 (nF lst))) (h11 : M 11 = some (aI G 40 (nF jd))) (ha : a < 40) (hb4 : b < 40) (hlst : ∀ t, t < 40 → lst t < 40) (hne : lst a ≠ lst b) (hjn : jn < 40) (hhg : ∀ t, t < 40 → hg t ≤ t) : Met l yX5_join wsX5_join rm_c_X5_join (Pr G z ad M [.ref (ad 8), .int (nI a), .int (nI b)]) (Ni G z ad (fun (r : Int32) (M' : Mem) => ∃ l2 : Nat → Nat, r = nI 1 ∧ M' 8 = some (cOnes ad (jn + 1)) ∧ M' 9 = some (aI G 40 (nF (va_up hg (max (lst a) (lst b)) (min (lst a) (lst b))))) ∧ M' 10 = some (aI G 40 (nF l2)) ∧ M' 11 = some (aI G 40 (nF (va_up jd jn (max (lst a) (lst b))))) ∧ (∀ j : Nat, j ≠ 8 → j ≠ 9 → j ≠ 10 → j ≠ 11 → M' j = M j) ∧ isRt (va_up hg (max (lst a) (lst b)) (min (lst a) (lst b))) l2 40)) 0 0 (fr z) := by
  refine Met.ofW (cc := cX5_join) (maxL := 5) (ret := (some .boolean)) (by decide) rfl ?_
  intro p e s m args below meth c s₁ B hml hv
  obtain ⟨rfl, hv⟩ := hv
  have hI := Iv.entry hv
  have hx := B.exec
  have hb := B.bytes
  have hr := B.returns
  have hts := atoms_spec (ws := wsX5_join) B.pre
  have hown : s.vm.findClass RX5 = some m.cls := findClass_of_methodNamed B.named
  have hlocks := B.notSynchronized
  have i_RX5 : ∀ w ∈ u_ws RX5 TX5 4, w ∈ wsX5_join := fun w h => List.mem_cons_of_mem _ (iu_X5 w h)
  have f_15 := hts _ (List.mem_cons_of_mem _ (lwg_of t_82 rfl))
  have m_25 := hts _ (List.mem_cons_of_mem _ (lwg_of t_845 rfl))
  have s_mmin := hts _ (List.mem_cons_of_mem _ (lwg_of t_740 rfl))
  have s_mi := hts _ (List.mem_cons_of_mem _ (lwg_of t_14 rfl))
  have s_mcmin := hts _ (List.mem_cons_of_mem _ (lwg_of t_741 rfl))
  have m_31 := hts _ (List.mem_cons_of_mem _ (lwg_of t_846 rfl))
  have s_mmax := hts _ (List.mem_cons_of_mem _ (lwg_of t_737 rfl))
  have s_mcmax := hts _ (List.mem_cons_of_mem _ (lwg_of t_738 rfl))
  have f_9 := hts _ (List.mem_cons_of_mem _ (lwg_of t_81 rfl))
  have f_18 := hts _ (List.mem_cons_of_mem _ (lwg_of t_83 rfl))
  have f_21 := hts _ (List.mem_cons_of_mem _ (lwg_of t_84 rfl))
  have hl := lv_entry ([.ref (ad 8), .int (nI a), .int (nI b)]) (n := 5) (Nat.le_of_ble_eq_true rfl)
  rw [lg_entry_eq]
  generalize (lg_sl ([.ref (ad 8), .int (nI a), .int (nI b)]) ++ List.replicate (5 - (lg_sl ([.ref (ad 8), .int (nI a), .int (nI b)])).length) Slot.unset).toArray = ls at hl ⊢
  have hl : lv_has ls 5 [(0, .ref (ad 8)), (1, .int (nI a)), (2, .int (nI b))] := hl
  have hla := hlst a ha
  have hlb := hlst b hb4
  refine lv_aload_n hx hb dX5_join_0 rfl (lv_at hl 0 rfl) ?_
  refine h_get (C := RX5) (T := TX5) (N := 4) hx hb hts i_RX5 hown hI h8 rfl 1 (by decide) f_15 rfl rfl dX5_join_1 ?_
  refine lv_iload_n hx hb dX5_join_4 rfl (lv_at hl 1 rfl) ?_
  refine h_iald (i := a) hx hb hI h10 (by omega) (by decide) dX5_join_5 ?_
  refine lv_aload_n hx hb dX5_join_6 rfl (lv_at hl 0 rfl) ?_
  refine h_get (C := RX5) (T := TX5) (N := 4) hx hb hts i_RX5 hown hI h8 rfl 1 (by decide) f_15 rfl rfl dX5_join_7 ?_
  refine lv_iload_n hx hb dX5_join_10 rfl (lv_at hl 2 rfl) ?_
  refine h_iald (i := b) hx hb hI h10 (by omega) (by decide) dX5_join_11 ?_
  refine va_mmin hx hb (by rw [hml]; exact hl.1.symm) hown m_25 s_mmin s_mi s_mcmin (Nat.le_of_ble_eq_true rfl) (Nat.le_of_ble_eq_true rfl) (Nat.le_of_ble_eq_true rfl) (Nat.le_of_ble_eq_true rfl) dX5_join_12 ?_
  refine n_eq (show _ = nI (min (lst a) (lst b)) from mmin_n (by omega) (by omega)) ?_
  refine lv_istore_n (lv' := [(3, .int (nI (min (lst a) (lst b)))), (0, .ref (ad 8)), (1, .int (nI a)), (2, .int (nI b))]) hx hb dX5_join_15 rfl hl (by decide) rfl (fun ls hl => ?_)
  refine lv_aload_n hx hb dX5_join_16 rfl (lv_at hl 1 rfl) ?_
  refine h_get (C := RX5) (T := TX5) (N := 4) hx hb hts i_RX5 hown hI h8 rfl 1 (by decide) f_15 rfl rfl dX5_join_17 ?_
  refine lv_iload_n hx hb dX5_join_20 rfl (lv_at hl 2 rfl) ?_
  refine h_iald (i := a) hx hb hI h10 (by omega) (by decide) dX5_join_21 ?_
  refine lv_aload_n hx hb dX5_join_22 rfl (lv_at hl 1 rfl) ?_
  refine h_get (C := RX5) (T := TX5) (N := 4) hx hb hts i_RX5 hown hI h8 rfl 1 (by decide) f_15 rfl rfl dX5_join_23 ?_
  refine lv_iload_n hx hb dX5_join_26 rfl (lv_at hl 3 rfl) ?_
  refine h_iald (i := b) hx hb hI h10 (by omega) (by decide) dX5_join_27 ?_
  refine va_mmax hx hb (by rw [hml]; exact hl.1.symm) hown m_31 s_mmax s_mi s_mcmax (Nat.le_of_ble_eq_true rfl) (Nat.le_of_ble_eq_true rfl) (Nat.le_of_ble_eq_true rfl) (Nat.le_of_ble_eq_true rfl) dX5_join_28 ?_
  refine n_eq (show _ = nI (max (lst a) (lst b)) from mmax_n (by omega) (by omega)) ?_
  refine lv_istore (lv' := [(4, .int (nI (max (lst a) (lst b)))), (3, .int (nI (min (lst a) (lst b)))), (0, .ref (ad 8)), (1, .int (nI a)), (2, .int (nI b))]) hx hb dX5_join_31 hl (by decide) rfl (fun ls hl => ?_)
  refine lv_iload_n hx hb dX5_join_33 rfl (lv_at hl 1 rfl) ?_
  refine lv_iload hx hb dX5_join_34 (lv_at hl 0 rfl) ?_
  refine lv_icmp_ne (tgt := 41) hx hb dX5_join_36 (by decide) (fun c_1 => ?_) (fun c_1 => ?_)
  · -- 36: nI (min (lst a) (lst b)) ne
    have c_1 : min (lst a) (lst b) ≠ max (lst a) (lst b) := by have h := mt (nI_eq (a := min (lst a) (lst b)) (b := max (lst a) (lst b)) (by omega) (by omega)).mpr c_1; omega
    refine lv_aload_n hx hb dX5_join_41 rfl (lv_at hl 2 rfl) ?_
    refine h_get (C := RX5) (T := TX5) (N := 4) hx hb hts i_RX5 hown hI h8 rfl 0 (by decide) f_9 rfl rfl dX5_join_42 ?_
    refine lv_iload hx hb dX5_join_45 (lv_at hl 0 rfl) ?_
    refine lv_iload_n hx hb dX5_join_47 rfl (lv_at hl 1 rfl) ?_
    refine h_iast (i := max (lst a) (lst b)) (x := nI (min (lst a) (lst b))) hx hb hI h9 (by omega) (by decide) dX5_join_48 (fun M_2 H_3 locs_4 eM_5 hI => ?_)
    rw [upd_nF] at eM_5
    have hm_6 : M_2 8 = some (cOnes ad jn) := by rw [eM_5, va_up_ne _ _ (by omega)]; exact h8
    have hm_7 : M_2 9 = some (aI G 40 (nF (va_up hg (max (lst a) (lst b)) (min (lst a) (lst b))))) := by rw [eM_5]; exact va_up_self _ _ _
    have hm_8 : M_2 10 = some (aI G 40 (nF lst)) := by rw [eM_5, va_up_ne _ _ (by omega)]; exact h10
    have hm_9 : M_2 11 = some (aI G 40 (nF jd)) := by rw [eM_5, va_up_ne _ _ (by omega)]; exact h11
    have hF_10 : ∀ j : Nat, j ≠ 9 → M_2 j = M j := fun j q0 => by rw [eM_5, va_up_ne _ _ q0]
    refine lv_aload_n hx hb dX5_join_49 rfl (lv_at hl 2 rfl) ?_
    refine h_get (C := RX5) (T := TX5) (N := 4) hx hb hts i_RX5 hown hI hm_6 rfl 2 (by decide) f_18 rfl rfl dX5_join_50 ?_
    refine lv_aload_n hx hb dX5_join_53 rfl (lv_at hl 2 rfl) ?_
    refine h_get (C := RX5) (T := TX5) (N := 4) hx hb hts i_RX5 hown hI hm_6 rfl 3 (by decide) f_21 rfl rfl dX5_join_54 ?_
    refine lv_iload hx hb dX5_join_57 (lv_at hl 0 rfl) ?_
    refine h_iast (i := jn) (x := nI (max (lst a) (lst b))) hx hb hI hm_9 (by omega) (by decide) dX5_join_59 (fun M_11 H_12 locs_13 eM_14 hI => ?_)
    rw [upd_nF] at eM_14
    have hm_15 : M_11 8 = some (cOnes ad jn) := by rw [eM_14, va_up_ne _ _ (by omega)]; exact hm_6
    have hm_16 : M_11 9 = some (aI G 40 (nF (va_up hg (max (lst a) (lst b)) (min (lst a) (lst b))))) := by rw [eM_14, va_up_ne _ _ (by omega)]; exact hm_7
    have hm_17 : M_11 10 = some (aI G 40 (nF lst)) := by rw [eM_14, va_up_ne _ _ (by omega)]; exact hm_8
    have hm_18 : M_11 11 = some (aI G 40 (nF (va_up jd jn (max (lst a) (lst b))))) := by rw [eM_14]; exact va_up_self _ _ _
    have hF_19 : ∀ j : Nat, j ≠ 9 → j ≠ 11 → M_11 j = M j := fun j q0 q1 => by rw [eM_14, va_up_ne _ _ q1]; exact hF_10 j q0
    refine lv_aload_n hx hb dX5_join_60 rfl (lv_at hl 2 rfl) ?_
    refine lv_dup hx hb dX5_join_61 rfl ?_
    refine h_get (C := RX5) (T := TX5) (N := 4) hx hb hts i_RX5 hown hI hm_15 rfl 3 (by decide) f_21 rfl rfl dX5_join_62 ?_
    refine lv_iconst (v := nI 1) hx hb dX5_join_65 (by decide) ?_
    refine lv_iadd hx hb dX5_join_66 ?_
    refine n_eq (nI_add jn 1) ?_
    refine h_put (C := RX5) (T := TX5) (N := 4) hx hb hts i_RX5 tyX5 tyX5_ok nmX5 hown hI hm_15 rfl 3 (by decide) f_21 rfl rfl rfl rfl (Nat.le_of_ble_eq_true rfl) dX5_join_67 (fun M_20 H_21 locs_22 eM_23 hI => ?_)
    have hm_24 : M_20 8 = some (cOnes ad (jn + 1)) := by rw [eM_23]; exact va_up_self _ _ _
    have hm_25 : M_20 9 = some (aI G 40 (nF (va_up hg (max (lst a) (lst b)) (min (lst a) (lst b))))) := by rw [eM_23, va_up_ne _ _ (by omega)]; exact hm_16
    have hm_26 : M_20 10 = some (aI G 40 (nF lst)) := by rw [eM_23, va_up_ne _ _ (by omega)]; exact hm_17
    have hm_27 : M_20 11 = some (aI G 40 (nF (va_up jd jn (max (lst a) (lst b))))) := by rw [eM_23, va_up_ne _ _ (by omega)]; exact hm_18
    have hF_28 : ∀ j : Nat, j ≠ 9 → j ≠ 11 → j ≠ 8 → M_20 j = M j := fun j q0 q1 q2 => by rw [eM_23, va_up_ne _ _ q2]; exact hF_19 j q0 q1
    have hh2 : ∀ t, t < 40 → (va_up hg (max (lst a) (lst b)) (min (lst a) (lst b))) t ≤ t := fun t ht => by
      simp only [va_up]
      split
      · omega
      · exact hhg t ht
    refine lv_aload_n hx hb dX5_join_70 rfl (lv_at hl 2 rfl) ?_
    refine k_Nv (va_runV (As := []) (rest := []) ⟨hx, hb, hml, hown, hts⟩ (c_X5_renewLeast l G z ad M_20 (jn := jn + 1) (hg := (va_up hg (max (lst a) (lst b)) (min (lst a) (lst b)))) (lst := lst) hm_24 hm_25 hm_26 hh2) (cwV 0 hts (gV (lwg_of t_303 rfl) (lwg_of t_305 rfl) (lwg_of ts_0 rfl) (lwg_of t_4 rfl) (lwg_of t_306 rfl)) rfl rfl rfl (by decide +kernel) ⟨Nat.le_of_ble_eq_true rfl, Nat.le_of_ble_eq_true rfl⟩) (hI.preV hm_24 rfl) rfl rfl hl.1 rfl (lv_room (Nat.le_of_ble_eq_true rfl)) dX5_join_71 ⟨Nat.le_of_ble_eq_true rfl, Nat.le_of_ble_eq_true rfl⟩) hI (fun M_31 H_32 locs_33 hp_30 hI => ?_)
    obtain ⟨l2_37, hm_34, hF_35, hP_36⟩ := hp_30
    have hm_38 : M_31 8 = some (cOnes ad (jn + 1)) := by rw [hF_35 8 (by omega)]; exact hm_24
    have hm_39 : M_31 9 = some (aI G 40 (nF (va_up hg (max (lst a) (lst b)) (min (lst a) (lst b))))) := by rw [hF_35 9 (by omega)]; exact hm_25
    have hm_40 : M_31 11 = some (aI G 40 (nF (va_up jd jn (max (lst a) (lst b))))) := by rw [hF_35 11 (by omega)]; exact hm_27
    have hF_41 : ∀ j : Nat, j ≠ 9 → j ≠ 11 → j ≠ 8 → j ≠ 10 → M_31 j = M j := fun j q0 q1 q2 q3 => (hF_35 j q3).trans (hF_28 j q0 q1 q2)
    refine lv_iconst (v := nI 1) hx hb dX5_join_74 (by decide) ?_
    exact e_Ni hx hb hr rfl hlocks hI ⟨l2_37, rfl, hm_38, hm_39, hm_34, hm_40, (fun j q0 q1 q2 q3 => hF_41 j q1 q3 q0 q2), hP_36⟩ dX5_join_75
  · -- 36: nI (min (lst a) (lst b)) eq
    have c_1 : min (lst a) (lst b) = max (lst a) (lst b) := (nI_eq (a := min (lst a) (lst b)) (b := max (lst a) (lst b)) (by omega) (by omega)).mp (c_1)
    omega

/-- X5_undo -/
abbrev rm_c_X5_undo_0 : Room := { frames := 0, cells := 0, slots := 0, locals := 0 }
set_option maxHeartbeats 4000000 in
set_option maxRecDepth 100000 in
theorem c_X5_undo_0 (l : Launch) (G : GG) (z : Nat) (ad : Nat → Nat) (M : Mem)  (h8 : M 8 = some (cOnes ad 0))  : Met l yX5_undo wsX5_undo rm_c_X5_undo_0 (Pr G z ad M [.ref (ad 8)]) (vp_Si (fun r : Int32 => r = nI 0)) 0 0 (fun _ => False) := by
  refine Met.ofW (cc := cX5_undo) (maxL := 1) (ret := (some .boolean)) (by decide) rfl ?_
  intro p e s m args below meth c s₁ B hml hv
  obtain ⟨rfl, hv⟩ := hv
  have hI := Iv.entry hv
  have hx := B.exec
  have hb := B.bytes
  have hr := B.returns
  have hts := atoms_spec (ws := wsX5_undo) B.pre
  have hown : s.vm.findClass RX5 = some m.cls := findClass_of_methodNamed B.named
  have hlocks := B.notSynchronized
  have i_RX5 : ∀ w ∈ u_ws RX5 TX5 4, w ∈ wsX5_undo := fun w h => List.mem_cons_of_mem _ (iu_X5 w h)
  have f_21 := hts _ (List.mem_cons_of_mem _ (lwg_of t_84 rfl))
  have hl := lv_entry ([.ref (ad 8)]) (n := 1) (Nat.le_of_ble_eq_true rfl)
  rw [lg_entry_eq]
  generalize (lg_sl ([.ref (ad 8)]) ++ List.replicate (1 - (lg_sl ([.ref (ad 8)])).length) Slot.unset).toArray = ls at hl ⊢
  have hl : lv_has ls 1 [(0, .ref (ad 8))] := hl
  refine lv_aload_n hx hb dX5_undo_0 rfl (lv_at hl 0 rfl) ?_
  refine h_get (C := RX5) (T := TX5) (N := 4) hx hb hts i_RX5 hown hI h8 rfl 3 (by decide) f_21 rfl rfl dX5_undo_1 ?_
  refine lv_if_ne (tgt := 9) hx hb dX5_undo_4 (by decide) (fun c_1 => ?_) (fun c_1 => ?_)
  · -- 4: nI 0 ne
    exact absurd c_1 (by decide)
  · -- 4: nI 0 eq
    refine lv_iconst (v := nI 0) hx hb dX5_undo_7 (by decide) ?_
    exact e_Ri hx hb hr rfl hlocks (rfl) dX5_undo_8

/-- X5_undo -/
abbrev rm_c_X5_undo : Room := { frames := 1, cells := 0, slots := 0, locals := 22 }
set_option maxHeartbeats 4000000 in
set_option maxRecDepth 100000 in
theorem c_X5_undo (l : Launch) (G : GG) (z : Nat) (ad : Nat → Nat) (M : Mem) {jn : Nat} {hg : Nat → Nat} {lst : Nat → Nat} {jd : Nat → Nat} (h8 : M 8 = some (cOnes ad jn)) (h9 : M 9 = some (aI G 40 (nF hg))) (h10 : M 10 = some (aI G 40 (nF lst))) (h11 : M 11 = some (aI G 40 (nF jd))) (hj0 : 0 < jn) (hjn : jn < 41) (hjd : ∀ i, i < jn → jd i < 40) (hhg : ∀ t, t < 40 → hg t ≤ t) : Met l yX5_undo wsX5_undo rm_c_X5_undo (Pr G z ad M [.ref (ad 8)]) (Ni G z ad (fun (r : Int32) (M' : Mem) => ∃ l2 : Nat → Nat, r = nI 1 ∧ M' 8 = some (cOnes ad (jn - 1)) ∧ M' 9 = some (aI G 40 (nF (va_up hg (jd (jn - 1)) (jd (jn - 1))))) ∧ M' 10 = some (aI G 40 (nF l2)) ∧ M' 11 = some (aI G 40 (nF jd)) ∧ (∀ j : Nat, j ≠ 8 → j ≠ 9 → j ≠ 10 → j ≠ 11 → M' j = M j) ∧ isRt (va_up hg (jd (jn - 1)) (jd (jn - 1))) l2 40)) 0 0 (fr z) := by
  refine Met.ofW (cc := cX5_undo) (maxL := 1) (ret := (some .boolean)) (by decide) rfl ?_
  intro p e s m args below meth c s₁ B hml hv
  obtain ⟨rfl, hv⟩ := hv
  have hI := Iv.entry hv
  have hx := B.exec
  have hb := B.bytes
  have hr := B.returns
  have hts := atoms_spec (ws := wsX5_undo) B.pre
  have hown : s.vm.findClass RX5 = some m.cls := findClass_of_methodNamed B.named
  have hlocks := B.notSynchronized
  have i_RX5 : ∀ w ∈ u_ws RX5 TX5 4, w ∈ wsX5_undo := fun w h => List.mem_cons_of_mem _ (iu_X5 w h)
  have f_21 := hts _ (List.mem_cons_of_mem _ (lwg_of t_84 rfl))
  have f_9 := hts _ (List.mem_cons_of_mem _ (lwg_of t_81 rfl))
  have f_18 := hts _ (List.mem_cons_of_mem _ (lwg_of t_83 rfl))
  have hl := lv_entry ([.ref (ad 8)]) (n := 1) (Nat.le_of_ble_eq_true rfl)
  rw [lg_entry_eq]
  generalize (lg_sl ([.ref (ad 8)]) ++ List.replicate (1 - (lg_sl ([.ref (ad 8)])).length) Slot.unset).toArray = ls at hl ⊢
  have hl : lv_has ls 1 [(0, .ref (ad 8))] := hl
  refine lv_aload_n hx hb dX5_undo_0 rfl (lv_at hl 0 rfl) ?_
  refine h_get (C := RX5) (T := TX5) (N := 4) hx hb hts i_RX5 hown hI h8 rfl 3 (by decide) f_21 rfl rfl dX5_undo_1 ?_
  refine lv_if_ne (tgt := 9) hx hb dX5_undo_4 (by decide) (fun c_1 => ?_) (fun c_1 => ?_)
  · -- 4: nI jn ne
    have c_1 : jn ≠ 0 := by have h := mt (nI_eq (a := jn) (b := 0) (by omega) (by omega)).mpr c_1; omega
    have hj1 := hjd (jn - 1) (by omega)
    have hh2 : ∀ t, t < 40 → (va_up hg (jd (jn - 1)) (jd (jn - 1))) t ≤ t := fun t ht => by
      simp only [va_up]
      split
      · omega
      · exact hhg t ht
    refine lv_aload_n hx hb dX5_undo_9 rfl (lv_at hl 0 rfl) ?_
    refine lv_dup hx hb dX5_undo_10 rfl ?_
    refine h_get (C := RX5) (T := TX5) (N := 4) hx hb hts i_RX5 hown hI h8 rfl 3 (by decide) f_21 rfl rfl dX5_undo_11 ?_
    refine lv_iconst (v := nI 1) hx hb dX5_undo_14 (by decide) ?_
    refine lv_isub hx hb dX5_undo_15 ?_
    refine n_eq (pk_sub (a := jn) (b := 1) (by omega)) ?_
    refine h_put (C := RX5) (T := TX5) (N := 4) hx hb hts i_RX5 tyX5 tyX5_ok nmX5 hown hI h8 rfl 3 (by decide) f_21 rfl rfl rfl rfl (Nat.le_of_ble_eq_true rfl) dX5_undo_16 (fun M_2 H_3 locs_4 eM_5 hI => ?_)
    have hm_6 : M_2 8 = some (cOnes ad (jn - 1)) := by rw [eM_5]; exact va_up_self _ _ _
    have hm_7 : M_2 9 = some (aI G 40 (nF hg)) := by rw [eM_5, va_up_ne _ _ (by omega)]; exact h9
    have hm_8 : M_2 10 = some (aI G 40 (nF lst)) := by rw [eM_5, va_up_ne _ _ (by omega)]; exact h10
    have hm_9 : M_2 11 = some (aI G 40 (nF jd)) := by rw [eM_5, va_up_ne _ _ (by omega)]; exact h11
    have hF_10 : ∀ j : Nat, j ≠ 8 → M_2 j = M j := fun j q0 => by rw [eM_5, va_up_ne _ _ q0]
    refine lv_aload_n hx hb dX5_undo_19 rfl (lv_at hl 0 rfl) ?_
    refine h_get (C := RX5) (T := TX5) (N := 4) hx hb hts i_RX5 hown hI hm_6 rfl 0 (by decide) f_9 rfl rfl dX5_undo_20 ?_
    refine lv_aload_n hx hb dX5_undo_23 rfl (lv_at hl 0 rfl) ?_
    refine h_get (C := RX5) (T := TX5) (N := 4) hx hb hts i_RX5 hown hI hm_6 rfl 2 (by decide) f_18 rfl rfl dX5_undo_24 ?_
    refine lv_aload_n hx hb dX5_undo_27 rfl (lv_at hl 0 rfl) ?_
    refine h_get (C := RX5) (T := TX5) (N := 4) hx hb hts i_RX5 hown hI hm_6 rfl 3 (by decide) f_21 rfl rfl dX5_undo_28 ?_
    refine h_iald (i := (jn - 1)) hx hb hI hm_9 (by omega) (by decide) dX5_undo_31 ?_
    refine lv_aload_n hx hb dX5_undo_32 rfl (lv_at hl 0 rfl) ?_
    refine h_get (C := RX5) (T := TX5) (N := 4) hx hb hts i_RX5 hown hI hm_6 rfl 2 (by decide) f_18 rfl rfl dX5_undo_33 ?_
    refine lv_aload_n hx hb dX5_undo_36 rfl (lv_at hl 0 rfl) ?_
    refine h_get (C := RX5) (T := TX5) (N := 4) hx hb hts i_RX5 hown hI hm_6 rfl 3 (by decide) f_21 rfl rfl dX5_undo_37 ?_
    refine h_iald (i := (jn - 1)) hx hb hI hm_9 (by omega) (by decide) dX5_undo_40 ?_
    refine h_iast (i := jd (jn - 1)) (x := nI (jd (jn - 1))) hx hb hI hm_7 (by omega) (by decide) dX5_undo_41 (fun M_11 H_12 locs_13 eM_14 hI => ?_)
    rw [upd_nF] at eM_14
    have hm_15 : M_11 8 = some (cOnes ad (jn - 1)) := by rw [eM_14, va_up_ne _ _ (by omega)]; exact hm_6
    have hm_16 : M_11 9 = some (aI G 40 (nF (va_up hg (jd (jn - 1)) (jd (jn - 1))))) := by rw [eM_14]; exact va_up_self _ _ _
    have hm_17 : M_11 10 = some (aI G 40 (nF lst)) := by rw [eM_14, va_up_ne _ _ (by omega)]; exact hm_8
    have hm_18 : M_11 11 = some (aI G 40 (nF jd)) := by rw [eM_14, va_up_ne _ _ (by omega)]; exact hm_9
    have hF_19 : ∀ j : Nat, j ≠ 8 → j ≠ 9 → M_11 j = M j := fun j q0 q1 => by rw [eM_14, va_up_ne _ _ q1]; exact hF_10 j q0
    refine lv_aload_n hx hb dX5_undo_42 rfl (lv_at hl 0 rfl) ?_
    refine k_Nv (va_runV (As := []) (rest := []) ⟨hx, hb, hml, hown, hts⟩ (c_X5_renewLeast l G z ad M_11 (jn := jn - 1) (hg := (va_up hg (jd (jn - 1)) (jd (jn - 1)))) (lst := lst) hm_15 hm_16 hm_17 hh2) (cwV 0 hts (gV (lwg_of t_303 rfl) (lwg_of t_305 rfl) (lwg_of ts_0 rfl) (lwg_of t_4 rfl) (lwg_of t_306 rfl)) rfl rfl rfl (by decide +kernel) ⟨Nat.le_of_ble_eq_true rfl, Nat.le_of_ble_eq_true rfl⟩) (hI.preV hm_15 rfl) rfl rfl hl.1 rfl (lv_room (Nat.le_of_ble_eq_true rfl)) dX5_undo_43 ⟨Nat.le_of_ble_eq_true rfl, Nat.le_of_ble_eq_true rfl⟩) hI (fun M_22 H_23 locs_24 hp_21 hI => ?_)
    obtain ⟨l2_28, hm_25, hF_26, hP_27⟩ := hp_21
    have hm_29 : M_22 8 = some (cOnes ad (jn - 1)) := by rw [hF_26 8 (by omega)]; exact hm_15
    have hm_30 : M_22 9 = some (aI G 40 (nF (va_up hg (jd (jn - 1)) (jd (jn - 1))))) := by rw [hF_26 9 (by omega)]; exact hm_16
    have hm_31 : M_22 11 = some (aI G 40 (nF jd)) := by rw [hF_26 11 (by omega)]; exact hm_18
    have hF_32 : ∀ j : Nat, j ≠ 8 → j ≠ 9 → j ≠ 10 → M_22 j = M j := fun j q0 q1 q2 => (hF_26 j q2).trans (hF_19 j q0 q1)
    refine lv_iconst (v := nI 1) hx hb dX5_undo_46 (by decide) ?_
    exact e_Ni hx hb hr rfl hlocks hI ⟨l2_28, rfl, hm_29, hm_30, hm_25, hm_31, (fun j q0 q1 q2 q3 => hF_32 j q0 q1 q2), hP_27⟩ dX5_undo_47
  · -- 4: nI jn eq
    have c_1 : jn = 0 := (nI_eq (a := jn) (b := 0) (by omega) (by omega)).mp (c_1)
    omega
