/-- X10_draft -/
abbrev rm_c_X10_draft : Room := { frames := 2, cells := 0, slots := 0, locals := 43 }
set_option maxHeartbeats 4000000 in
set_option maxRecDepth 100000 in
theorem c_X10_draft (l : Launch) (G : GG) (z : Nat) (ad : Nat → Nat) (M : Mem) {th : Nat} {on : Nat} {ao : Nat} {vr : Nat} {sn : Nat} {tp : Nat} {pt : Nat} {zs : Nat} {bg : Nat} {fa : Int32} {n : Nat} {mz : Nat → Nat} {rr : Nat → Nat} {ee : Nat → Nat} {x : Nat} {b : Bool} {t : Nat} (h60 : M 60 = some (cModel ad th n on ao vr sn tp pt zs bg fa)) (h68 : M 68 = some (aI G 121 (nF mz))) (h69 : M 69 = some (aI G 726 (nF rr))) (h70 : M 70 = some (aI G 726 (nF ee))) (hn : n ≤ 120) (hx6 : x < 6) (hbt : b = true → t < n) (hbf : b = false → t < 40) (hs0 : mz 120 < 6) : Met l yX10_draft wsX10_draft rm_c_X10_draft (Pr G z ad M [.ref (ad 60), .int (nI x), .int (bI b), .int (nI t)]) (Ni G z ad (fun (r : Int32) (M' : Mem) => r = nI (mz 120 + 1) ∧ M' 60 = some (cModel ad 0 n on ao vr sn tp pt zs bg fa) ∧ M' 68 = some (aI G 121 (nF (va_up mz 120 (mz 120 + 1)))) ∧ M' 69 = some (aI G 726 (nF (va_up rr (720 + mz 120) x))) ∧ M' 70 = some (aI G 726 (nF (va_up ee (720 + mz 120) (if b = true then 40 + t else t)))) ∧ (∀ j : Nat, j ≠ 60 → j ≠ 68 → j ≠ 69 → j ≠ 70 → M' j = M j))) 0 0 (fr z) := by
  refine Met.ofW (cc := cX10_draft) (maxL := 4) (ret := (some .int)) (by decide) rfl ?_
  intro p e s m args below meth c s₁ B hml hv
  obtain ⟨rfl, hv⟩ := hv
  have hI := Iv.entry hv
  have hx := B.exec
  have hb := B.bytes
  have hr := B.returns
  have hts := atoms_spec (ws := wsX10_draft) B.pre
  have hown : s.vm.findClass RX10 = some m.cls := findClass_of_methodNamed B.named
  have hlocks := B.notSynchronized
  have f_3 := hts _ (List.mem_cons_of_mem _ (lwg_of t_1013 rfl))
  have i_RX10 : ∀ w ∈ u_ws RX10 TX10 38, w ∈ wsX10_draft := fun w h => List.mem_cons_of_mem _ (iu_X10 w h)
  have f_36 := hts _ (List.mem_cons_of_mem _ (lwg_of t_1021 rfl))
  have f_39 := hts _ (List.mem_cons_of_mem _ (lwg_of t_1022 rfl))
  have f_42 := hts _ (List.mem_cons_of_mem _ (lwg_of t_1023 rfl))
  have hl := lv_entry ([.ref (ad 60), .int (nI x), .int (bI b), .int (nI t)]) (n := 4) (Nat.le_of_ble_eq_true rfl)
  rw [lg_entry_eq]
  generalize (lg_sl ([.ref (ad 60), .int (nI x), .int (bI b), .int (nI t)]) ++ List.replicate (4 - (lg_sl ([.ref (ad 60), .int (nI x), .int (bI b), .int (nI t)])).length) Slot.unset).toArray = ls at hl ⊢
  have hl : lv_has ls 4 [(0, .ref (ad 60)), (1, .int (nI x)), (2, .int (bI b)), (3, .int (nI t))] := hl
  refine lv_aload_n hx hb dX10_draft_0 rfl (lv_at hl 0 rfl) ?_
  refine lv_iconst (v := nI 0) hx hb dX10_draft_1 (by decide) ?_
  refine h_put (C := RX10) (T := TX10) (N := 38) hx hb hts i_RX10 tyX10 tyX10_ok nmX10 hown hI h60 rfl 0 (by decide) f_3 rfl rfl rfl rfl (Nat.le_of_ble_eq_true rfl) dX10_draft_2 (fun M_1 H_2 locs_3 eM_4 hI => ?_)
  have hm_5 : M_1 60 = some (cModel ad 0 n on ao vr sn tp pt zs bg fa) := by rw [eM_4]; exact va_up_self _ _ _
  have hm_6 : M_1 68 = some (aI G 121 (nF mz)) := by rw [eM_4, va_up_ne _ _ (by decide)]; exact h68
  have hm_7 : M_1 69 = some (aI G 726 (nF rr)) := by rw [eM_4, va_up_ne _ _ (by decide)]; exact h69
  have hm_8 : M_1 70 = some (aI G 726 (nF ee)) := by rw [eM_4, va_up_ne _ _ (by decide)]; exact h70
  have hF_9 : ∀ j : Nat, j ≠ 60 → M_1 j = M j := fun j q0 => by rw [eM_4, va_up_ne _ _ q0]
  refine lv_aload_n hx hb dX10_draft_5 rfl (lv_at hl 0 rfl) ?_
  refine lv_iload_n hx hb dX10_draft_6 rfl (lv_at hl 1 rfl) ?_
  refine k_Ri (va_runS (As := [.int (nI x)]) (rest := [.ref (ad 60)]) ⟨hx, hb, hml, hown, hts⟩ (c_X10_noRole_0 l G z ad M_1 (t := x) (by omega)) (va_cwS 1 hts (gS (lwg_of t_1138 rfl) (lwg_of t_1139 rfl) (lwg_of t_13 rfl) (lwg_of t_1140 rfl)) rfl rfl rfl (by decide +kernel) ⟨Nat.le_of_ble_eq_true rfl, Nat.le_of_ble_eq_true rfl⟩) hI.preS rfl rfl hl.1 rfl (lv_room (Nat.le_of_ble_eq_true rfl)) dX10_draft_7 ⟨Nat.le_of_ble_eq_true rfl, Nat.le_of_ble_eq_true rfl⟩) (fun _ h => h) (fun r_10 hp_11 => ?_)
  rw [hp_11]
  refine lv_if_ne (tgt := 35) hx hb dX10_draft_10 (by decide) (fun c_12 => ?_) (fun c_12 => ?_)
  · -- 10: nI 0 ne
    exact absurd (by decide) c_12
  · -- 10: nI 0 eq
    refine lv_iload_n hx hb dX10_draft_13 rfl (lv_at hl 2 rfl) ?_
    refine lv_if_eq (tgt := 28) hx hb dX10_draft_14 (by decide) (fun c_13 => ?_) (fun c_13 => ?_)
    · -- 14: bI b eq
      have c_13 : b = false := bI_f (c_13)
      refine lv_iload_n hx hb dX10_draft_28 rfl (lv_at hl 3 rfl) ?_
      refine k_Ri (va_runS (As := [.int (nI t)]) (rest := [.ref (ad 60)]) ⟨hx, hb, hml, hown, hts⟩ (c_X10_noThing_0 l G z ad M_1 (t := t) (hbf (by assumption))) (va_cwS 1 hts (gS (lwg_of t_1161 rfl) (lwg_of t_1162 rfl) (lwg_of t_13 rfl) (lwg_of t_1163 rfl)) rfl rfl rfl (by decide +kernel) ⟨Nat.le_of_ble_eq_true rfl, Nat.le_of_ble_eq_true rfl⟩) hI.preS rfl rfl hl.1 rfl (lv_room (Nat.le_of_ble_eq_true rfl)) dX10_draft_29 ⟨Nat.le_of_ble_eq_true rfl, Nat.le_of_ble_eq_true rfl⟩) (fun _ h => h) (fun r_14 hp_15 => ?_)
      rw [hp_15]
      refine lv_if_eq (tgt := 39) hx hb dX10_draft_32 (by decide) (fun c_16 => ?_) (fun c_16 => ?_)
      · -- 32: nI 0 eq
        refine lv_iconst (v := nI 0) hx hb dX10_draft_39 (by decide) ?_
        refine lv_iconst (v := nI 1) hx hb dX10_draft_40 (by decide) ?_
        refine k_Ri (va_runV (As := [.int (nI 0), .int (nI 1)]) (rest := []) ⟨hx, hb, hml, hown, hts⟩ (c_X10_throwsIf_0 l G z ad M_1 (th := 0) (ln := n) (on := on) (ao := ao) (vr := vr) (sn := sn) (tp := tp) (pt := pt) (zs := zs) (bg := bg) (fa := fa) (c0 := 1) hm_5) (cwV 2 hts (gV (lwg_of t_1141 rfl) (lwg_of t_1143 rfl) (lwg_of ts_23 rfl) (lwg_of t_13 rfl) (lwg_of t_1144 rfl)) rfl rfl rfl (by decide +kernel) ⟨Nat.le_of_ble_eq_true rfl, Nat.le_of_ble_eq_true rfl⟩) (hI.preV hm_5 rfl) rfl rfl hl.1 rfl (lv_room (Nat.le_of_ble_eq_true rfl)) dX10_draft_41 ⟨Nat.le_of_ble_eq_true rfl, Nat.le_of_ble_eq_true rfl⟩) (fun _ h => h) (fun r_17 hp_18 => ?_)
        rw [hp_18]
        refine lv_if_eq (tgt := 49) hx hb dX10_draft_44 (by decide) (fun c_19 => ?_) (fun c_19 => ?_)
        · -- 44: nI 0 eq
          refine lv_aload_n hx hb dX10_draft_49 rfl (lv_at hl 0 rfl) ?_
          refine h_get (C := RX10) (T := TX10) (N := 38) hx hb hts i_RX10 hown hI hm_5 rfl 8 (by decide) f_36 rfl rfl dX10_draft_50 ?_
          refine lv_bipush (v := nI 120) hx hb dX10_draft_53 (by decide) ?_
          refine h_iald (i := 120) hx hb hI hm_6 (by omega) (by decide) dX10_draft_55 ?_
          refine lv_bipush (v := nI 6) hx hb dX10_draft_56 (by decide) ?_
          refine lv_icmp_ne (tgt := 63) hx hb dX10_draft_58 (by decide) (fun c_20 => ?_) (fun c_20 => ?_)
          · -- 58: nI (mz 120) ne
            have c_20 : mz 120 ≠ 6 := by have h := mt (nI_eq (a := mz 120) (b := 6) (by omega) (by omega)).mpr c_20; omega
            refine lv_aload_n hx hb dX10_draft_63 rfl (lv_at hl 0 rfl) ?_
            refine h_get (C := RX10) (T := TX10) (N := 38) hx hb hts i_RX10 hown hI hm_5 rfl 9 (by decide) f_39 rfl rfl dX10_draft_64 ?_
            refine lv_sipush (v := nI 720) hx hb dX10_draft_67 (by decide) ?_
            refine lv_aload_n hx hb dX10_draft_70 rfl (lv_at hl 0 rfl) ?_
            refine h_get (C := RX10) (T := TX10) (N := 38) hx hb hts i_RX10 hown hI hm_5 rfl 8 (by decide) f_36 rfl rfl dX10_draft_71 ?_
            refine lv_bipush (v := nI 120) hx hb dX10_draft_74 (by decide) ?_
            refine h_iald (i := 120) hx hb hI hm_6 (by omega) (by decide) dX10_draft_76 ?_
            refine lv_iadd hx hb dX10_draft_77 ?_
            refine n_eq (nI_add 720 (mz 120)) ?_
            refine lv_iload_n hx hb dX10_draft_78 rfl (lv_at hl 1 rfl) ?_
            refine h_iast (i := 720 + (mz 120)) (x := nI x) hx hb hI hm_7 (by omega) (by decide) dX10_draft_79 (fun M_21 H_22 locs_23 eM_24 hI => ?_)
            rw [upd_nF] at eM_24
            have hm_25 : M_21 60 = some (cModel ad 0 n on ao vr sn tp pt zs bg fa) := by rw [eM_24, va_up_ne _ _ (by decide)]; exact hm_5
            have hm_26 : M_21 68 = some (aI G 121 (nF mz)) := by rw [eM_24, va_up_ne _ _ (by decide)]; exact hm_6
            have hm_27 : M_21 69 = some (aI G 726 (nF (va_up rr (720 + (mz 120)) x))) := by rw [eM_24]; exact va_up_self _ _ _
            have hm_28 : M_21 70 = some (aI G 726 (nF ee)) := by rw [eM_24, va_up_ne _ _ (by decide)]; exact hm_8
            have hF_29 : ∀ j : Nat, j ≠ 60 → j ≠ 69 → M_21 j = M j := fun j q0 q1 => by rw [eM_24, va_up_ne _ _ q1]; exact hF_9 j q0
            refine lv_aload_n hx hb dX10_draft_80 rfl (lv_at hl 0 rfl) ?_
            refine h_get (C := RX10) (T := TX10) (N := 38) hx hb hts i_RX10 hown hI hm_25 rfl 10 (by decide) f_42 rfl rfl dX10_draft_81 ?_
            refine lv_sipush (v := nI 720) hx hb dX10_draft_84 (by decide) ?_
            refine lv_aload_n hx hb dX10_draft_87 rfl (lv_at hl 0 rfl) ?_
            refine h_get (C := RX10) (T := TX10) (N := 38) hx hb hts i_RX10 hown hI hm_25 rfl 8 (by decide) f_36 rfl rfl dX10_draft_88 ?_
            refine lv_bipush (v := nI 120) hx hb dX10_draft_91 (by decide) ?_
            refine h_iald (i := 120) hx hb hI hm_26 (by omega) (by decide) dX10_draft_93 ?_
            refine lv_iadd hx hb dX10_draft_94 ?_
            refine n_eq (nI_add 720 (mz 120)) ?_
            refine lv_iload_n hx hb dX10_draft_95 rfl (lv_at hl 2 rfl) ?_
            refine lv_if_eq (tgt := 106) hx hb dX10_draft_96 (by decide) (fun c_30 => ?_) (fun c_30 => ?_)
            · -- 96: bI b eq
              have c_30 : b = false := bI_f (c_30)
              refine lv_iload_n hx hb dX10_draft_106 rfl (lv_at hl 3 rfl) ?_
              refine h_iast (i := 720 + (mz 120)) (x := nI t) hx hb hI hm_28 (by omega) (by decide) dX10_draft_107 (fun M_31 H_32 locs_33 eM_34 hI => ?_)
              rw [upd_nF] at eM_34
              have hm_35 : M_31 60 = some (cModel ad 0 n on ao vr sn tp pt zs bg fa) := by rw [eM_34, va_up_ne _ _ (by decide)]; exact hm_25
              have hm_36 : M_31 68 = some (aI G 121 (nF mz)) := by rw [eM_34, va_up_ne _ _ (by decide)]; exact hm_26
              have hm_37 : M_31 69 = some (aI G 726 (nF (va_up rr (720 + (mz 120)) x))) := by rw [eM_34, va_up_ne _ _ (by decide)]; exact hm_27
              have hm_38 : M_31 70 = some (aI G 726 (nF (va_up ee (720 + (mz 120)) t))) := by rw [eM_34]; exact va_up_self _ _ _
              have hF_39 : ∀ j : Nat, j ≠ 60 → j ≠ 69 → j ≠ 70 → M_31 j = M j := fun j q0 q1 q2 => by rw [eM_34, va_up_ne _ _ q2]; exact hF_29 j q0 q1
              refine lv_aload_n hx hb dX10_draft_108 rfl (lv_at hl 0 rfl) ?_
              refine h_get (C := RX10) (T := TX10) (N := 38) hx hb hts i_RX10 hown hI hm_35 rfl 8 (by decide) f_36 rfl rfl dX10_draft_109 ?_
              refine lv_bipush (v := nI 120) hx hb dX10_draft_112 (by decide) ?_
              refine lv_dup2_11 hx hb dX10_draft_114 rfl rfl ?_
              refine h_iald (i := 120) hx hb hI hm_36 (by omega) (by decide) dX10_draft_115 ?_
              refine lv_iconst (v := nI 1) hx hb dX10_draft_116 (by decide) ?_
              refine lv_iadd hx hb dX10_draft_117 ?_
              refine n_eq (nI_add (mz 120) 1) ?_
              refine h_iast (i := 120) (x := nI ((mz 120) + 1)) hx hb hI hm_36 (by omega) (by decide) dX10_draft_118 (fun M_40 H_41 locs_42 eM_43 hI => ?_)
              rw [upd_nF] at eM_43
              have hm_44 : M_40 60 = some (cModel ad 0 n on ao vr sn tp pt zs bg fa) := by rw [eM_43, va_up_ne _ _ (by decide)]; exact hm_35
              have hm_45 : M_40 68 = some (aI G 121 (nF (va_up mz 120 ((mz 120) + 1)))) := by rw [eM_43]; exact va_up_self _ _ _
              have hm_46 : M_40 69 = some (aI G 726 (nF (va_up rr (720 + (mz 120)) x))) := by rw [eM_43, va_up_ne _ _ (by decide)]; exact hm_37
              have hm_47 : M_40 70 = some (aI G 726 (nF (va_up ee (720 + (mz 120)) t))) := by rw [eM_43, va_up_ne _ _ (by decide)]; exact hm_38
              have hF_48 : ∀ j : Nat, j ≠ 60 → j ≠ 69 → j ≠ 70 → j ≠ 68 → M_40 j = M j := fun j q0 q1 q2 q3 => by rw [eM_43, va_up_ne _ _ q3]; exact hF_39 j q0 q1 q2
              refine lv_aload_n hx hb dX10_draft_119 rfl (lv_at hl 0 rfl) ?_
              refine h_get (C := RX10) (T := TX10) (N := 38) hx hb hts i_RX10 hown hI hm_44 rfl 8 (by decide) f_36 rfl rfl dX10_draft_120 ?_
              refine lv_bipush (v := nI 120) hx hb dX10_draft_123 (by decide) ?_
              refine h_iald (i := 120) hx hb hI hm_45 (by omega) (by decide) dX10_draft_125 ?_
              refine n_eq (show _ = nI (mz 120 + 1) from congrArg nI (va_up_self _ _ _)) ?_
              exact e_Ni hx hb hr rfl hlocks hI ⟨rfl, hm_44, hm_45, hm_46, (by rw [show b = false from by assumption]; exact hm_47), (fun j q0 q1 q2 q3 => hF_48 j q0 q2 q3 q1)⟩ dX10_draft_126
            · -- 96: bI b ne
              have c_30 : b = true := bI_t (c_30)
              simp_all
          · -- 58: nI (mz 120) eq
            have c_20 : mz 120 = 6 := (nI_eq (a := mz 120) (b := 6) (by omega) (by omega)).mp (c_20)
            omega
        · -- 44: nI 0 ne
          exact absurd (by decide) c_19
      · -- 32: nI 0 ne
        exact absurd (by decide) c_16
    · -- 14: bI b ne
      have c_13 : b = true := bI_t (c_13)
      refine lv_aload_n hx hb dX10_draft_17 rfl (lv_at hl 0 rfl) ?_
      refine lv_iload_n hx hb dX10_draft_18 rfl (lv_at hl 3 rfl) ?_
      refine k_Ri (va_runV (As := [.int (nI t)]) (rest := [.ref (ad 60)]) ⟨hx, hb, hml, hown, hts⟩ (c_X10_noLine_0 l G z ad M_1 (th := 0) (ln := n) (on := on) (ao := ao) (vr := vr) (sn := sn) (tp := tp) (pt := pt) (zs := zs) (bg := bg) (fa := fa) (t := t) hm_5 (hbt (by assumption)) (by omega)) (cwV 1 hts (gV (lwg_of t_1157 rfl) (lwg_of t_1159 rfl) (lwg_of ts_24 rfl) (lwg_of t_13 rfl) (lwg_of t_1160 rfl)) rfl rfl rfl (by decide +kernel) ⟨Nat.le_of_ble_eq_true rfl, Nat.le_of_ble_eq_true rfl⟩) (hI.preV hm_5 rfl) rfl rfl hl.1 rfl (lv_room (Nat.le_of_ble_eq_true rfl)) dX10_draft_19 ⟨Nat.le_of_ble_eq_true rfl, Nat.le_of_ble_eq_true rfl⟩) (fun _ h => h) (fun r_49 hp_50 => ?_)
      rw [hp_50]
      refine lv_if_eq (tgt := 39) hx hb dX10_draft_22 (by decide) (fun c_51 => ?_) (fun c_51 => ?_)
      · -- 22: nI 0 eq
        refine lv_iconst (v := nI 0) hx hb dX10_draft_39 (by decide) ?_
        refine lv_iconst (v := nI 1) hx hb dX10_draft_40 (by decide) ?_
        refine k_Ri (va_runV (As := [.int (nI 0), .int (nI 1)]) (rest := []) ⟨hx, hb, hml, hown, hts⟩ (c_X10_throwsIf_0 l G z ad M_1 (th := 0) (ln := n) (on := on) (ao := ao) (vr := vr) (sn := sn) (tp := tp) (pt := pt) (zs := zs) (bg := bg) (fa := fa) (c0 := 1) hm_5) (cwV 2 hts (gV (lwg_of t_1141 rfl) (lwg_of t_1143 rfl) (lwg_of ts_23 rfl) (lwg_of t_13 rfl) (lwg_of t_1144 rfl)) rfl rfl rfl (by decide +kernel) ⟨Nat.le_of_ble_eq_true rfl, Nat.le_of_ble_eq_true rfl⟩) (hI.preV hm_5 rfl) rfl rfl hl.1 rfl (lv_room (Nat.le_of_ble_eq_true rfl)) dX10_draft_41 ⟨Nat.le_of_ble_eq_true rfl, Nat.le_of_ble_eq_true rfl⟩) (fun _ h => h) (fun r_52 hp_53 => ?_)
        rw [hp_53]
        refine lv_if_eq (tgt := 49) hx hb dX10_draft_44 (by decide) (fun c_54 => ?_) (fun c_54 => ?_)
        · -- 44: nI 0 eq
          refine lv_aload_n hx hb dX10_draft_49 rfl (lv_at hl 0 rfl) ?_
          refine h_get (C := RX10) (T := TX10) (N := 38) hx hb hts i_RX10 hown hI hm_5 rfl 8 (by decide) f_36 rfl rfl dX10_draft_50 ?_
          refine lv_bipush (v := nI 120) hx hb dX10_draft_53 (by decide) ?_
          refine h_iald (i := 120) hx hb hI hm_6 (by omega) (by decide) dX10_draft_55 ?_
          refine lv_bipush (v := nI 6) hx hb dX10_draft_56 (by decide) ?_
          refine lv_icmp_ne (tgt := 63) hx hb dX10_draft_58 (by decide) (fun c_55 => ?_) (fun c_55 => ?_)
          · -- 58: nI (mz 120) ne
            have c_55 : mz 120 ≠ 6 := by have h := mt (nI_eq (a := mz 120) (b := 6) (by omega) (by omega)).mpr c_55; omega
            refine lv_aload_n hx hb dX10_draft_63 rfl (lv_at hl 0 rfl) ?_
            refine h_get (C := RX10) (T := TX10) (N := 38) hx hb hts i_RX10 hown hI hm_5 rfl 9 (by decide) f_39 rfl rfl dX10_draft_64 ?_
            refine lv_sipush (v := nI 720) hx hb dX10_draft_67 (by decide) ?_
            refine lv_aload_n hx hb dX10_draft_70 rfl (lv_at hl 0 rfl) ?_
            refine h_get (C := RX10) (T := TX10) (N := 38) hx hb hts i_RX10 hown hI hm_5 rfl 8 (by decide) f_36 rfl rfl dX10_draft_71 ?_
            refine lv_bipush (v := nI 120) hx hb dX10_draft_74 (by decide) ?_
            refine h_iald (i := 120) hx hb hI hm_6 (by omega) (by decide) dX10_draft_76 ?_
            refine lv_iadd hx hb dX10_draft_77 ?_
            refine n_eq (nI_add 720 (mz 120)) ?_
            refine lv_iload_n hx hb dX10_draft_78 rfl (lv_at hl 1 rfl) ?_
            refine h_iast (i := 720 + (mz 120)) (x := nI x) hx hb hI hm_7 (by omega) (by decide) dX10_draft_79 (fun M_56 H_57 locs_58 eM_59 hI => ?_)
            rw [upd_nF] at eM_59
            have hm_60 : M_56 60 = some (cModel ad 0 n on ao vr sn tp pt zs bg fa) := by rw [eM_59, va_up_ne _ _ (by decide)]; exact hm_5
            have hm_61 : M_56 68 = some (aI G 121 (nF mz)) := by rw [eM_59, va_up_ne _ _ (by decide)]; exact hm_6
            have hm_62 : M_56 69 = some (aI G 726 (nF (va_up rr (720 + (mz 120)) x))) := by rw [eM_59]; exact va_up_self _ _ _
            have hm_63 : M_56 70 = some (aI G 726 (nF ee)) := by rw [eM_59, va_up_ne _ _ (by decide)]; exact hm_8
            have hF_64 : ∀ j : Nat, j ≠ 60 → j ≠ 69 → M_56 j = M j := fun j q0 q1 => by rw [eM_59, va_up_ne _ _ q1]; exact hF_9 j q0
            refine lv_aload_n hx hb dX10_draft_80 rfl (lv_at hl 0 rfl) ?_
            refine h_get (C := RX10) (T := TX10) (N := 38) hx hb hts i_RX10 hown hI hm_60 rfl 10 (by decide) f_42 rfl rfl dX10_draft_81 ?_
            refine lv_sipush (v := nI 720) hx hb dX10_draft_84 (by decide) ?_
            refine lv_aload_n hx hb dX10_draft_87 rfl (lv_at hl 0 rfl) ?_
            refine h_get (C := RX10) (T := TX10) (N := 38) hx hb hts i_RX10 hown hI hm_60 rfl 8 (by decide) f_36 rfl rfl dX10_draft_88 ?_
            refine lv_bipush (v := nI 120) hx hb dX10_draft_91 (by decide) ?_
            refine h_iald (i := 120) hx hb hI hm_61 (by omega) (by decide) dX10_draft_93 ?_
            refine lv_iadd hx hb dX10_draft_94 ?_
            refine n_eq (nI_add 720 (mz 120)) ?_
            refine lv_iload_n hx hb dX10_draft_95 rfl (lv_at hl 2 rfl) ?_
            refine lv_if_eq (tgt := 106) hx hb dX10_draft_96 (by decide) (fun c_65 => ?_) (fun c_65 => ?_)
            · -- 96: bI b eq
              have c_65 : b = false := bI_f (c_65)
              simp_all
            · -- 96: bI b ne
              have c_65 : b = true := bI_t (c_65)
              refine lv_bipush (v := nI 40) hx hb dX10_draft_99 (by decide) ?_
              refine lv_iload_n hx hb dX10_draft_101 rfl (lv_at hl 3 rfl) ?_
              refine lv_iadd hx hb dX10_draft_102 ?_
              refine n_eq (nI_add 40 t) ?_
              refine lv_goto (tgt := 107) hx hb dX10_draft_103 (by decide) ?_
              refine h_iast (i := 720 + (mz 120)) (x := nI (40 + t)) hx hb hI hm_63 (by omega) (by decide) dX10_draft_107 (fun M_66 H_67 locs_68 eM_69 hI => ?_)
              rw [upd_nF] at eM_69
              have hm_70 : M_66 60 = some (cModel ad 0 n on ao vr sn tp pt zs bg fa) := by rw [eM_69, va_up_ne _ _ (by decide)]; exact hm_60
              have hm_71 : M_66 68 = some (aI G 121 (nF mz)) := by rw [eM_69, va_up_ne _ _ (by decide)]; exact hm_61
              have hm_72 : M_66 69 = some (aI G 726 (nF (va_up rr (720 + (mz 120)) x))) := by rw [eM_69, va_up_ne _ _ (by decide)]; exact hm_62
              have hm_73 : M_66 70 = some (aI G 726 (nF (va_up ee (720 + (mz 120)) (40 + t)))) := by rw [eM_69]; exact va_up_self _ _ _
              have hF_74 : ∀ j : Nat, j ≠ 60 → j ≠ 69 → j ≠ 70 → M_66 j = M j := fun j q0 q1 q2 => by rw [eM_69, va_up_ne _ _ q2]; exact hF_64 j q0 q1
              refine lv_aload_n hx hb dX10_draft_108 rfl (lv_at hl 0 rfl) ?_
              refine h_get (C := RX10) (T := TX10) (N := 38) hx hb hts i_RX10 hown hI hm_70 rfl 8 (by decide) f_36 rfl rfl dX10_draft_109 ?_
              refine lv_bipush (v := nI 120) hx hb dX10_draft_112 (by decide) ?_
              refine lv_dup2_11 hx hb dX10_draft_114 rfl rfl ?_
              refine h_iald (i := 120) hx hb hI hm_71 (by omega) (by decide) dX10_draft_115 ?_
              refine lv_iconst (v := nI 1) hx hb dX10_draft_116 (by decide) ?_
              refine lv_iadd hx hb dX10_draft_117 ?_
              refine n_eq (nI_add (mz 120) 1) ?_
              refine h_iast (i := 120) (x := nI ((mz 120) + 1)) hx hb hI hm_71 (by omega) (by decide) dX10_draft_118 (fun M_75 H_76 locs_77 eM_78 hI => ?_)
              rw [upd_nF] at eM_78
              have hm_79 : M_75 60 = some (cModel ad 0 n on ao vr sn tp pt zs bg fa) := by rw [eM_78, va_up_ne _ _ (by decide)]; exact hm_70
              have hm_80 : M_75 68 = some (aI G 121 (nF (va_up mz 120 ((mz 120) + 1)))) := by rw [eM_78]; exact va_up_self _ _ _
              have hm_81 : M_75 69 = some (aI G 726 (nF (va_up rr (720 + (mz 120)) x))) := by rw [eM_78, va_up_ne _ _ (by decide)]; exact hm_72
              have hm_82 : M_75 70 = some (aI G 726 (nF (va_up ee (720 + (mz 120)) (40 + t)))) := by rw [eM_78, va_up_ne _ _ (by decide)]; exact hm_73
              have hF_83 : ∀ j : Nat, j ≠ 60 → j ≠ 69 → j ≠ 70 → j ≠ 68 → M_75 j = M j := fun j q0 q1 q2 q3 => by rw [eM_78, va_up_ne _ _ q3]; exact hF_74 j q0 q1 q2
              refine lv_aload_n hx hb dX10_draft_119 rfl (lv_at hl 0 rfl) ?_
              refine h_get (C := RX10) (T := TX10) (N := 38) hx hb hts i_RX10 hown hI hm_79 rfl 8 (by decide) f_36 rfl rfl dX10_draft_120 ?_
              refine lv_bipush (v := nI 120) hx hb dX10_draft_123 (by decide) ?_
              refine h_iald (i := 120) hx hb hI hm_80 (by omega) (by decide) dX10_draft_125 ?_
              refine n_eq (show _ = nI (mz 120 + 1) from congrArg nI (va_up_self _ _ _)) ?_
              exact e_Ni hx hb hr rfl hlocks hI ⟨rfl, hm_79, hm_80, hm_81, (by rw [show b = true from by assumption]; exact hm_82), (fun j q0 q1 q2 q3 => hF_83 j q0 q2 q3 q1)⟩ dX10_draft_126
          · -- 58: nI (mz 120) eq
            have c_55 : mz 120 = 6 := (nI_eq (a := mz 120) (b := 6) (by omega) (by omega)).mp (c_55)
            omega
        · -- 44: nI 0 ne
          exact absurd (by decide) c_54
      · -- 22: nI 0 ne
        exact absurd (by decide) c_51

/-- X10_draft -/
abbrev rm_c_X10_draft_full : Room := { frames := 2, cells := 0, slots := 0, locals := 43 }
set_option maxHeartbeats 4000000 in
set_option maxRecDepth 100000 in
theorem c_X10_draft_full (l : Launch) (G : GG) (z : Nat) (ad : Nat → Nat) (M : Mem) {th : Nat} {on : Nat} {ao : Nat} {vr : Nat} {sn : Nat} {tp : Nat} {pt : Nat} {zs : Nat} {bg : Nat} {fa : Int32} {n : Nat} {mz : Nat → Nat} {rr : Nat → Nat} {ee : Nat → Nat} {x : Nat} {b : Bool} {t : Nat} (h60 : M 60 = some (cModel ad th n on ao vr sn tp pt zs bg fa)) (h68 : M 68 = some (aI G 121 (nF mz))) (hn : n ≤ 120) (hx6 : x < 6) (hbt : b = true → t < n) (hbf : b = false → t < 40) (hs0 : mz 120 = 6) : Met l yX10_draft wsX10_draft rm_c_X10_draft_full (Pr G z ad M [.ref (ad 60), .int (nI x), .int (bI b), .int (nI t)]) (Ni G z ad (fun (r : Int32) (M' : Mem) => r = (-1) ∧ M' 60 = some (cModel ad 0 n on ao vr sn tp pt zs bg fa) ∧ (∀ j : Nat, j ≠ 60 → M' j = M j))) 0 0 (fr z) := by
  refine Met.ofW (cc := cX10_draft) (maxL := 4) (ret := (some .int)) (by decide) rfl ?_
  intro p e s m args below meth c s₁ B hml hv
  obtain ⟨rfl, hv⟩ := hv
  have hI := Iv.entry hv
  have hx := B.exec
  have hb := B.bytes
  have hr := B.returns
  have hts := atoms_spec (ws := wsX10_draft) B.pre
  have hown : s.vm.findClass RX10 = some m.cls := findClass_of_methodNamed B.named
  have hlocks := B.notSynchronized
  have f_3 := hts _ (List.mem_cons_of_mem _ (lwg_of t_1013 rfl))
  have i_RX10 : ∀ w ∈ u_ws RX10 TX10 38, w ∈ wsX10_draft := fun w h => List.mem_cons_of_mem _ (iu_X10 w h)
  have f_36 := hts _ (List.mem_cons_of_mem _ (lwg_of t_1021 rfl))
  have hl := lv_entry ([.ref (ad 60), .int (nI x), .int (bI b), .int (nI t)]) (n := 4) (Nat.le_of_ble_eq_true rfl)
  rw [lg_entry_eq]
  generalize (lg_sl ([.ref (ad 60), .int (nI x), .int (bI b), .int (nI t)]) ++ List.replicate (4 - (lg_sl ([.ref (ad 60), .int (nI x), .int (bI b), .int (nI t)])).length) Slot.unset).toArray = ls at hl ⊢
  have hl : lv_has ls 4 [(0, .ref (ad 60)), (1, .int (nI x)), (2, .int (bI b)), (3, .int (nI t))] := hl
  refine lv_aload_n hx hb dX10_draft_0 rfl (lv_at hl 0 rfl) ?_
  refine lv_iconst (v := nI 0) hx hb dX10_draft_1 (by decide) ?_
  refine h_put (C := RX10) (T := TX10) (N := 38) hx hb hts i_RX10 tyX10 tyX10_ok nmX10 hown hI h60 rfl 0 (by decide) f_3 rfl rfl rfl rfl (Nat.le_of_ble_eq_true rfl) dX10_draft_2 (fun M_1 H_2 locs_3 eM_4 hI => ?_)
  have hm_5 : M_1 60 = some (cModel ad 0 n on ao vr sn tp pt zs bg fa) := by rw [eM_4]; exact va_up_self _ _ _
  have hm_6 : M_1 68 = some (aI G 121 (nF mz)) := by rw [eM_4, va_up_ne _ _ (by decide)]; exact h68
  have hF_7 : ∀ j : Nat, j ≠ 60 → M_1 j = M j := fun j q0 => by rw [eM_4, va_up_ne _ _ q0]
  refine lv_aload_n hx hb dX10_draft_5 rfl (lv_at hl 0 rfl) ?_
  refine lv_iload_n hx hb dX10_draft_6 rfl (lv_at hl 1 rfl) ?_
  refine k_Ri (va_runS (As := [.int (nI x)]) (rest := [.ref (ad 60)]) ⟨hx, hb, hml, hown, hts⟩ (c_X10_noRole_0 l G z ad M_1 (t := x) (by omega)) (va_cwS 1 hts (gS (lwg_of t_1138 rfl) (lwg_of t_1139 rfl) (lwg_of t_13 rfl) (lwg_of t_1140 rfl)) rfl rfl rfl (by decide +kernel) ⟨Nat.le_of_ble_eq_true rfl, Nat.le_of_ble_eq_true rfl⟩) hI.preS rfl rfl hl.1 rfl (lv_room (Nat.le_of_ble_eq_true rfl)) dX10_draft_7 ⟨Nat.le_of_ble_eq_true rfl, Nat.le_of_ble_eq_true rfl⟩) (fun _ h => h) (fun r_8 hp_9 => ?_)
  rw [hp_9]
  refine lv_if_ne (tgt := 35) hx hb dX10_draft_10 (by decide) (fun c_10 => ?_) (fun c_10 => ?_)
  · -- 10: nI 0 ne
    exact absurd (by decide) c_10
  · -- 10: nI 0 eq
    refine lv_iload_n hx hb dX10_draft_13 rfl (lv_at hl 2 rfl) ?_
    refine lv_if_eq (tgt := 28) hx hb dX10_draft_14 (by decide) (fun c_11 => ?_) (fun c_11 => ?_)
    · -- 14: bI b eq
      have c_11 : b = false := bI_f (c_11)
      refine lv_iload_n hx hb dX10_draft_28 rfl (lv_at hl 3 rfl) ?_
      refine k_Ri (va_runS (As := [.int (nI t)]) (rest := [.ref (ad 60)]) ⟨hx, hb, hml, hown, hts⟩ (c_X10_noThing_0 l G z ad M_1 (t := t) (hbf (by assumption))) (va_cwS 1 hts (gS (lwg_of t_1161 rfl) (lwg_of t_1162 rfl) (lwg_of t_13 rfl) (lwg_of t_1163 rfl)) rfl rfl rfl (by decide +kernel) ⟨Nat.le_of_ble_eq_true rfl, Nat.le_of_ble_eq_true rfl⟩) hI.preS rfl rfl hl.1 rfl (lv_room (Nat.le_of_ble_eq_true rfl)) dX10_draft_29 ⟨Nat.le_of_ble_eq_true rfl, Nat.le_of_ble_eq_true rfl⟩) (fun _ h => h) (fun r_12 hp_13 => ?_)
      rw [hp_13]
      refine lv_if_eq (tgt := 39) hx hb dX10_draft_32 (by decide) (fun c_14 => ?_) (fun c_14 => ?_)
      · -- 32: nI 0 eq
        refine lv_iconst (v := nI 0) hx hb dX10_draft_39 (by decide) ?_
        refine lv_iconst (v := nI 1) hx hb dX10_draft_40 (by decide) ?_
        refine k_Ri (va_runV (As := [.int (nI 0), .int (nI 1)]) (rest := []) ⟨hx, hb, hml, hown, hts⟩ (c_X10_throwsIf_0 l G z ad M_1 (th := 0) (ln := n) (on := on) (ao := ao) (vr := vr) (sn := sn) (tp := tp) (pt := pt) (zs := zs) (bg := bg) (fa := fa) (c0 := 1) hm_5) (cwV 2 hts (gV (lwg_of t_1141 rfl) (lwg_of t_1143 rfl) (lwg_of ts_23 rfl) (lwg_of t_13 rfl) (lwg_of t_1144 rfl)) rfl rfl rfl (by decide +kernel) ⟨Nat.le_of_ble_eq_true rfl, Nat.le_of_ble_eq_true rfl⟩) (hI.preV hm_5 rfl) rfl rfl hl.1 rfl (lv_room (Nat.le_of_ble_eq_true rfl)) dX10_draft_41 ⟨Nat.le_of_ble_eq_true rfl, Nat.le_of_ble_eq_true rfl⟩) (fun _ h => h) (fun r_15 hp_16 => ?_)
        rw [hp_16]
        refine lv_if_eq (tgt := 49) hx hb dX10_draft_44 (by decide) (fun c_17 => ?_) (fun c_17 => ?_)
        · -- 44: nI 0 eq
          refine lv_aload_n hx hb dX10_draft_49 rfl (lv_at hl 0 rfl) ?_
          refine h_get (C := RX10) (T := TX10) (N := 38) hx hb hts i_RX10 hown hI hm_5 rfl 8 (by decide) f_36 rfl rfl dX10_draft_50 ?_
          refine lv_bipush (v := nI 120) hx hb dX10_draft_53 (by decide) ?_
          refine h_iald (i := 120) hx hb hI hm_6 (by omega) (by decide) dX10_draft_55 ?_
          refine lv_bipush (v := nI 6) hx hb dX10_draft_56 (by decide) ?_
          refine lv_icmp_ne (tgt := 63) hx hb dX10_draft_58 (by decide) (fun c_18 => ?_) (fun c_18 => ?_)
          · -- 58: nI (mz 120) ne
            have c_18 : mz 120 ≠ 6 := by have h := mt (nI_eq (a := mz 120) (b := 6) (by omega) (by omega)).mpr c_18; omega
            omega
          · -- 58: nI (mz 120) eq
            have c_18 : mz 120 = 6 := (nI_eq (a := mz 120) (b := 6) (by omega) (by omega)).mp (c_18)
            refine lv_iconst (v := (-1)) hx hb dX10_draft_61 (by decide) ?_
            exact e_Ni hx hb hr rfl hlocks hI ⟨rfl, hm_5, (fun j q0 => hF_7 j q0)⟩ dX10_draft_62
        · -- 44: nI 0 ne
          exact absurd (by decide) c_17
      · -- 32: nI 0 ne
        exact absurd (by decide) c_14
    · -- 14: bI b ne
      have c_11 : b = true := bI_t (c_11)
      refine lv_aload_n hx hb dX10_draft_17 rfl (lv_at hl 0 rfl) ?_
      refine lv_iload_n hx hb dX10_draft_18 rfl (lv_at hl 3 rfl) ?_
      refine k_Ri (va_runV (As := [.int (nI t)]) (rest := [.ref (ad 60)]) ⟨hx, hb, hml, hown, hts⟩ (c_X10_noLine_0 l G z ad M_1 (th := 0) (ln := n) (on := on) (ao := ao) (vr := vr) (sn := sn) (tp := tp) (pt := pt) (zs := zs) (bg := bg) (fa := fa) (t := t) hm_5 (hbt (by assumption)) (by omega)) (cwV 1 hts (gV (lwg_of t_1157 rfl) (lwg_of t_1159 rfl) (lwg_of ts_24 rfl) (lwg_of t_13 rfl) (lwg_of t_1160 rfl)) rfl rfl rfl (by decide +kernel) ⟨Nat.le_of_ble_eq_true rfl, Nat.le_of_ble_eq_true rfl⟩) (hI.preV hm_5 rfl) rfl rfl hl.1 rfl (lv_room (Nat.le_of_ble_eq_true rfl)) dX10_draft_19 ⟨Nat.le_of_ble_eq_true rfl, Nat.le_of_ble_eq_true rfl⟩) (fun _ h => h) (fun r_19 hp_20 => ?_)
      rw [hp_20]
      refine lv_if_eq (tgt := 39) hx hb dX10_draft_22 (by decide) (fun c_21 => ?_) (fun c_21 => ?_)
      · -- 22: nI 0 eq
        refine lv_iconst (v := nI 0) hx hb dX10_draft_39 (by decide) ?_
        refine lv_iconst (v := nI 1) hx hb dX10_draft_40 (by decide) ?_
        refine k_Ri (va_runV (As := [.int (nI 0), .int (nI 1)]) (rest := []) ⟨hx, hb, hml, hown, hts⟩ (c_X10_throwsIf_0 l G z ad M_1 (th := 0) (ln := n) (on := on) (ao := ao) (vr := vr) (sn := sn) (tp := tp) (pt := pt) (zs := zs) (bg := bg) (fa := fa) (c0 := 1) hm_5) (cwV 2 hts (gV (lwg_of t_1141 rfl) (lwg_of t_1143 rfl) (lwg_of ts_23 rfl) (lwg_of t_13 rfl) (lwg_of t_1144 rfl)) rfl rfl rfl (by decide +kernel) ⟨Nat.le_of_ble_eq_true rfl, Nat.le_of_ble_eq_true rfl⟩) (hI.preV hm_5 rfl) rfl rfl hl.1 rfl (lv_room (Nat.le_of_ble_eq_true rfl)) dX10_draft_41 ⟨Nat.le_of_ble_eq_true rfl, Nat.le_of_ble_eq_true rfl⟩) (fun _ h => h) (fun r_22 hp_23 => ?_)
        rw [hp_23]
        refine lv_if_eq (tgt := 49) hx hb dX10_draft_44 (by decide) (fun c_24 => ?_) (fun c_24 => ?_)
        · -- 44: nI 0 eq
          refine lv_aload_n hx hb dX10_draft_49 rfl (lv_at hl 0 rfl) ?_
          refine h_get (C := RX10) (T := TX10) (N := 38) hx hb hts i_RX10 hown hI hm_5 rfl 8 (by decide) f_36 rfl rfl dX10_draft_50 ?_
          refine lv_bipush (v := nI 120) hx hb dX10_draft_53 (by decide) ?_
          refine h_iald (i := 120) hx hb hI hm_6 (by omega) (by decide) dX10_draft_55 ?_
          refine lv_bipush (v := nI 6) hx hb dX10_draft_56 (by decide) ?_
          refine lv_icmp_ne (tgt := 63) hx hb dX10_draft_58 (by decide) (fun c_25 => ?_) (fun c_25 => ?_)
          · -- 58: nI (mz 120) ne
            have c_25 : mz 120 ≠ 6 := by have h := mt (nI_eq (a := mz 120) (b := 6) (by omega) (by omega)).mpr c_25; omega
            omega
          · -- 58: nI (mz 120) eq
            have c_25 : mz 120 = 6 := (nI_eq (a := mz 120) (b := 6) (by omega) (by omega)).mp (c_25)
            refine lv_iconst (v := (-1)) hx hb dX10_draft_61 (by decide) ?_
            exact e_Ni hx hb hr rfl hlocks hI ⟨rfl, hm_5, (fun j q0 => hF_7 j q0)⟩ dX10_draft_62
        · -- 44: nI 0 ne
          exact absurd (by decide) c_24
      · -- 22: nI 0 ne
        exact absurd (by decide) c_21

/-- X10_draft -/
abbrev rm_c_X10_draft_a : Room := { frames := 2, cells := 0, slots := 0, locals := 42 }
set_option maxHeartbeats 4000000 in
set_option maxRecDepth 100000 in
theorem c_X10_draft_a (l : Launch) (G : GG) (z : Nat) (ad : Nat → Nat) (M : Mem) {th : Nat} {ln : Nat} {on : Nat} {ao : Nat} {vr : Nat} {sn : Nat} {tp : Nat} {pt : Nat} {zs : Nat} {bg : Nat} {fa : Int32} {x0 : Int32} {x1 : Int32} {b : Bool} (h60 : M 60 = some (cModel ad th ln on ao vr sn tp pt zs bg fa)) (hbad : x0 < 0 ∨ ¬ x0 < nI 6) : Met l yX10_draft wsX10_draft rm_c_X10_draft_a (Pr G z ad M [.ref (ad 60), .int x0, .int (bI b), .int x1]) (Ni G z ad (fun (r : Int32) (M' : Mem) => r = nI 0 ∧ M' 60 = some (cModel ad 1 ln on ao vr sn tp pt zs bg fa) ∧ (∀ j : Nat, j ≠ 60 → M' j = M j))) 0 0 (fr z) := by
  refine Met.ofW (cc := cX10_draft) (maxL := 4) (ret := (some .int)) (by decide) rfl ?_
  intro p e s m args below meth c s₁ B hml hv
  obtain ⟨rfl, hv⟩ := hv
  have hI := Iv.entry hv
  have hx := B.exec
  have hb := B.bytes
  have hr := B.returns
  have hts := atoms_spec (ws := wsX10_draft) B.pre
  have hown : s.vm.findClass RX10 = some m.cls := findClass_of_methodNamed B.named
  have hlocks := B.notSynchronized
  have f_3 := hts _ (List.mem_cons_of_mem _ (lwg_of t_1013 rfl))
  have i_RX10 : ∀ w ∈ u_ws RX10 TX10 38, w ∈ wsX10_draft := fun w h => List.mem_cons_of_mem _ (iu_X10 w h)
  have hl := lv_entry ([.ref (ad 60), .int x0, .int (bI b), .int x1]) (n := 4) (Nat.le_of_ble_eq_true rfl)
  rw [lg_entry_eq]
  generalize (lg_sl ([.ref (ad 60), .int x0, .int (bI b), .int x1]) ++ List.replicate (4 - (lg_sl ([.ref (ad 60), .int x0, .int (bI b), .int x1])).length) Slot.unset).toArray = ls at hl ⊢
  have hl : lv_has ls 4 [(0, .ref (ad 60)), (1, .int x0), (2, .int (bI b)), (3, .int x1)] := hl
  refine lv_aload_n hx hb dX10_draft_0 rfl (lv_at hl 0 rfl) ?_
  refine lv_iconst (v := nI 0) hx hb dX10_draft_1 (by decide) ?_
  refine h_put (C := RX10) (T := TX10) (N := 38) hx hb hts i_RX10 tyX10 tyX10_ok nmX10 hown hI h60 rfl 0 (by decide) f_3 rfl rfl rfl rfl (Nat.le_of_ble_eq_true rfl) dX10_draft_2 (fun M_1 H_2 locs_3 eM_4 hI => ?_)
  have hm_5 : M_1 60 = some (cModel ad 0 ln on ao vr sn tp pt zs bg fa) := by rw [eM_4]; exact va_up_self _ _ _
  have hF_6 : ∀ j : Nat, j ≠ 60 → M_1 j = M j := fun j q0 => by rw [eM_4, va_up_ne _ _ q0]
  refine lv_aload_n hx hb dX10_draft_5 rfl (lv_at hl 0 rfl) ?_
  refine lv_iload_n hx hb dX10_draft_6 rfl (lv_at hl 1 rfl) ?_
  refine k_Ri (va_runS (As := [.int x0]) (rest := [.ref (ad 60)]) ⟨hx, hb, hml, hown, hts⟩ (c_X10_noRole_1 l G z ad M_1 (x := x0) hbad) (va_cwS 1 hts (gS (lwg_of t_1138 rfl) (lwg_of t_1139 rfl) (lwg_of t_13 rfl) (lwg_of t_1140 rfl)) rfl rfl rfl (by decide +kernel) ⟨Nat.le_of_ble_eq_true rfl, Nat.le_of_ble_eq_true rfl⟩) hI.preS rfl rfl hl.1 rfl (lv_room (Nat.le_of_ble_eq_true rfl)) dX10_draft_7 ⟨Nat.le_of_ble_eq_true rfl, Nat.le_of_ble_eq_true rfl⟩) (fun _ h => h) (fun r_7 hp_8 => ?_)
  rw [hp_8]
  refine lv_if_ne (tgt := 35) hx hb dX10_draft_10 (by decide) (fun c_9 => ?_) (fun c_9 => ?_)
  · -- 10: nI 1 ne
    refine lv_iconst (v := nI 1) hx hb dX10_draft_35 (by decide) ?_
    refine lv_goto (tgt := 40) hx hb dX10_draft_36 (by decide) ?_
    refine lv_iconst (v := nI 1) hx hb dX10_draft_40 (by decide) ?_
    refine k_Ni (va_runV (As := [.int (nI 1), .int (nI 1)]) (rest := []) ⟨hx, hb, hml, hown, hts⟩ (c_X10_throwsIf_1 l G z ad M_1 (th := 0) (ln := ln) (on := on) (ao := ao) (vr := vr) (sn := sn) (tp := tp) (pt := pt) (zs := zs) (bg := bg) (fa := fa) (c0 := 1) hm_5) (cwV 2 hts (gV (lwg_of t_1141 rfl) (lwg_of t_1143 rfl) (lwg_of ts_23 rfl) (lwg_of t_13 rfl) (lwg_of t_1144 rfl)) rfl rfl rfl (by decide +kernel) ⟨Nat.le_of_ble_eq_true rfl, Nat.le_of_ble_eq_true rfl⟩) (hI.preV hm_5 rfl) rfl rfl hl.1 rfl (lv_room (Nat.le_of_ble_eq_true rfl)) dX10_draft_41 ⟨Nat.le_of_ble_eq_true rfl, Nat.le_of_ble_eq_true rfl⟩) hI (fun r_10 M_12 H_13 locs_14 hp_11 hI => ?_)
    obtain ⟨hr_15, hm_16, hF_17⟩ := hp_11
    have hF_18 : ∀ j : Nat, j ≠ 60 → M_12 j = M j := fun j q0 => (hF_17 j q0).trans (hF_6 j q0)
    rw [hr_15]
    refine lv_if_eq (tgt := 49) hx hb dX10_draft_44 (by decide) (fun c_19 => ?_) (fun c_19 => ?_)
    · -- 44: nI 1 eq
      exact absurd c_19 (by decide)
    · -- 44: nI 1 ne
      refine lv_iconst (v := nI 0) hx hb dX10_draft_47 (by decide) ?_
      exact e_Ni hx hb hr rfl hlocks hI ⟨rfl, hm_16, (fun j q0 => hF_18 j q0)⟩ dX10_draft_48
  · -- 10: nI 1 eq
    exact absurd c_9 (by decide)

/-- X10_draft -/
abbrev rm_c_X10_draft_b : Room := { frames := 2, cells := 0, slots := 0, locals := 43 }
set_option maxHeartbeats 4000000 in
set_option maxRecDepth 100000 in
theorem c_X10_draft_b (l : Launch) (G : GG) (z : Nat) (ad : Nat → Nat) (M : Mem) {th : Nat} {on : Nat} {ao : Nat} {vr : Nat} {sn : Nat} {tp : Nat} {pt : Nat} {zs : Nat} {bg : Nat} {fa : Int32} {n : Nat} {ro : Nat} {x1 : Int32} {b : Bool} (h60 : M 60 = some (cModel ad th n on ao vr sn tp pt zs bg fa)) (hn : n ≤ 120) (hro : ro < 6) (hbt : b = true) (hbad : x1 < 0 ∨ ¬ x1 < nI n) : Met l yX10_draft wsX10_draft rm_c_X10_draft_b (Pr G z ad M [.ref (ad 60), .int (nI ro), .int (bI b), .int x1]) (Ni G z ad (fun (r : Int32) (M' : Mem) => r = nI 0 ∧ M' 60 = some (cModel ad 1 n on ao vr sn tp pt zs bg fa) ∧ (∀ j : Nat, j ≠ 60 → M' j = M j))) 0 0 (fr z) := by
  refine Met.ofW (cc := cX10_draft) (maxL := 4) (ret := (some .int)) (by decide) rfl ?_
  intro p e s m args below meth c s₁ B hml hv
  obtain ⟨rfl, hv⟩ := hv
  have hI := Iv.entry hv
  have hx := B.exec
  have hb := B.bytes
  have hr := B.returns
  have hts := atoms_spec (ws := wsX10_draft) B.pre
  have hown : s.vm.findClass RX10 = some m.cls := findClass_of_methodNamed B.named
  have hlocks := B.notSynchronized
  have f_3 := hts _ (List.mem_cons_of_mem _ (lwg_of t_1013 rfl))
  have i_RX10 : ∀ w ∈ u_ws RX10 TX10 38, w ∈ wsX10_draft := fun w h => List.mem_cons_of_mem _ (iu_X10 w h)
  have hl := lv_entry ([.ref (ad 60), .int (nI ro), .int (bI b), .int x1]) (n := 4) (Nat.le_of_ble_eq_true rfl)
  rw [lg_entry_eq]
  generalize (lg_sl ([.ref (ad 60), .int (nI ro), .int (bI b), .int x1]) ++ List.replicate (4 - (lg_sl ([.ref (ad 60), .int (nI ro), .int (bI b), .int x1])).length) Slot.unset).toArray = ls at hl ⊢
  have hl : lv_has ls 4 [(0, .ref (ad 60)), (1, .int (nI ro)), (2, .int (bI b)), (3, .int x1)] := hl
  refine lv_aload_n hx hb dX10_draft_0 rfl (lv_at hl 0 rfl) ?_
  refine lv_iconst (v := nI 0) hx hb dX10_draft_1 (by decide) ?_
  refine h_put (C := RX10) (T := TX10) (N := 38) hx hb hts i_RX10 tyX10 tyX10_ok nmX10 hown hI h60 rfl 0 (by decide) f_3 rfl rfl rfl rfl (Nat.le_of_ble_eq_true rfl) dX10_draft_2 (fun M_1 H_2 locs_3 eM_4 hI => ?_)
  have hm_5 : M_1 60 = some (cModel ad 0 n on ao vr sn tp pt zs bg fa) := by rw [eM_4]; exact va_up_self _ _ _
  have hF_6 : ∀ j : Nat, j ≠ 60 → M_1 j = M j := fun j q0 => by rw [eM_4, va_up_ne _ _ q0]
  refine lv_aload_n hx hb dX10_draft_5 rfl (lv_at hl 0 rfl) ?_
  refine lv_iload_n hx hb dX10_draft_6 rfl (lv_at hl 1 rfl) ?_
  refine k_Ri (va_runS (As := [.int (nI ro)]) (rest := [.ref (ad 60)]) ⟨hx, hb, hml, hown, hts⟩ (c_X10_noRole_0 l G z ad M_1 (t := ro) (by omega)) (va_cwS 1 hts (gS (lwg_of t_1138 rfl) (lwg_of t_1139 rfl) (lwg_of t_13 rfl) (lwg_of t_1140 rfl)) rfl rfl rfl (by decide +kernel) ⟨Nat.le_of_ble_eq_true rfl, Nat.le_of_ble_eq_true rfl⟩) hI.preS rfl rfl hl.1 rfl (lv_room (Nat.le_of_ble_eq_true rfl)) dX10_draft_7 ⟨Nat.le_of_ble_eq_true rfl, Nat.le_of_ble_eq_true rfl⟩) (fun _ h => h) (fun r_7 hp_8 => ?_)
  rw [hp_8]
  refine lv_if_ne (tgt := 35) hx hb dX10_draft_10 (by decide) (fun c_9 => ?_) (fun c_9 => ?_)
  · -- 10: nI 0 ne
    exact absurd (by decide) c_9
  · -- 10: nI 0 eq
    refine lv_iload_n hx hb dX10_draft_13 rfl (lv_at hl 2 rfl) ?_
    refine lv_if_eq (tgt := 28) hx hb dX10_draft_14 (by decide) (fun c_10 => ?_) (fun c_10 => ?_)
    · -- 14: bI b eq
      have c_10 : b = false := bI_f (c_10)
      simp_all
    · -- 14: bI b ne
      have c_10 : b = true := bI_t (c_10)
      refine lv_aload_n hx hb dX10_draft_17 rfl (lv_at hl 0 rfl) ?_
      refine lv_iload_n hx hb dX10_draft_18 rfl (lv_at hl 3 rfl) ?_
      refine k_Ri (va_runV (As := [.int x1]) (rest := [.ref (ad 60)]) ⟨hx, hb, hml, hown, hts⟩ (c_X10_noLine_1 l G z ad M_1 (th := 0) (ln := n) (on := on) (ao := ao) (vr := vr) (sn := sn) (tp := tp) (pt := pt) (zs := zs) (bg := bg) (fa := fa) (x := x1) hm_5 hbad (by omega)) (cwV 1 hts (gV (lwg_of t_1157 rfl) (lwg_of t_1159 rfl) (lwg_of ts_24 rfl) (lwg_of t_13 rfl) (lwg_of t_1160 rfl)) rfl rfl rfl (by decide +kernel) ⟨Nat.le_of_ble_eq_true rfl, Nat.le_of_ble_eq_true rfl⟩) (hI.preV hm_5 rfl) rfl rfl hl.1 rfl (lv_room (Nat.le_of_ble_eq_true rfl)) dX10_draft_19 ⟨Nat.le_of_ble_eq_true rfl, Nat.le_of_ble_eq_true rfl⟩) (fun _ h => h) (fun r_11 hp_12 => ?_)
      rw [hp_12]
      refine lv_if_eq (tgt := 39) hx hb dX10_draft_22 (by decide) (fun c_13 => ?_) (fun c_13 => ?_)
      · -- 22: nI 1 eq
        exact absurd c_13 (by decide)
      · -- 22: nI 1 ne
        refine lv_goto (tgt := 35) hx hb dX10_draft_25 (by decide) ?_
        refine lv_iconst (v := nI 1) hx hb dX10_draft_35 (by decide) ?_
        refine lv_goto (tgt := 40) hx hb dX10_draft_36 (by decide) ?_
        refine lv_iconst (v := nI 1) hx hb dX10_draft_40 (by decide) ?_
        refine k_Ni (va_runV (As := [.int (nI 1), .int (nI 1)]) (rest := []) ⟨hx, hb, hml, hown, hts⟩ (c_X10_throwsIf_1 l G z ad M_1 (th := 0) (ln := n) (on := on) (ao := ao) (vr := vr) (sn := sn) (tp := tp) (pt := pt) (zs := zs) (bg := bg) (fa := fa) (c0 := 1) hm_5) (cwV 2 hts (gV (lwg_of t_1141 rfl) (lwg_of t_1143 rfl) (lwg_of ts_23 rfl) (lwg_of t_13 rfl) (lwg_of t_1144 rfl)) rfl rfl rfl (by decide +kernel) ⟨Nat.le_of_ble_eq_true rfl, Nat.le_of_ble_eq_true rfl⟩) (hI.preV hm_5 rfl) rfl rfl hl.1 rfl (lv_room (Nat.le_of_ble_eq_true rfl)) dX10_draft_41 ⟨Nat.le_of_ble_eq_true rfl, Nat.le_of_ble_eq_true rfl⟩) hI (fun r_14 M_16 H_17 locs_18 hp_15 hI => ?_)
        obtain ⟨hr_19, hm_20, hF_21⟩ := hp_15
        have hF_22 : ∀ j : Nat, j ≠ 60 → M_16 j = M j := fun j q0 => (hF_21 j q0).trans (hF_6 j q0)
        rw [hr_19]
        refine lv_if_eq (tgt := 49) hx hb dX10_draft_44 (by decide) (fun c_23 => ?_) (fun c_23 => ?_)
        · -- 44: nI 1 eq
          exact absurd c_23 (by decide)
        · -- 44: nI 1 ne
          refine lv_iconst (v := nI 0) hx hb dX10_draft_47 (by decide) ?_
          exact e_Ni hx hb hr rfl hlocks hI ⟨rfl, hm_20, (fun j q0 => hF_22 j q0)⟩ dX10_draft_48

/-- X10_draft -/
abbrev rm_c_X10_draft_c : Room := { frames := 2, cells := 0, slots := 0, locals := 42 }
set_option maxHeartbeats 4000000 in
set_option maxRecDepth 100000 in
theorem c_X10_draft_c (l : Launch) (G : GG) (z : Nat) (ad : Nat → Nat) (M : Mem) {th : Nat} {ln : Nat} {on : Nat} {ao : Nat} {vr : Nat} {sn : Nat} {tp : Nat} {pt : Nat} {zs : Nat} {bg : Nat} {fa : Int32} {ro : Nat} {x1 : Int32} {b : Bool} (h60 : M 60 = some (cModel ad th ln on ao vr sn tp pt zs bg fa)) (hro : ro < 6) (hbt : b = false) (hbad : x1 < 0 ∨ ¬ x1 < nI 40) : Met l yX10_draft wsX10_draft rm_c_X10_draft_c (Pr G z ad M [.ref (ad 60), .int (nI ro), .int (bI b), .int x1]) (Ni G z ad (fun (r : Int32) (M' : Mem) => r = nI 0 ∧ M' 60 = some (cModel ad 1 ln on ao vr sn tp pt zs bg fa) ∧ (∀ j : Nat, j ≠ 60 → M' j = M j))) 0 0 (fr z) := by
  refine Met.ofW (cc := cX10_draft) (maxL := 4) (ret := (some .int)) (by decide) rfl ?_
  intro p e s m args below meth c s₁ B hml hv
  obtain ⟨rfl, hv⟩ := hv
  have hI := Iv.entry hv
  have hx := B.exec
  have hb := B.bytes
  have hr := B.returns
  have hts := atoms_spec (ws := wsX10_draft) B.pre
  have hown : s.vm.findClass RX10 = some m.cls := findClass_of_methodNamed B.named
  have hlocks := B.notSynchronized
  have f_3 := hts _ (List.mem_cons_of_mem _ (lwg_of t_1013 rfl))
  have i_RX10 : ∀ w ∈ u_ws RX10 TX10 38, w ∈ wsX10_draft := fun w h => List.mem_cons_of_mem _ (iu_X10 w h)
  have hl := lv_entry ([.ref (ad 60), .int (nI ro), .int (bI b), .int x1]) (n := 4) (Nat.le_of_ble_eq_true rfl)
  rw [lg_entry_eq]
  generalize (lg_sl ([.ref (ad 60), .int (nI ro), .int (bI b), .int x1]) ++ List.replicate (4 - (lg_sl ([.ref (ad 60), .int (nI ro), .int (bI b), .int x1])).length) Slot.unset).toArray = ls at hl ⊢
  have hl : lv_has ls 4 [(0, .ref (ad 60)), (1, .int (nI ro)), (2, .int (bI b)), (3, .int x1)] := hl
  refine lv_aload_n hx hb dX10_draft_0 rfl (lv_at hl 0 rfl) ?_
  refine lv_iconst (v := nI 0) hx hb dX10_draft_1 (by decide) ?_
  refine h_put (C := RX10) (T := TX10) (N := 38) hx hb hts i_RX10 tyX10 tyX10_ok nmX10 hown hI h60 rfl 0 (by decide) f_3 rfl rfl rfl rfl (Nat.le_of_ble_eq_true rfl) dX10_draft_2 (fun M_1 H_2 locs_3 eM_4 hI => ?_)
  have hm_5 : M_1 60 = some (cModel ad 0 ln on ao vr sn tp pt zs bg fa) := by rw [eM_4]; exact va_up_self _ _ _
  have hF_6 : ∀ j : Nat, j ≠ 60 → M_1 j = M j := fun j q0 => by rw [eM_4, va_up_ne _ _ q0]
  refine lv_aload_n hx hb dX10_draft_5 rfl (lv_at hl 0 rfl) ?_
  refine lv_iload_n hx hb dX10_draft_6 rfl (lv_at hl 1 rfl) ?_
  refine k_Ri (va_runS (As := [.int (nI ro)]) (rest := [.ref (ad 60)]) ⟨hx, hb, hml, hown, hts⟩ (c_X10_noRole_0 l G z ad M_1 (t := ro) (by omega)) (va_cwS 1 hts (gS (lwg_of t_1138 rfl) (lwg_of t_1139 rfl) (lwg_of t_13 rfl) (lwg_of t_1140 rfl)) rfl rfl rfl (by decide +kernel) ⟨Nat.le_of_ble_eq_true rfl, Nat.le_of_ble_eq_true rfl⟩) hI.preS rfl rfl hl.1 rfl (lv_room (Nat.le_of_ble_eq_true rfl)) dX10_draft_7 ⟨Nat.le_of_ble_eq_true rfl, Nat.le_of_ble_eq_true rfl⟩) (fun _ h => h) (fun r_7 hp_8 => ?_)
  rw [hp_8]
  refine lv_if_ne (tgt := 35) hx hb dX10_draft_10 (by decide) (fun c_9 => ?_) (fun c_9 => ?_)
  · -- 10: nI 0 ne
    exact absurd (by decide) c_9
  · -- 10: nI 0 eq
    refine lv_iload_n hx hb dX10_draft_13 rfl (lv_at hl 2 rfl) ?_
    refine lv_if_eq (tgt := 28) hx hb dX10_draft_14 (by decide) (fun c_10 => ?_) (fun c_10 => ?_)
    · -- 14: bI b eq
      have c_10 : b = false := bI_f (c_10)
      refine lv_iload_n hx hb dX10_draft_28 rfl (lv_at hl 3 rfl) ?_
      refine k_Ri (va_runS (As := [.int x1]) (rest := [.ref (ad 60)]) ⟨hx, hb, hml, hown, hts⟩ (c_X10_noThing_1 l G z ad M_1 (x := x1) hbad) (va_cwS 1 hts (gS (lwg_of t_1161 rfl) (lwg_of t_1162 rfl) (lwg_of t_13 rfl) (lwg_of t_1163 rfl)) rfl rfl rfl (by decide +kernel) ⟨Nat.le_of_ble_eq_true rfl, Nat.le_of_ble_eq_true rfl⟩) hI.preS rfl rfl hl.1 rfl (lv_room (Nat.le_of_ble_eq_true rfl)) dX10_draft_29 ⟨Nat.le_of_ble_eq_true rfl, Nat.le_of_ble_eq_true rfl⟩) (fun _ h => h) (fun r_11 hp_12 => ?_)
      rw [hp_12]
      refine lv_if_eq (tgt := 39) hx hb dX10_draft_32 (by decide) (fun c_13 => ?_) (fun c_13 => ?_)
      · -- 32: nI 1 eq
        exact absurd c_13 (by decide)
      · -- 32: nI 1 ne
        refine lv_iconst (v := nI 1) hx hb dX10_draft_35 (by decide) ?_
        refine lv_goto (tgt := 40) hx hb dX10_draft_36 (by decide) ?_
        refine lv_iconst (v := nI 1) hx hb dX10_draft_40 (by decide) ?_
        refine k_Ni (va_runV (As := [.int (nI 1), .int (nI 1)]) (rest := []) ⟨hx, hb, hml, hown, hts⟩ (c_X10_throwsIf_1 l G z ad M_1 (th := 0) (ln := ln) (on := on) (ao := ao) (vr := vr) (sn := sn) (tp := tp) (pt := pt) (zs := zs) (bg := bg) (fa := fa) (c0 := 1) hm_5) (cwV 2 hts (gV (lwg_of t_1141 rfl) (lwg_of t_1143 rfl) (lwg_of ts_23 rfl) (lwg_of t_13 rfl) (lwg_of t_1144 rfl)) rfl rfl rfl (by decide +kernel) ⟨Nat.le_of_ble_eq_true rfl, Nat.le_of_ble_eq_true rfl⟩) (hI.preV hm_5 rfl) rfl rfl hl.1 rfl (lv_room (Nat.le_of_ble_eq_true rfl)) dX10_draft_41 ⟨Nat.le_of_ble_eq_true rfl, Nat.le_of_ble_eq_true rfl⟩) hI (fun r_14 M_16 H_17 locs_18 hp_15 hI => ?_)
        obtain ⟨hr_19, hm_20, hF_21⟩ := hp_15
        have hF_22 : ∀ j : Nat, j ≠ 60 → M_16 j = M j := fun j q0 => (hF_21 j q0).trans (hF_6 j q0)
        rw [hr_19]
        refine lv_if_eq (tgt := 49) hx hb dX10_draft_44 (by decide) (fun c_23 => ?_) (fun c_23 => ?_)
        · -- 44: nI 1 eq
          exact absurd c_23 (by decide)
        · -- 44: nI 1 ne
          refine lv_iconst (v := nI 0) hx hb dX10_draft_47 (by decide) ?_
          exact e_Ni hx hb hr rfl hlocks hI ⟨rfl, hm_20, (fun j q0 => hF_22 j q0)⟩ dX10_draft_48
    · -- 14: bI b ne
      have c_10 : b = true := bI_t (c_10)
      simp_all

theorem nI_d4 : ∀ k, k < 20 → nI k / nI 4 = nI (k / 4) ∧ nI k - nI k / nI 4 * nI 4 = nI (k % 4) := by decide +kernel
/-- byte k of five numbers, as the model lays it -/
def fyB (h : Nat → Int32) (k : Nat) : Int32 := ((h (k / 4)) >>> (nI (24 - 8 * (k % 4)) &&& 31)).toInt8.toInt32
theorem i8_nar (y : Int32) : vp_nar .byte y.toInt8.toInt32 = y.toInt8.toInt32 := by
  show (y.toInt8.toInt32).toInt8.toInt32 = y.toInt8.toInt32
  rw [Int8.toInt8_toInt32]

/-- X10_feed -/
abbrev rm_c_X10_feed_full : Room := { frames := 0, cells := 0, slots := 0, locals := 0 }
set_option maxHeartbeats 4000000 in
set_option maxRecDepth 100000 in
theorem c_X10_feed_full (l : Launch) (G : GG) (z : Nat) (ad : Nat → Nat) (M : Mem) {th : Nat} {ln : Nat} {on : Nat} {ao : Nat} {vr : Nat} {sn : Nat} {tp : Nat} {pt : Nat} {zs : Nat} {bg : Nat} {fa : Int32} {x1 : Int32} {x2 : Int32} {x3 : Int32} {x4 : Int32} {x5 : Int32} (h60 : M 60 = some (cModel ad th ln on ao vr sn tp pt zs bg fa)) (htp : tp ≤ 400) (hfu : 400 < tp + 20) : Met l yX10_feed wsX10_feed rm_c_X10_feed_full (Pr G z ad M [.ref (ad 60), .int x1, .int x2, .int x3, .int x4, .int x5]) (Ni G z ad (fun (r : Int32) (M' : Mem) => r = (-1) ∧ M' 60 = some (cModel ad 0 ln on ao vr sn tp pt zs bg fa) ∧ (∀ j : Nat, j ≠ 60 → M' j = M j))) 0 0 (fr z) := by
  refine Met.ofW (cc := cX10_feed) (maxL := 7) (ret := (some .int)) (by decide) rfl ?_
  intro p e s m args below meth c s₁ B hml hv
  obtain ⟨rfl, hv⟩ := hv
  have hI := Iv.entry hv
  have hx := B.exec
  have hb := B.bytes
  have hr := B.returns
  have hts := atoms_spec (ws := wsX10_feed) B.pre
  have hown : s.vm.findClass RX10 = some m.cls := findClass_of_methodNamed B.named
  have hlocks := B.notSynchronized
  have f_3 := hts _ (List.mem_cons_of_mem _ (lwg_of t_1013 rfl))
  have i_RX10 : ∀ w ∈ u_ws RX10 TX10 38, w ∈ wsX10_feed := fun w h => List.mem_cons_of_mem _ (iu_X10 w h)
  have f_158 := hts _ (List.mem_cons_of_mem _ (lwg_of t_1039 rfl))
  have hl := lv_entry ([.ref (ad 60), .int x1, .int x2, .int x3, .int x4, .int x5]) (n := 7) (Nat.le_of_ble_eq_true rfl)
  rw [lg_entry_eq]
  generalize (lg_sl ([.ref (ad 60), .int x1, .int x2, .int x3, .int x4, .int x5]) ++ List.replicate (7 - (lg_sl ([.ref (ad 60), .int x1, .int x2, .int x3, .int x4, .int x5])).length) Slot.unset).toArray = ls at hl ⊢
  have hl : lv_has ls 7 [(0, .ref (ad 60)), (1, .int x1), (2, .int x2), (3, .int x3), (4, .int x4), (5, .int x5)] := hl
  refine lv_aload_n hx hb dX10_feed_0 rfl (lv_at hl 0 rfl) ?_
  refine lv_iconst (v := nI 0) hx hb dX10_feed_1 (by decide) ?_
  refine h_put (C := RX10) (T := TX10) (N := 38) hx hb hts i_RX10 tyX10 tyX10_ok nmX10 hown hI h60 rfl 0 (by decide) f_3 rfl rfl rfl rfl (Nat.le_of_ble_eq_true rfl) dX10_feed_2 (fun M_1 H_2 locs_3 eM_4 hI => ?_)
  have hm_5 : M_1 60 = some (cModel ad 0 ln on ao vr sn tp pt zs bg fa) := by rw [eM_4]; exact va_up_self _ _ _
  have hF_6 : ∀ j : Nat, j ≠ 60 → M_1 j = M j := fun j q0 => by rw [eM_4, va_up_ne _ _ q0]
  refine lv_aload_n hx hb dX10_feed_5 rfl (lv_at hl 0 rfl) ?_
  refine h_get (C := RX10) (T := TX10) (N := 38) hx hb hts i_RX10 hown hI hm_5 rfl 26 (by decide) f_158 rfl rfl dX10_feed_6 ?_
  refine lv_bipush (v := nI 20) hx hb dX10_feed_9 (by decide) ?_
  refine lv_iadd hx hb dX10_feed_11 ?_
  refine n_eq (nI_add tp 20) ?_
  refine lv_sipush (v := nI 400) hx hb dX10_feed_12 (by decide) ?_
  refine lv_icmp_le (tgt := 20) hx hb dX10_feed_15 (by decide) (fun c_7 => ?_) (fun c_7 => ?_)
  · -- 15: nI (tp + 20) le
    have c_7 : tp + 20 ≤ 400 := (nI_leI (a := tp + 20) (b := 400) (by omega) (by omega)).mp (c_7)
    omega
  · -- 15: nI (tp + 20) gt
    have c_7 : 400 < tp + 20 := by have h := mt (nI_leI (a := tp + 20) (b := 400) (by omega) (by omega)).mpr c_7; omega
    refine lv_iconst (v := (-1)) hx hb dX10_feed_18 (by decide) ?_
    exact e_Ni hx hb hr rfl hlocks hI ⟨rfl, hm_5, (fun j q0 => hF_6 j q0)⟩ dX10_feed_19

theorem up_self (g : Nat → Int32) (k : Nat) (x : Int32) : upd g k x k = x := va_up_self g k x
theorem up_ne (g : Nat → Int32) {k j : Nat} (x : Int32) (h : j ≠ k) : upd g k x j = g j := va_up_ne g x h

/-- X10_feed -/
abbrev rm_c_X10_feed : Room := { frames := 0, cells := 0, slots := 0, locals := 0 }
set_option maxHeartbeats 4000000 in
set_option maxRecDepth 100000 in
theorem c_X10_feed (l : Launch) (G : GG) (z : Nat) (ad : Nat → Nat) (M : Mem) {th : Nat} {ln : Nat} {on : Nat} {ao : Nat} {vr : Nat} {sn : Nat} {tp : Nat} {pt : Nat} {zs : Nat} {bg : Nat} {fa : Int32} {f : Nat → Int32} {h : Nat → Int32} {x1 : Int32} {x2 : Int32} {x3 : Int32} {x4 : Int32} {x5 : Int32} (h60 : M 60 = some (cModel ad th ln on ao vr sn tp pt zs bg fa)) (h80 : M 80 = some (aB G 400 f)) (h81 : M 81 = some (aI G 5 h)) (htp : tp + 20 ≤ 400) : Met l yX10_feed wsX10_feed rm_c_X10_feed (Pr G z ad M [.ref (ad 60), .int x1, .int x2, .int x3, .int x4, .int x5]) (Ni G z ad (fun (r : Int32) (M' : Mem) => ∃ f2 : Nat → Int32, r = nI (tp + 20) ∧ M' 60 = some (cModel ad 0 ln on ao vr sn (tp + 20) pt zs bg fa) ∧ M' 80 = some (aB G 400 f2) ∧ M' 81 = some (aI G 5 (upd (upd (upd (upd (upd h 0 x1) 1 x2) 2 x3) 3 x4) 4 x5)) ∧ (∀ j : Nat, j ≠ 60 → j ≠ 80 → j ≠ 81 → M' j = M j) ∧ ((∀ j, j < tp → f2 j = f j) ∧ ∀ k, k < 20 → f2 (tp + k) = fyB (upd (upd (upd (upd (upd h 0 x1) 1 x2) 2 x3) 3 x4) 4 x5) k))) 0 0 (fr z) := by
  refine Met.ofW (cc := cX10_feed) (maxL := 7) (ret := (some .int)) (by decide) rfl ?_
  intro p e s m args below meth c s₁ B hml hv
  obtain ⟨rfl, hv⟩ := hv
  have hI := Iv.entry hv
  have hx := B.exec
  have hb := B.bytes
  have hr := B.returns
  have hts := atoms_spec (ws := wsX10_feed) B.pre
  have hown : s.vm.findClass RX10 = some m.cls := findClass_of_methodNamed B.named
  have hlocks := B.notSynchronized
  have f_3 := hts _ (List.mem_cons_of_mem _ (lwg_of t_1013 rfl))
  have i_RX10 : ∀ w ∈ u_ws RX10 TX10 38, w ∈ wsX10_feed := fun w h => List.mem_cons_of_mem _ (iu_X10 w h)
  have f_158 := hts _ (List.mem_cons_of_mem _ (lwg_of t_1039 rfl))
  have f_79 := hts _ (List.mem_cons_of_mem _ (lwg_of t_1044 rfl))
  have f_72 := hts _ (List.mem_cons_of_mem _ (lwg_of t_1038 rfl))
  have hl := lv_entry ([.ref (ad 60), .int x1, .int x2, .int x3, .int x4, .int x5]) (n := 7) (Nat.le_of_ble_eq_true rfl)
  rw [lg_entry_eq]
  generalize (lg_sl ([.ref (ad 60), .int x1, .int x2, .int x3, .int x4, .int x5]) ++ List.replicate (7 - (lg_sl ([.ref (ad 60), .int x1, .int x2, .int x3, .int x4, .int x5])).length) Slot.unset).toArray = ls at hl ⊢
  have hl : lv_has ls 7 [(0, .ref (ad 60)), (1, .int x1), (2, .int x2), (3, .int x3), (4, .int x4), (5, .int x5)] := hl
  refine w_q (fun Q hQ => ?_)
  refine lv_aload_n hx hb dX10_feed_0 rfl (lv_at hl 0 rfl) ?_
  refine lv_iconst (v := nI 0) hx hb dX10_feed_1 (by decide) ?_
  refine h_put (C := RX10) (T := TX10) (N := 38) hx hb hts i_RX10 tyX10 tyX10_ok nmX10 hown hI h60 rfl 0 (by decide) f_3 rfl rfl rfl rfl (Nat.le_of_ble_eq_true rfl) dX10_feed_2 (fun M_1 H_2 locs_3 eM_4 hI => ?_)
  have hm_5 : M_1 60 = some (cModel ad 0 ln on ao vr sn tp pt zs bg fa) := by rw [eM_4]; exact va_up_self _ _ _
  have hm_6 : M_1 80 = some (aB G 400 f) := by rw [eM_4, va_up_ne _ _ (by decide)]; exact h80
  have hm_7 : M_1 81 = some (aI G 5 h) := by rw [eM_4, va_up_ne _ _ (by decide)]; exact h81
  have hF_8 : ∀ j : Nat, j ≠ 60 → M_1 j = M j := fun j q0 => by rw [eM_4, va_up_ne _ _ q0]
  refine lv_aload_n hx hb dX10_feed_5 rfl (lv_at hl 0 rfl) ?_
  refine h_get (C := RX10) (T := TX10) (N := 38) hx hb hts i_RX10 hown hI hm_5 rfl 26 (by decide) f_158 rfl rfl dX10_feed_6 ?_
  refine lv_bipush (v := nI 20) hx hb dX10_feed_9 (by decide) ?_
  refine lv_iadd hx hb dX10_feed_11 ?_
  refine n_eq (nI_add tp 20) ?_
  refine lv_sipush (v := nI 400) hx hb dX10_feed_12 (by decide) ?_
  refine lv_icmp_le (tgt := 20) hx hb dX10_feed_15 (by decide) (fun c_9 => ?_) (fun c_9 => ?_)
  · -- 15: nI (tp + 20) le
    have c_9 : tp + 20 ≤ 400 := (nI_leI (a := tp + 20) (b := 400) (by omega) (by omega)).mp (c_9)
    refine lv_aload_n hx hb dX10_feed_20 rfl (lv_at hl 0 rfl) ?_
    refine h_get (C := RX10) (T := TX10) (N := 38) hx hb hts i_RX10 hown hI hm_5 rfl 31 (by decide) f_79 rfl rfl dX10_feed_21 ?_
    refine lv_iconst (v := nI 0) hx hb dX10_feed_24 (by decide) ?_
    refine lv_iload_n hx hb dX10_feed_25 rfl (lv_at hl 1 rfl) ?_
    refine h_iast (i := 0) (x := x1) hx hb hI hm_7 (by omega) (by decide) dX10_feed_26 (fun M_10 H_11 locs_12 eM_13 hI => ?_)
    have hm_14 : M_10 60 = some (cModel ad 0 ln on ao vr sn tp pt zs bg fa) := by rw [eM_13, va_up_ne _ _ (by decide)]; exact hm_5
    have hm_15 : M_10 80 = some (aB G 400 f) := by rw [eM_13, va_up_ne _ _ (by decide)]; exact hm_6
    have hm_16 : M_10 81 = some (aI G 5 (upd h 0 x1)) := by rw [eM_13]; exact va_up_self _ _ _
    have hF_17 : ∀ j : Nat, j ≠ 60 → j ≠ 81 → M_10 j = M j := fun j q0 q1 => by rw [eM_13, va_up_ne _ _ q1]; exact hF_8 j q0
    refine lv_aload_n hx hb dX10_feed_27 rfl (lv_at hl 0 rfl) ?_
    refine h_get (C := RX10) (T := TX10) (N := 38) hx hb hts i_RX10 hown hI hm_14 rfl 31 (by decide) f_79 rfl rfl dX10_feed_28 ?_
    refine lv_iconst (v := nI 1) hx hb dX10_feed_31 (by decide) ?_
    refine lv_iload_n hx hb dX10_feed_32 rfl (lv_at hl 2 rfl) ?_
    refine h_iast (i := 1) (x := x2) hx hb hI hm_16 (by omega) (by decide) dX10_feed_33 (fun M_18 H_19 locs_20 eM_21 hI => ?_)
    have hm_22 : M_18 60 = some (cModel ad 0 ln on ao vr sn tp pt zs bg fa) := by rw [eM_21, va_up_ne _ _ (by decide)]; exact hm_14
    have hm_23 : M_18 80 = some (aB G 400 f) := by rw [eM_21, va_up_ne _ _ (by decide)]; exact hm_15
    have hm_24 : M_18 81 = some (aI G 5 (upd (upd h 0 x1) 1 x2)) := by rw [eM_21]; exact va_up_self _ _ _
    have hF_25 : ∀ j : Nat, j ≠ 60 → j ≠ 81 → M_18 j = M j := fun j q0 q1 => by rw [eM_21, va_up_ne _ _ q1]; exact hF_17 j q0 q1
    refine lv_aload_n hx hb dX10_feed_34 rfl (lv_at hl 0 rfl) ?_
    refine h_get (C := RX10) (T := TX10) (N := 38) hx hb hts i_RX10 hown hI hm_22 rfl 31 (by decide) f_79 rfl rfl dX10_feed_35 ?_
    refine lv_iconst (v := nI 2) hx hb dX10_feed_38 (by decide) ?_
    refine lv_iload_n hx hb dX10_feed_39 rfl (lv_at hl 3 rfl) ?_
    refine h_iast (i := 2) (x := x3) hx hb hI hm_24 (by omega) (by decide) dX10_feed_40 (fun M_26 H_27 locs_28 eM_29 hI => ?_)
    have hm_30 : M_26 60 = some (cModel ad 0 ln on ao vr sn tp pt zs bg fa) := by rw [eM_29, va_up_ne _ _ (by decide)]; exact hm_22
    have hm_31 : M_26 80 = some (aB G 400 f) := by rw [eM_29, va_up_ne _ _ (by decide)]; exact hm_23
    have hm_32 : M_26 81 = some (aI G 5 (upd (upd (upd h 0 x1) 1 x2) 2 x3)) := by rw [eM_29]; exact va_up_self _ _ _
    have hF_33 : ∀ j : Nat, j ≠ 60 → j ≠ 81 → M_26 j = M j := fun j q0 q1 => by rw [eM_29, va_up_ne _ _ q1]; exact hF_25 j q0 q1
    refine lv_aload_n hx hb dX10_feed_41 rfl (lv_at hl 0 rfl) ?_
    refine h_get (C := RX10) (T := TX10) (N := 38) hx hb hts i_RX10 hown hI hm_30 rfl 31 (by decide) f_79 rfl rfl dX10_feed_42 ?_
    refine lv_iconst (v := nI 3) hx hb dX10_feed_45 (by decide) ?_
    refine lv_iload hx hb dX10_feed_46 (lv_at hl 4 rfl) ?_
    refine h_iast (i := 3) (x := x4) hx hb hI hm_32 (by omega) (by decide) dX10_feed_48 (fun M_34 H_35 locs_36 eM_37 hI => ?_)
    have hm_38 : M_34 60 = some (cModel ad 0 ln on ao vr sn tp pt zs bg fa) := by rw [eM_37, va_up_ne _ _ (by decide)]; exact hm_30
    have hm_39 : M_34 80 = some (aB G 400 f) := by rw [eM_37, va_up_ne _ _ (by decide)]; exact hm_31
    have hm_40 : M_34 81 = some (aI G 5 (upd (upd (upd (upd h 0 x1) 1 x2) 2 x3) 3 x4)) := by rw [eM_37]; exact va_up_self _ _ _
    have hF_41 : ∀ j : Nat, j ≠ 60 → j ≠ 81 → M_34 j = M j := fun j q0 q1 => by rw [eM_37, va_up_ne _ _ q1]; exact hF_33 j q0 q1
    refine lv_aload_n hx hb dX10_feed_49 rfl (lv_at hl 0 rfl) ?_
    refine h_get (C := RX10) (T := TX10) (N := 38) hx hb hts i_RX10 hown hI hm_38 rfl 31 (by decide) f_79 rfl rfl dX10_feed_50 ?_
    refine lv_iconst (v := nI 4) hx hb dX10_feed_53 (by decide) ?_
    refine lv_iload hx hb dX10_feed_54 (lv_at hl 5 rfl) ?_
    refine h_iast (i := 4) (x := x5) hx hb hI hm_40 (by omega) (by decide) dX10_feed_56 (fun M_42 H_43 locs_44 eM_45 hI => ?_)
    have hm_46 : M_42 60 = some (cModel ad 0 ln on ao vr sn tp pt zs bg fa) := by rw [eM_45, va_up_ne _ _ (by decide)]; exact hm_38
    have hm_47 : M_42 80 = some (aB G 400 f) := by rw [eM_45, va_up_ne _ _ (by decide)]; exact hm_39
    have hm_48 : M_42 81 = some (aI G 5 (upd (upd (upd (upd (upd h 0 x1) 1 x2) 2 x3) 3 x4) 4 x5)) := by rw [eM_45]; exact va_up_self _ _ _
    have hF_49 : ∀ j : Nat, j ≠ 60 → j ≠ 81 → M_42 j = M j := fun j q0 q1 => by rw [eM_45, va_up_ne _ _ q1]; exact hF_41 j q0 q1
    refine lv_iconst (v := nI 0) hx hb dX10_feed_57 (by decide) ?_
    refine lv_istore (lv' := [(6, .int (nI 0)), (0, .ref (ad 60)), (1, .int x1), (2, .int x2), (3, .int x3), (4, .int x4), (5, .int x5)]) hx hb dX10_feed_58 hl (by decide) rfl (fun ls hl => ?_)
    have lp60_50 : ∀ (fuel : Nat) (k : Nat) (g : Nat → Int32) (Mx : Mem) (Hx : Heap) (locsx : List Loc) (ls : Array Slot), (20 - k) < fuel → (k ≤ 20) → (∀ j, j < tp → g j = f j) → (∀ j, j < k → g (tp + j) = fyB (upd (upd (upd (upd (upd h 0 x1) 1 x2) 2 x3) 3 x4) 4 x5) j) → Iv G z ad Mx s Hx locsx → Mx 60 = some (cModel ad 0 ln on ao vr sn tp pt zs bg fa) → Mx 80 = some (aB G 400 g) → Mx 81 = some (aI G 5 (upd (upd (upd (upd (upd h 0 x1) 1 x2) 2 x3) 3 x4) 4 x5)) → (∀ j : Nat, j ≠ 60 → j ≠ 80 → j ≠ 81 → Mx j = M j) → lv_has ls 7 [(0, .ref (ad 60)), (6, .int (nI k))] → W p l e (headSpec wsX10_feed rm_c_X10_feed).room s m ([.ref (ad 60), .int x1, .int x2, .int x3, .int x4, .int x5] : List Value).toArray below meth c Hx locsx 0 0 Q (F0 m 60 ls []) := by
      intro fuel
      induction fuel with
      | zero => intro k g Mx Hx locsx ls hfu hk hg1 hg2 hI hm_51 hm_52 hm_53 hF_55 hl; exact absurd hfu (Nat.not_lt_zero _)
      | succ fuel ih_56 =>
        intro k g Mx Hx locsx ls hfu hk hg1 hg2 hI hm_51 hm_52 hm_53 hF_55 hl
        refine lv_iload hx hb dX10_feed_60 (lv_at hl 1 rfl) ?_
        refine lv_bipush (v := nI 20) hx hb dX10_feed_62 (by decide) ?_
        refine lv_icmp_ge (tgt := 106) hx hb dX10_feed_64 (by decide) (fun c_57 => ?_) (fun c_57 => ?_)
        · -- 64: nI k ge
          have c_57 : 20 ≤ k := (nI_leI (a := 20) (b := k) (by omega) (by omega)).mp (c_57)
          refine lv_aload_n hx hb dX10_feed_106 rfl (lv_at hl 0 rfl) ?_
          refine lv_dup hx hb dX10_feed_107 rfl ?_
          refine h_get (C := RX10) (T := TX10) (N := 38) hx hb hts i_RX10 hown hI hm_51 rfl 26 (by decide) f_158 rfl rfl dX10_feed_108 ?_
          refine lv_bipush (v := nI 20) hx hb dX10_feed_111 (by decide) ?_
          refine lv_iadd hx hb dX10_feed_113 ?_
          refine n_eq (nI_add tp 20) ?_
          refine h_put (C := RX10) (T := TX10) (N := 38) hx hb hts i_RX10 tyX10 tyX10_ok nmX10 hown hI hm_51 rfl 26 (by decide) f_158 rfl rfl rfl rfl (Nat.le_of_ble_eq_true rfl) dX10_feed_114 (fun M_58 H_59 locs_60 eM_61 hI => ?_)
          have hm_62 : M_58 60 = some (cModel ad 0 ln on ao vr sn (tp + 20) pt zs bg fa) := by rw [eM_61]; exact va_up_self _ _ _
          have hm_63 : M_58 80 = some (aB G 400 g) := by rw [eM_61, va_up_ne _ _ (by decide)]; exact hm_52
          have hm_64 : M_58 81 = some (aI G 5 (upd (upd (upd (upd (upd h 0 x1) 1 x2) 2 x3) 3 x4) 4 x5)) := by rw [eM_61, va_up_ne _ _ (by decide)]; exact hm_53
          have hF_65 : ∀ j : Nat, j ≠ 60 → j ≠ 80 → j ≠ 81 → M_58 j = M j := fun j q0 q1 q2 => by rw [eM_61, va_up_ne _ _ q0]; exact hF_55 j q0 q1 q2
          refine lv_aload_n hx hb dX10_feed_117 rfl (lv_at hl 0 rfl) ?_
          refine h_get (C := RX10) (T := TX10) (N := 38) hx hb hts i_RX10 hown hI hm_62 rfl 26 (by decide) f_158 rfl rfl dX10_feed_118 ?_
          subst hQ
          exact e_Ni hx hb hr rfl hlocks hI ⟨g, rfl, hm_62, hm_63, hm_64, (fun j q0 q1 q2 => hF_65 j q0 q1 q2), ⟨hg1, fun j hj => hg2 j (by omega)⟩⟩ dX10_feed_121
        · -- 64: nI k lt
          have c_57 : k < 20 := by have h := mt (nI_leI (a := 20) (b := k) (by omega) (by omega)).mpr c_57; omega
          refine lv_aload_n hx hb dX10_feed_67 rfl (lv_at hl 0 rfl) ?_
          refine h_get (C := RX10) (T := TX10) (N := 38) hx hb hts i_RX10 hown hI hm_51 rfl 25 (by decide) f_72 rfl rfl dX10_feed_68 ?_
          refine lv_aload_n hx hb dX10_feed_71 rfl (lv_at hl 0 rfl) ?_
          refine h_get (C := RX10) (T := TX10) (N := 38) hx hb hts i_RX10 hown hI hm_51 rfl 26 (by decide) f_158 rfl rfl dX10_feed_72 ?_
          refine lv_iload hx hb dX10_feed_75 (lv_at hl 1 rfl) ?_
          refine lv_iadd hx hb dX10_feed_77 ?_
          refine n_eq (nI_add tp k) ?_
          refine lv_aload_n hx hb dX10_feed_78 rfl (lv_at hl 0 rfl) ?_
          refine h_get (C := RX10) (T := TX10) (N := 38) hx hb hts i_RX10 hown hI hm_51 rfl 31 (by decide) f_79 rfl rfl dX10_feed_79 ?_
          refine lv_iload hx hb dX10_feed_82 (lv_at hl 1 rfl) ?_
          refine lv_iconst (v := nI 4) hx hb dX10_feed_84 (by decide) ?_
          refine lv_idiv hx hb dX10_feed_85 (by decide) ?_
          refine n_eq (show _ = nI (k / 4) from (nI_d4 k (by omega)).1) ?_
          refine h_iald (i := k / 4) hx hb hI hm_53 (by omega) (by decide) dX10_feed_86 ?_
          refine lv_bipush (v := nI 24) hx hb dX10_feed_87 (by decide) ?_
          refine lv_bipush (v := nI 8) hx hb dX10_feed_89 (by decide) ?_
          refine lv_iload hx hb dX10_feed_91 (lv_at hl 1 rfl) ?_
          refine lv_iconst (v := nI 4) hx hb dX10_feed_93 (by decide) ?_
          refine lv_irem hx hb dX10_feed_94 (by decide) ?_
          refine n_eq (show _ = nI (k % 4) from (nI_d4 k (by omega)).2) ?_
          refine lv_imul hx hb dX10_feed_95 ?_
          refine n_eq (pk_mul 8 (k % 4)) ?_
          refine lv_isub hx hb dX10_feed_96 ?_
          refine n_eq (pk_sub (a := 24) (b := 8 * (k % 4)) (by omega)) ?_
          refine lv_ishr hx hb dX10_feed_97 ?_
          refine lv_i2b (v := (((upd (upd (upd (upd (upd h 0 x1) 1 x2) 2 x3) 3 x4) 4 x5) (k / 4)) >>> ((nI (24 - (8 * (k % 4)))) &&& 31)).toInt8.toInt32) hx hb dX10_feed_98 rfl ?_
          refine h_bast (i := tp + k) (x := (((upd (upd (upd (upd (upd h 0 x1) 1 x2) 2 x3) 3 x4) 4 x5) (k / 4)) >>> ((nI (24 - (8 * (k % 4)))) &&& 31)).toInt8.toInt32) hx hb hI hm_52 (by omega) (by decide) (i8_nar _) dX10_feed_99 (fun M_66 H_67 locs_68 eM_69 hI => ?_)
          have hm_70 : M_66 60 = some (cModel ad 0 ln on ao vr sn tp pt zs bg fa) := by rw [eM_69, va_up_ne _ _ (by decide)]; exact hm_51
          have hm_71 : M_66 80 = some (aB G 400 (upd g (tp + k) ((((upd (upd (upd (upd (upd h 0 x1) 1 x2) 2 x3) 3 x4) 4 x5) (k / 4)) >>> ((nI (24 - (8 * (k % 4)))) &&& 31)).toInt8.toInt32))) := by rw [eM_69]; exact va_up_self _ _ _
          have hm_72 : M_66 81 = some (aI G 5 (upd (upd (upd (upd (upd h 0 x1) 1 x2) 2 x3) 3 x4) 4 x5)) := by rw [eM_69, va_up_ne _ _ (by decide)]; exact hm_53
          have hF_73 : ∀ j : Nat, j ≠ 60 → j ≠ 80 → j ≠ 81 → M_66 j = M j := fun j q0 q1 q2 => by rw [eM_69, va_up_ne _ _ q1]; exact hF_55 j q0 q1 q2
          refine lv_iinc (v := nI (k + 1)) (lv' := [(6, .int (nI (k + 1))), (0, .ref (ad 60))]) hx hb dX10_feed_100 hl (k := 1) rfl (nI_add k 1) (by decide) rfl (fun ls hl => ?_)
          refine lv_goto (tgt := 60) hx hb dX10_feed_103 (by decide) ?_
          exact ih_56 (k + 1) (upd g (tp + k) ((((upd (upd (upd (upd (upd h 0 x1) 1 x2) 2 x3) 3 x4) 4 x5) (k / 4)) >>> ((nI (24 - (8 * (k % 4)))) &&& 31)).toInt8.toInt32)) M_66 H_67 locs_68 ls (by omega) (by omega) (fun j hj => (up_ne _ _ (by omega)).trans (hg1 j hj)) (lt_s2 (fun j hj => (up_ne _ _ (by omega)).trans (hg2 j hj)) (up_self _ _ _)) hI hm_70 hm_71 hm_72 (fun j q0 q1 q2 => hF_73 j q0 q1 q2) (lv_sub hl [1, 0] rfl)
    exact lp60_50 ((20 - 0) + 1) 0 f M_42 H_43 locs_44 ls (Nat.lt_succ_self _) (by omega) (fun _ _ => rfl) (fun j hj => absurd hj (Nat.not_lt_zero j)) hI hm_46 hm_47 hm_48 (fun j q0 q1 q2 => hF_49 j q0 q2) (lv_sub hl [1, 0] rfl)
  · -- 15: nI (tp + 20) gt
    have c_9 : 400 < tp + 20 := by have h := mt (nI_leI (a := tp + 20) (b := 400) (by omega) (by omega)).mpr c_9; omega
    omega
