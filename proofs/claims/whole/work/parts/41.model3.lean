/-- X10_as -/
abbrev rm_c_X10_as : Room := { frames := 2, cells := 0, slots := 0, locals := 42 }
set_option maxHeartbeats 4000000 in
set_option maxRecDepth 100000 in
theorem c_X10_as (l : Launch) (G : GG) (z : Nat) (ad : Nat → Nat) (M : Mem) {th : Nat} {ln : Nat} {on : Nat} {ao : Nat} {vr : Nat} {sn : Nat} {tp : Nat} {pt : Nat} {zs : Nat} {bg : Nat} {fa : Int32} {lst : Nat → Nat} {t : Nat} (h60 : M 60 = some (cModel ad th ln on ao vr sn tp pt zs bg fa)) (h71 : M 71 = some (aI G 40 (nF lst))) (ht : t < 40) : Met l yX10_as wsX10_as rm_c_X10_as (Pr G z ad M [.ref (ad 60), .int (nI t)]) (Ni G z ad (fun (r : Int32) (M' : Mem) => r = nI (lst t) ∧ M' 60 = some (cModel ad 0 ln on ao vr sn tp pt zs bg fa) ∧ (∀ j : Nat, j ≠ 60 → M' j = M j))) 0 0 (fr z) := by
  refine Met.ofW (cc := cX10_as) (maxL := 2) (ret := (some .int)) (by decide) rfl ?_
  intro p e s m args below meth c s₁ B hml hv
  obtain ⟨rfl, hv⟩ := hv
  have hI := Iv.entry hv
  have hx := B.exec
  have hb := B.bytes
  have hr := B.returns
  have hts := atoms_spec (ws := wsX10_as) B.pre
  have hown : s.vm.findClass RX10 = some m.cls := findClass_of_methodNamed B.named
  have hlocks := B.notSynchronized
  have f_3 := hts _ (List.mem_cons_of_mem _ (lwg_of t_1013 rfl))
  have i_RX10 : ∀ w ∈ u_ws RX10 TX10 38, w ∈ wsX10_as := fun w h => List.mem_cons_of_mem _ (iu_X10 w h)
  have f_45 := hts _ (List.mem_cons_of_mem _ (lwg_of t_1025 rfl))
  have hl := lv_entry ([.ref (ad 60), .int (nI t)]) (n := 2) (Nat.le_of_ble_eq_true rfl)
  rw [lg_entry_eq]
  generalize (lg_sl ([.ref (ad 60), .int (nI t)]) ++ List.replicate (2 - (lg_sl ([.ref (ad 60), .int (nI t)])).length) Slot.unset).toArray = ls at hl ⊢
  have hl : lv_has ls 2 [(0, .ref (ad 60)), (1, .int (nI t))] := hl
  refine lv_aload_n hx hb dX10_as_0 rfl (lv_at hl 0 rfl) ?_
  refine lv_iconst (v := nI 0) hx hb dX10_as_1 (by decide) ?_
  refine h_put (C := RX10) (T := TX10) (N := 38) hx hb hts i_RX10 tyX10 tyX10_ok nmX10 hown hI h60 rfl 0 (by decide) f_3 rfl rfl rfl rfl (Nat.le_of_ble_eq_true rfl) dX10_as_2 (fun M_1 H_2 locs_3 eM_4 hI => ?_)
  have hm_5 : M_1 60 = some (cModel ad 0 ln on ao vr sn tp pt zs bg fa) := by rw [eM_4]; exact va_up_self _ _ _
  have hm_6 : M_1 71 = some (aI G 40 (nF lst)) := by rw [eM_4, va_up_ne _ _ (by decide)]; exact h71
  have hF_7 : ∀ j : Nat, j ≠ 60 → M_1 j = M j := fun j q0 => by rw [eM_4, va_up_ne _ _ q0]
  refine lv_aload_n hx hb dX10_as_5 rfl (lv_at hl 0 rfl) ?_
  refine lv_iload_n hx hb dX10_as_6 rfl (lv_at hl 1 rfl) ?_
  refine k_Ri (va_runS (As := [.int (nI t)]) (rest := [.ref (ad 60)]) ⟨hx, hb, hml, hown, hts⟩ (c_X10_noThing_0 l G z ad M_1 (t := t) (by omega)) (va_cwS 1 hts (gS (lwg_of t_1161 rfl) (lwg_of t_1162 rfl) (lwg_of t_13 rfl) (lwg_of t_1163 rfl)) rfl rfl rfl (by decide +kernel) ⟨Nat.le_of_ble_eq_true rfl, Nat.le_of_ble_eq_true rfl⟩) hI.preS rfl rfl hl.1 rfl (lv_room (Nat.le_of_ble_eq_true rfl)) dX10_as_7 ⟨Nat.le_of_ble_eq_true rfl, Nat.le_of_ble_eq_true rfl⟩) (fun _ h => h) (fun r_8 hp_9 => ?_)
  rw [hp_9]
  refine lv_iconst (v := nI 1) hx hb dX10_as_10 (by decide) ?_
  refine k_Ri (va_runV (As := [.int (nI 0), .int (nI 1)]) (rest := []) ⟨hx, hb, hml, hown, hts⟩ (c_X10_throwsIf_0 l G z ad M_1 (th := 0) (ln := ln) (on := on) (ao := ao) (vr := vr) (sn := sn) (tp := tp) (pt := pt) (zs := zs) (bg := bg) (fa := fa) (c0 := 1) hm_5) (cwV 2 hts (gV (lwg_of t_1141 rfl) (lwg_of t_1143 rfl) (lwg_of ts_23 rfl) (lwg_of t_13 rfl) (lwg_of t_1144 rfl)) rfl rfl rfl (by decide +kernel) ⟨Nat.le_of_ble_eq_true rfl, Nat.le_of_ble_eq_true rfl⟩) (hI.preV hm_5 rfl) rfl rfl hl.1 rfl (lv_room (Nat.le_of_ble_eq_true rfl)) dX10_as_11 ⟨Nat.le_of_ble_eq_true rfl, Nat.le_of_ble_eq_true rfl⟩) (fun _ h => h) (fun r_10 hp_11 => ?_)
  rw [hp_11]
  refine lv_if_eq (tgt := 21) hx hb dX10_as_14 (by decide) (fun c_12 => ?_) (fun c_12 => ?_)
  · -- 14: nI 0 eq
    refine lv_aload_n hx hb dX10_as_21 rfl (lv_at hl 0 rfl) ?_
    refine h_get (C := RX10) (T := TX10) (N := 38) hx hb hts i_RX10 hown hI hm_5 rfl 12 (by decide) f_45 rfl rfl dX10_as_22 ?_
    refine lv_iload_n hx hb dX10_as_25 rfl (lv_at hl 1 rfl) ?_
    refine h_iald (i := t) hx hb hI hm_6 (by omega) (by decide) dX10_as_26 ?_
    exact e_Ni hx hb hr rfl hlocks hI ⟨rfl, hm_5, (fun j q0 => hF_7 j q0)⟩ dX10_as_27
  · -- 14: nI 0 ne
    exact absurd (by decide) c_12

/-- X10_as -/
abbrev rm_c_X10_as_a : Room := { frames := 2, cells := 0, slots := 0, locals := 42 }
set_option maxHeartbeats 4000000 in
set_option maxRecDepth 100000 in
theorem c_X10_as_a (l : Launch) (G : GG) (z : Nat) (ad : Nat → Nat) (M : Mem) {th : Nat} {ln : Nat} {on : Nat} {ao : Nat} {vr : Nat} {sn : Nat} {tp : Nat} {pt : Nat} {zs : Nat} {bg : Nat} {fa : Int32} {x0 : Int32} (h60 : M 60 = some (cModel ad th ln on ao vr sn tp pt zs bg fa)) (hbad : x0 < 0 ∨ ¬ x0 < nI 40) : Met l yX10_as wsX10_as rm_c_X10_as_a (Pr G z ad M [.ref (ad 60), .int x0]) (Ni G z ad (fun (r : Int32) (M' : Mem) => r = nI 0 ∧ M' 60 = some (cModel ad 1 ln on ao vr sn tp pt zs bg fa) ∧ (∀ j : Nat, j ≠ 60 → M' j = M j))) 0 0 (fr z) := by
  refine Met.ofW (cc := cX10_as) (maxL := 2) (ret := (some .int)) (by decide) rfl ?_
  intro p e s m args below meth c s₁ B hml hv
  obtain ⟨rfl, hv⟩ := hv
  have hI := Iv.entry hv
  have hx := B.exec
  have hb := B.bytes
  have hr := B.returns
  have hts := atoms_spec (ws := wsX10_as) B.pre
  have hown : s.vm.findClass RX10 = some m.cls := findClass_of_methodNamed B.named
  have hlocks := B.notSynchronized
  have f_3 := hts _ (List.mem_cons_of_mem _ (lwg_of t_1013 rfl))
  have i_RX10 : ∀ w ∈ u_ws RX10 TX10 38, w ∈ wsX10_as := fun w h => List.mem_cons_of_mem _ (iu_X10 w h)
  have hl := lv_entry ([.ref (ad 60), .int x0]) (n := 2) (Nat.le_of_ble_eq_true rfl)
  rw [lg_entry_eq]
  generalize (lg_sl ([.ref (ad 60), .int x0]) ++ List.replicate (2 - (lg_sl ([.ref (ad 60), .int x0])).length) Slot.unset).toArray = ls at hl ⊢
  have hl : lv_has ls 2 [(0, .ref (ad 60)), (1, .int x0)] := hl
  refine lv_aload_n hx hb dX10_as_0 rfl (lv_at hl 0 rfl) ?_
  refine lv_iconst (v := nI 0) hx hb dX10_as_1 (by decide) ?_
  refine h_put (C := RX10) (T := TX10) (N := 38) hx hb hts i_RX10 tyX10 tyX10_ok nmX10 hown hI h60 rfl 0 (by decide) f_3 rfl rfl rfl rfl (Nat.le_of_ble_eq_true rfl) dX10_as_2 (fun M_1 H_2 locs_3 eM_4 hI => ?_)
  have hm_5 : M_1 60 = some (cModel ad 0 ln on ao vr sn tp pt zs bg fa) := by rw [eM_4]; exact va_up_self _ _ _
  have hF_6 : ∀ j : Nat, j ≠ 60 → M_1 j = M j := fun j q0 => by rw [eM_4, va_up_ne _ _ q0]
  refine lv_aload_n hx hb dX10_as_5 rfl (lv_at hl 0 rfl) ?_
  refine lv_iload_n hx hb dX10_as_6 rfl (lv_at hl 1 rfl) ?_
  refine k_Ri (va_runS (As := [.int x0]) (rest := [.ref (ad 60)]) ⟨hx, hb, hml, hown, hts⟩ (c_X10_noThing_1 l G z ad M_1 (x := x0) hbad) (va_cwS 1 hts (gS (lwg_of t_1161 rfl) (lwg_of t_1162 rfl) (lwg_of t_13 rfl) (lwg_of t_1163 rfl)) rfl rfl rfl (by decide +kernel) ⟨Nat.le_of_ble_eq_true rfl, Nat.le_of_ble_eq_true rfl⟩) hI.preS rfl rfl hl.1 rfl (lv_room (Nat.le_of_ble_eq_true rfl)) dX10_as_7 ⟨Nat.le_of_ble_eq_true rfl, Nat.le_of_ble_eq_true rfl⟩) (fun _ h => h) (fun r_7 hp_8 => ?_)
  rw [hp_8]
  refine lv_iconst (v := nI 1) hx hb dX10_as_10 (by decide) ?_
  refine k_Ni (va_runV (As := [.int (nI 1), .int (nI 1)]) (rest := []) ⟨hx, hb, hml, hown, hts⟩ (c_X10_throwsIf_1 l G z ad M_1 (th := 0) (ln := ln) (on := on) (ao := ao) (vr := vr) (sn := sn) (tp := tp) (pt := pt) (zs := zs) (bg := bg) (fa := fa) (c0 := 1) hm_5) (cwV 2 hts (gV (lwg_of t_1141 rfl) (lwg_of t_1143 rfl) (lwg_of ts_23 rfl) (lwg_of t_13 rfl) (lwg_of t_1144 rfl)) rfl rfl rfl (by decide +kernel) ⟨Nat.le_of_ble_eq_true rfl, Nat.le_of_ble_eq_true rfl⟩) (hI.preV hm_5 rfl) rfl rfl hl.1 rfl (lv_room (Nat.le_of_ble_eq_true rfl)) dX10_as_11 ⟨Nat.le_of_ble_eq_true rfl, Nat.le_of_ble_eq_true rfl⟩) hI (fun r_9 M_11 H_12 locs_13 hp_10 hI => ?_)
  obtain ⟨hr_14, hm_15, hF_16⟩ := hp_10
  have hF_17 : ∀ j : Nat, j ≠ 60 → M_11 j = M j := fun j q0 => (hF_16 j q0).trans (hF_6 j q0)
  rw [hr_14]
  refine lv_if_eq (tgt := 21) hx hb dX10_as_14 (by decide) (fun c_18 => ?_) (fun c_18 => ?_)
  · -- 14: nI 1 eq
    exact absurd c_18 (by decide)
  · -- 14: nI 1 ne
    refine lv_iconst (v := nI 0) hx hb dX10_as_17 (by decide) ?_
    refine lv_goto (tgt := 27) hx hb dX10_as_18 (by decide) ?_
    exact e_Ni hx hb hr rfl hlocks hI ⟨rfl, hm_15, (fun j q0 => hF_17 j q0)⟩ dX10_as_27

/-- X10_degree -/
abbrev rm_c_X10_degree : Room := { frames := 3, cells := 0, slots := 0, locals := 70 }
set_option maxHeartbeats 4000000 in
set_option maxRecDepth 100000 in
theorem c_X10_degree (l : Launch) (G : GG) (z : Nat) (ad : Nat → Nat) (M : Mem) {th : Nat} {on : Nat} {ao : Nat} {vr : Nat} {sn : Nat} {tp : Nat} {pt : Nat} {zs : Nat} {bg : Nat} {fa : Int32} {n : Nat} {kd : Nat → Nat} {fm : Nat → Int32} {to : Nat → Int32} {sz : Nat → Nat} {rl : Nat → Nat → Nat} {en : Nat → Nat → Nat} {mk : Nat → Nat} {mf : Nat → Int32} {mu : Nat → Int32} {mz : Nat → Nat} {rr : Nat → Nat} {ee : Nat → Nat} {lst : Nat → Nat} {t : Nat} {y : Nat} {x : Nat} {d : Int32} (h60 : M 60 = some (cModel ad th n on ao vr sn tp pt zs bg fa)) (h65 : M 65 = some (aI G 120 (nF mk))) (h66 : M 66 = some (aI G 120 mf)) (h67 : M 67 = some (aI G 120 mu)) (h68 : M 68 = some (aI G 121 (nF mz))) (h69 : M 69 = some (aI G 726 (nF rr))) (h70 : M 70 = some (aI G 726 (nF ee))) (h71 : M 71 = some (aI G 40 (nF lst))) (hw : LSw n kd sz rl en) (hmr : MRel n kd fm to sz rl en mk mf mu mz rr ee) (ht : t < 40) (hy : y < 6) (hx6 : x < 6) (hlst : ∀ u, u < 40 → lst u < 40) : Met l yX10_degree wsX10_degree rm_c_X10_degree (Pr G z ad M [.ref (ad 60), .int (nI t), .int (nI y), .int (nI x), .int d]) (Ni G z ad (fun (r : Int32) (M' : Mem) => r = nI (cntB (wth kd fm to sz rl en lst (lst t) y x d) n) ∧ M' 60 = some (cModel ad 0 n on ao vr sn tp pt zs bg fa) ∧ (∀ j : Nat, j ≠ 60 → M' j = M j))) 0 0 (fr z) := by
  refine Met.ofW (cc := cX10_degree) (maxL := 5) (ret := (some .int)) (by decide) rfl ?_
  intro p e s m args below meth c s₁ B hml hv
  obtain ⟨rfl, hv⟩ := hv
  have hI := Iv.entry hv
  have hx := B.exec
  have hb := B.bytes
  have hr := B.returns
  have hts := atoms_spec (ws := wsX10_degree) B.pre
  have hown : s.vm.findClass RX10 = some m.cls := findClass_of_methodNamed B.named
  have hlocks := B.notSynchronized
  have f_3 := hts _ (List.mem_cons_of_mem _ (lwg_of t_1013 rfl))
  have i_RX10 : ∀ w ∈ u_ws RX10 TX10 38, w ∈ wsX10_degree := fun w h => List.mem_cons_of_mem _ (iu_X10 w h)
  have hl := lv_entry ([.ref (ad 60), .int (nI t), .int (nI y), .int (nI x), .int d]) (n := 5) (Nat.le_of_ble_eq_true rfl)
  rw [lg_entry_eq]
  generalize (lg_sl ([.ref (ad 60), .int (nI t), .int (nI y), .int (nI x), .int d]) ++ List.replicate (5 - (lg_sl ([.ref (ad 60), .int (nI t), .int (nI y), .int (nI x), .int d])).length) Slot.unset).toArray = ls at hl ⊢
  have hl : lv_has ls 5 [(0, .ref (ad 60)), (1, .int (nI t)), (2, .int (nI y)), (3, .int (nI x)), (4, .int d)] := hl
  have hw1 := hw.1
  refine lv_aload_n hx hb dX10_degree_0 rfl (lv_at hl 0 rfl) ?_
  refine lv_iconst (v := nI 0) hx hb dX10_degree_1 (by decide) ?_
  refine h_put (C := RX10) (T := TX10) (N := 38) hx hb hts i_RX10 tyX10 tyX10_ok nmX10 hown hI h60 rfl 0 (by decide) f_3 rfl rfl rfl rfl (Nat.le_of_ble_eq_true rfl) dX10_degree_2 (fun M_1 H_2 locs_3 eM_4 hI => ?_)
  have hm_5 : M_1 60 = some (cModel ad 0 n on ao vr sn tp pt zs bg fa) := by rw [eM_4]; exact va_up_self _ _ _
  have hm_6 : M_1 65 = some (aI G 120 (nF mk)) := by rw [eM_4, va_up_ne _ _ (by decide)]; exact h65
  have hm_7 : M_1 66 = some (aI G 120 mf) := by rw [eM_4, va_up_ne _ _ (by decide)]; exact h66
  have hm_8 : M_1 67 = some (aI G 120 mu) := by rw [eM_4, va_up_ne _ _ (by decide)]; exact h67
  have hm_9 : M_1 68 = some (aI G 121 (nF mz)) := by rw [eM_4, va_up_ne _ _ (by decide)]; exact h68
  have hm_10 : M_1 69 = some (aI G 726 (nF rr)) := by rw [eM_4, va_up_ne _ _ (by decide)]; exact h69
  have hm_11 : M_1 70 = some (aI G 726 (nF ee)) := by rw [eM_4, va_up_ne _ _ (by decide)]; exact h70
  have hm_12 : M_1 71 = some (aI G 40 (nF lst)) := by rw [eM_4, va_up_ne _ _ (by decide)]; exact h71
  have hF_13 : ∀ j : Nat, j ≠ 60 → M_1 j = M j := fun j q0 => by rw [eM_4, va_up_ne _ _ q0]
  refine lv_aload_n hx hb dX10_degree_5 rfl (lv_at hl 0 rfl) ?_
  refine lv_iload_n hx hb dX10_degree_6 rfl (lv_at hl 1 rfl) ?_
  refine k_Ri (va_runS (As := [.int (nI t)]) (rest := [.ref (ad 60)]) ⟨hx, hb, hml, hown, hts⟩ (c_X10_noThing_0 l G z ad M_1 (t := t) (by omega)) (va_cwS 1 hts (gS (lwg_of t_1161 rfl) (lwg_of t_1162 rfl) (lwg_of t_13 rfl) (lwg_of t_1163 rfl)) rfl rfl rfl (by decide +kernel) ⟨Nat.le_of_ble_eq_true rfl, Nat.le_of_ble_eq_true rfl⟩) hI.preS rfl rfl hl.1 rfl (lv_room (Nat.le_of_ble_eq_true rfl)) dX10_degree_7 ⟨Nat.le_of_ble_eq_true rfl, Nat.le_of_ble_eq_true rfl⟩) (fun _ h => h) (fun r_14 hp_15 => ?_)
  rw [hp_15]
  refine lv_if_ne (tgt := 27) hx hb dX10_degree_10 (by decide) (fun c_16 => ?_) (fun c_16 => ?_)
  · -- 10: nI 0 ne
    exact absurd (by decide) c_16
  · -- 10: nI 0 eq
    refine lv_iload_n hx hb dX10_degree_13 rfl (lv_at hl 2 rfl) ?_
    refine k_Ri (va_runS (As := [.int (nI y)]) (rest := [.ref (ad 60)]) ⟨hx, hb, hml, hown, hts⟩ (c_X10_noKind_0 l G z ad M_1 (t := y) (by omega)) (va_cwS 1 hts (gS (lwg_of t_1132 rfl) (lwg_of t_1133 rfl) (lwg_of t_13 rfl) (lwg_of t_1134 rfl)) rfl rfl rfl (by decide +kernel) ⟨Nat.le_of_ble_eq_true rfl, Nat.le_of_ble_eq_true rfl⟩) hI.preS rfl rfl hl.1 rfl (lv_room (Nat.le_of_ble_eq_true rfl)) dX10_degree_14 ⟨Nat.le_of_ble_eq_true rfl, Nat.le_of_ble_eq_true rfl⟩) (fun _ h => h) (fun r_17 hp_18 => ?_)
    rw [hp_18]
    refine lv_if_ne (tgt := 27) hx hb dX10_degree_17 (by decide) (fun c_19 => ?_) (fun c_19 => ?_)
    · -- 17: nI 0 ne
      exact absurd (by decide) c_19
    · -- 17: nI 0 eq
      refine lv_iload_n hx hb dX10_degree_20 rfl (lv_at hl 3 rfl) ?_
      refine k_Ri (va_runS (As := [.int (nI x)]) (rest := [.ref (ad 60)]) ⟨hx, hb, hml, hown, hts⟩ (c_X10_noRole_0 l G z ad M_1 (t := x) (by omega)) (va_cwS 1 hts (gS (lwg_of t_1138 rfl) (lwg_of t_1139 rfl) (lwg_of t_13 rfl) (lwg_of t_1140 rfl)) rfl rfl rfl (by decide +kernel) ⟨Nat.le_of_ble_eq_true rfl, Nat.le_of_ble_eq_true rfl⟩) hI.preS rfl rfl hl.1 rfl (lv_room (Nat.le_of_ble_eq_true rfl)) dX10_degree_21 ⟨Nat.le_of_ble_eq_true rfl, Nat.le_of_ble_eq_true rfl⟩) (fun _ h => h) (fun r_20 hp_21 => ?_)
      rw [hp_21]
      refine lv_if_eq (tgt := 31) hx hb dX10_degree_24 (by decide) (fun c_22 => ?_) (fun c_22 => ?_)
      · -- 24: nI 0 eq
        refine lv_iconst (v := nI 0) hx hb dX10_degree_31 (by decide) ?_
        refine lv_iconst (v := nI 1) hx hb dX10_degree_32 (by decide) ?_
        refine k_Ri (va_runV (As := [.int (nI 0), .int (nI 1)]) (rest := []) ⟨hx, hb, hml, hown, hts⟩ (c_X10_throwsIf_0 l G z ad M_1 (th := 0) (ln := n) (on := on) (ao := ao) (vr := vr) (sn := sn) (tp := tp) (pt := pt) (zs := zs) (bg := bg) (fa := fa) (c0 := 1) hm_5) (cwV 2 hts (gV (lwg_of t_1141 rfl) (lwg_of t_1143 rfl) (lwg_of ts_23 rfl) (lwg_of t_13 rfl) (lwg_of t_1144 rfl)) rfl rfl rfl (by decide +kernel) ⟨Nat.le_of_ble_eq_true rfl, Nat.le_of_ble_eq_true rfl⟩) (hI.preV hm_5 rfl) rfl rfl hl.1 rfl (lv_room (Nat.le_of_ble_eq_true rfl)) dX10_degree_33 ⟨Nat.le_of_ble_eq_true rfl, Nat.le_of_ble_eq_true rfl⟩) (fun _ h => h) (fun r_23 hp_24 => ?_)
        rw [hp_24]
        refine lv_if_eq (tgt := 43) hx hb dX10_degree_36 (by decide) (fun c_25 => ?_) (fun c_25 => ?_)
        · -- 36: nI 0 eq
          refine lv_aload_n hx hb dX10_degree_43 rfl (lv_at hl 0 rfl) ?_
          refine lv_iload_n hx hb dX10_degree_44 rfl (lv_at hl 1 rfl) ?_
          refine lv_iload_n hx hb dX10_degree_45 rfl (lv_at hl 2 rfl) ?_
          refine lv_iload_n hx hb dX10_degree_46 rfl (lv_at hl 3 rfl) ?_
          refine lv_iload hx hb dX10_degree_47 (lv_at hl 4 rfl) ?_
          refine k_Ri (va_runV (As := [.int (nI t), .int (nI y), .int (nI x), .int d]) (rest := []) ⟨hx, hb, hml, hown, hts⟩ (c_X10_degreeOf l G z ad M_1 (th := 0) (ln := n) (on := on) (ao := ao) (vr := vr) (sn := sn) (tp := tp) (pt := pt) (zs := zs) (bg := bg) (fa := fa) (n := n) (kd := kd) (fm := fm) (to := to) (sz := sz) (rl := rl) (en := en) (mk := mk) (mf := mf) (mu := mu) (mz := mz) (rr := rr) (ee := ee) (lst := lst) (t := t) (y := y) (x := x) (d := d) hm_5 hm_6 hm_7 hm_8 hm_9 hm_10 hm_11 hm_12 hw hmr (by omega) (by omega) (by omega) (by omega) hlst) (cwV 4 hts (gV (lwg_of t_1172 rfl) (lwg_of t_1174 rfl) (lwg_of ts_26 rfl) (lwg_of t_13 rfl) (lwg_of t_1175 rfl)) rfl rfl rfl (by decide +kernel) ⟨Nat.le_of_ble_eq_true rfl, Nat.le_of_ble_eq_true rfl⟩) (hI.preV hm_5 rfl) rfl rfl hl.1 rfl (lv_room (Nat.le_of_ble_eq_true rfl)) dX10_degree_49 ⟨Nat.le_of_ble_eq_true rfl, Nat.le_of_ble_eq_true rfl⟩) (fun _ h => h) (fun r_26 hp_27 => ?_)
          rw [hp_27]
          exact e_Ni hx hb hr rfl hlocks hI ⟨rfl, hm_5, (fun j q0 => hF_13 j q0)⟩ dX10_degree_52
        · -- 36: nI 0 ne
          exact absurd (by decide) c_25
      · -- 24: nI 0 ne
        exact absurd (by decide) c_22

/-- X10_degree -/
abbrev rm_c_X10_degree_a : Room := { frames := 2, cells := 0, slots := 0, locals := 42 }
set_option maxHeartbeats 4000000 in
set_option maxRecDepth 100000 in
theorem c_X10_degree_a (l : Launch) (G : GG) (z : Nat) (ad : Nat → Nat) (M : Mem) {th : Nat} {ln : Nat} {on : Nat} {ao : Nat} {vr : Nat} {sn : Nat} {tp : Nat} {pt : Nat} {zs : Nat} {bg : Nat} {fa : Int32} {x0 : Int32} {x1 : Int32} {x2 : Int32} {x3 : Int32} (h60 : M 60 = some (cModel ad th ln on ao vr sn tp pt zs bg fa)) (hbad : x0 < 0 ∨ ¬ x0 < nI 40) : Met l yX10_degree wsX10_degree rm_c_X10_degree_a (Pr G z ad M [.ref (ad 60), .int x0, .int x1, .int x2, .int x3]) (Ni G z ad (fun (r : Int32) (M' : Mem) => r = nI 0 ∧ M' 60 = some (cModel ad 1 ln on ao vr sn tp pt zs bg fa) ∧ (∀ j : Nat, j ≠ 60 → M' j = M j))) 0 0 (fr z) := by
  refine Met.ofW (cc := cX10_degree) (maxL := 5) (ret := (some .int)) (by decide) rfl ?_
  intro p e s m args below meth c s₁ B hml hv
  obtain ⟨rfl, hv⟩ := hv
  have hI := Iv.entry hv
  have hx := B.exec
  have hb := B.bytes
  have hr := B.returns
  have hts := atoms_spec (ws := wsX10_degree) B.pre
  have hown : s.vm.findClass RX10 = some m.cls := findClass_of_methodNamed B.named
  have hlocks := B.notSynchronized
  have f_3 := hts _ (List.mem_cons_of_mem _ (lwg_of t_1013 rfl))
  have i_RX10 : ∀ w ∈ u_ws RX10 TX10 38, w ∈ wsX10_degree := fun w h => List.mem_cons_of_mem _ (iu_X10 w h)
  have hl := lv_entry ([.ref (ad 60), .int x0, .int x1, .int x2, .int x3]) (n := 5) (Nat.le_of_ble_eq_true rfl)
  rw [lg_entry_eq]
  generalize (lg_sl ([.ref (ad 60), .int x0, .int x1, .int x2, .int x3]) ++ List.replicate (5 - (lg_sl ([.ref (ad 60), .int x0, .int x1, .int x2, .int x3])).length) Slot.unset).toArray = ls at hl ⊢
  have hl : lv_has ls 5 [(0, .ref (ad 60)), (1, .int x0), (2, .int x1), (3, .int x2), (4, .int x3)] := hl
  refine lv_aload_n hx hb dX10_degree_0 rfl (lv_at hl 0 rfl) ?_
  refine lv_iconst (v := nI 0) hx hb dX10_degree_1 (by decide) ?_
  refine h_put (C := RX10) (T := TX10) (N := 38) hx hb hts i_RX10 tyX10 tyX10_ok nmX10 hown hI h60 rfl 0 (by decide) f_3 rfl rfl rfl rfl (Nat.le_of_ble_eq_true rfl) dX10_degree_2 (fun M_1 H_2 locs_3 eM_4 hI => ?_)
  have hm_5 : M_1 60 = some (cModel ad 0 ln on ao vr sn tp pt zs bg fa) := by rw [eM_4]; exact va_up_self _ _ _
  have hF_6 : ∀ j : Nat, j ≠ 60 → M_1 j = M j := fun j q0 => by rw [eM_4, va_up_ne _ _ q0]
  refine lv_aload_n hx hb dX10_degree_5 rfl (lv_at hl 0 rfl) ?_
  refine lv_iload_n hx hb dX10_degree_6 rfl (lv_at hl 1 rfl) ?_
  refine k_Ri (va_runS (As := [.int x0]) (rest := [.ref (ad 60)]) ⟨hx, hb, hml, hown, hts⟩ (c_X10_noThing_1 l G z ad M_1 (x := x0) hbad) (va_cwS 1 hts (gS (lwg_of t_1161 rfl) (lwg_of t_1162 rfl) (lwg_of t_13 rfl) (lwg_of t_1163 rfl)) rfl rfl rfl (by decide +kernel) ⟨Nat.le_of_ble_eq_true rfl, Nat.le_of_ble_eq_true rfl⟩) hI.preS rfl rfl hl.1 rfl (lv_room (Nat.le_of_ble_eq_true rfl)) dX10_degree_7 ⟨Nat.le_of_ble_eq_true rfl, Nat.le_of_ble_eq_true rfl⟩) (fun _ h => h) (fun r_7 hp_8 => ?_)
  rw [hp_8]
  refine lv_if_ne (tgt := 27) hx hb dX10_degree_10 (by decide) (fun c_9 => ?_) (fun c_9 => ?_)
  · -- 10: nI 1 ne
    refine lv_iconst (v := nI 1) hx hb dX10_degree_27 (by decide) ?_
    refine lv_goto (tgt := 32) hx hb dX10_degree_28 (by decide) ?_
    refine lv_iconst (v := nI 1) hx hb dX10_degree_32 (by decide) ?_
    refine k_Ni (va_runV (As := [.int (nI 1), .int (nI 1)]) (rest := []) ⟨hx, hb, hml, hown, hts⟩ (c_X10_throwsIf_1 l G z ad M_1 (th := 0) (ln := ln) (on := on) (ao := ao) (vr := vr) (sn := sn) (tp := tp) (pt := pt) (zs := zs) (bg := bg) (fa := fa) (c0 := 1) hm_5) (cwV 2 hts (gV (lwg_of t_1141 rfl) (lwg_of t_1143 rfl) (lwg_of ts_23 rfl) (lwg_of t_13 rfl) (lwg_of t_1144 rfl)) rfl rfl rfl (by decide +kernel) ⟨Nat.le_of_ble_eq_true rfl, Nat.le_of_ble_eq_true rfl⟩) (hI.preV hm_5 rfl) rfl rfl hl.1 rfl (lv_room (Nat.le_of_ble_eq_true rfl)) dX10_degree_33 ⟨Nat.le_of_ble_eq_true rfl, Nat.le_of_ble_eq_true rfl⟩) hI (fun r_10 M_12 H_13 locs_14 hp_11 hI => ?_)
    obtain ⟨hr_15, hm_16, hF_17⟩ := hp_11
    have hF_18 : ∀ j : Nat, j ≠ 60 → M_12 j = M j := fun j q0 => (hF_17 j q0).trans (hF_6 j q0)
    rw [hr_15]
    refine lv_if_eq (tgt := 43) hx hb dX10_degree_36 (by decide) (fun c_19 => ?_) (fun c_19 => ?_)
    · -- 36: nI 1 eq
      exact absurd c_19 (by decide)
    · -- 36: nI 1 ne
      refine lv_iconst (v := nI 0) hx hb dX10_degree_39 (by decide) ?_
      refine lv_goto (tgt := 52) hx hb dX10_degree_40 (by decide) ?_
      exact e_Ni hx hb hr rfl hlocks hI ⟨rfl, hm_16, (fun j q0 => hF_18 j q0)⟩ dX10_degree_52
  · -- 10: nI 1 eq
    exact absurd c_9 (by decide)

/-- X10_degree -/
abbrev rm_c_X10_degree_b : Room := { frames := 2, cells := 0, slots := 0, locals := 42 }
set_option maxHeartbeats 4000000 in
set_option maxRecDepth 100000 in
theorem c_X10_degree_b (l : Launch) (G : GG) (z : Nat) (ad : Nat → Nat) (M : Mem) {th : Nat} {ln : Nat} {on : Nat} {ao : Nat} {vr : Nat} {sn : Nat} {tp : Nat} {pt : Nat} {zs : Nat} {bg : Nat} {fa : Int32} {a : Nat} {x1 : Int32} {x2 : Int32} {x3 : Int32} (h60 : M 60 = some (cModel ad th ln on ao vr sn tp pt zs bg fa)) (ha : a < 40) (hbad : x1 < 0 ∨ ¬ x1 < nI 6) : Met l yX10_degree wsX10_degree rm_c_X10_degree_b (Pr G z ad M [.ref (ad 60), .int (nI a), .int x1, .int x2, .int x3]) (Ni G z ad (fun (r : Int32) (M' : Mem) => r = nI 0 ∧ M' 60 = some (cModel ad 1 ln on ao vr sn tp pt zs bg fa) ∧ (∀ j : Nat, j ≠ 60 → M' j = M j))) 0 0 (fr z) := by
  refine Met.ofW (cc := cX10_degree) (maxL := 5) (ret := (some .int)) (by decide) rfl ?_
  intro p e s m args below meth c s₁ B hml hv
  obtain ⟨rfl, hv⟩ := hv
  have hI := Iv.entry hv
  have hx := B.exec
  have hb := B.bytes
  have hr := B.returns
  have hts := atoms_spec (ws := wsX10_degree) B.pre
  have hown : s.vm.findClass RX10 = some m.cls := findClass_of_methodNamed B.named
  have hlocks := B.notSynchronized
  have f_3 := hts _ (List.mem_cons_of_mem _ (lwg_of t_1013 rfl))
  have i_RX10 : ∀ w ∈ u_ws RX10 TX10 38, w ∈ wsX10_degree := fun w h => List.mem_cons_of_mem _ (iu_X10 w h)
  have hl := lv_entry ([.ref (ad 60), .int (nI a), .int x1, .int x2, .int x3]) (n := 5) (Nat.le_of_ble_eq_true rfl)
  rw [lg_entry_eq]
  generalize (lg_sl ([.ref (ad 60), .int (nI a), .int x1, .int x2, .int x3]) ++ List.replicate (5 - (lg_sl ([.ref (ad 60), .int (nI a), .int x1, .int x2, .int x3])).length) Slot.unset).toArray = ls at hl ⊢
  have hl : lv_has ls 5 [(0, .ref (ad 60)), (1, .int (nI a)), (2, .int x1), (3, .int x2), (4, .int x3)] := hl
  refine lv_aload_n hx hb dX10_degree_0 rfl (lv_at hl 0 rfl) ?_
  refine lv_iconst (v := nI 0) hx hb dX10_degree_1 (by decide) ?_
  refine h_put (C := RX10) (T := TX10) (N := 38) hx hb hts i_RX10 tyX10 tyX10_ok nmX10 hown hI h60 rfl 0 (by decide) f_3 rfl rfl rfl rfl (Nat.le_of_ble_eq_true rfl) dX10_degree_2 (fun M_1 H_2 locs_3 eM_4 hI => ?_)
  have hm_5 : M_1 60 = some (cModel ad 0 ln on ao vr sn tp pt zs bg fa) := by rw [eM_4]; exact va_up_self _ _ _
  have hF_6 : ∀ j : Nat, j ≠ 60 → M_1 j = M j := fun j q0 => by rw [eM_4, va_up_ne _ _ q0]
  refine lv_aload_n hx hb dX10_degree_5 rfl (lv_at hl 0 rfl) ?_
  refine lv_iload_n hx hb dX10_degree_6 rfl (lv_at hl 1 rfl) ?_
  refine k_Ri (va_runS (As := [.int (nI a)]) (rest := [.ref (ad 60)]) ⟨hx, hb, hml, hown, hts⟩ (c_X10_noThing_0 l G z ad M_1 (t := a) (by omega)) (va_cwS 1 hts (gS (lwg_of t_1161 rfl) (lwg_of t_1162 rfl) (lwg_of t_13 rfl) (lwg_of t_1163 rfl)) rfl rfl rfl (by decide +kernel) ⟨Nat.le_of_ble_eq_true rfl, Nat.le_of_ble_eq_true rfl⟩) hI.preS rfl rfl hl.1 rfl (lv_room (Nat.le_of_ble_eq_true rfl)) dX10_degree_7 ⟨Nat.le_of_ble_eq_true rfl, Nat.le_of_ble_eq_true rfl⟩) (fun _ h => h) (fun r_7 hp_8 => ?_)
  rw [hp_8]
  refine lv_if_ne (tgt := 27) hx hb dX10_degree_10 (by decide) (fun c_9 => ?_) (fun c_9 => ?_)
  · -- 10: nI 0 ne
    exact absurd (by decide) c_9
  · -- 10: nI 0 eq
    refine lv_iload_n hx hb dX10_degree_13 rfl (lv_at hl 2 rfl) ?_
    refine k_Ri (va_runS (As := [.int x1]) (rest := [.ref (ad 60)]) ⟨hx, hb, hml, hown, hts⟩ (c_X10_noKind_1 l G z ad M_1 (x := x1) hbad) (va_cwS 1 hts (gS (lwg_of t_1132 rfl) (lwg_of t_1133 rfl) (lwg_of t_13 rfl) (lwg_of t_1134 rfl)) rfl rfl rfl (by decide +kernel) ⟨Nat.le_of_ble_eq_true rfl, Nat.le_of_ble_eq_true rfl⟩) hI.preS rfl rfl hl.1 rfl (lv_room (Nat.le_of_ble_eq_true rfl)) dX10_degree_14 ⟨Nat.le_of_ble_eq_true rfl, Nat.le_of_ble_eq_true rfl⟩) (fun _ h => h) (fun r_10 hp_11 => ?_)
    rw [hp_11]
    refine lv_if_ne (tgt := 27) hx hb dX10_degree_17 (by decide) (fun c_12 => ?_) (fun c_12 => ?_)
    · -- 17: nI 1 ne
      refine lv_iconst (v := nI 1) hx hb dX10_degree_27 (by decide) ?_
      refine lv_goto (tgt := 32) hx hb dX10_degree_28 (by decide) ?_
      refine lv_iconst (v := nI 1) hx hb dX10_degree_32 (by decide) ?_
      refine k_Ni (va_runV (As := [.int (nI 1), .int (nI 1)]) (rest := []) ⟨hx, hb, hml, hown, hts⟩ (c_X10_throwsIf_1 l G z ad M_1 (th := 0) (ln := ln) (on := on) (ao := ao) (vr := vr) (sn := sn) (tp := tp) (pt := pt) (zs := zs) (bg := bg) (fa := fa) (c0 := 1) hm_5) (cwV 2 hts (gV (lwg_of t_1141 rfl) (lwg_of t_1143 rfl) (lwg_of ts_23 rfl) (lwg_of t_13 rfl) (lwg_of t_1144 rfl)) rfl rfl rfl (by decide +kernel) ⟨Nat.le_of_ble_eq_true rfl, Nat.le_of_ble_eq_true rfl⟩) (hI.preV hm_5 rfl) rfl rfl hl.1 rfl (lv_room (Nat.le_of_ble_eq_true rfl)) dX10_degree_33 ⟨Nat.le_of_ble_eq_true rfl, Nat.le_of_ble_eq_true rfl⟩) hI (fun r_13 M_15 H_16 locs_17 hp_14 hI => ?_)
      obtain ⟨hr_18, hm_19, hF_20⟩ := hp_14
      have hF_21 : ∀ j : Nat, j ≠ 60 → M_15 j = M j := fun j q0 => (hF_20 j q0).trans (hF_6 j q0)
      rw [hr_18]
      refine lv_if_eq (tgt := 43) hx hb dX10_degree_36 (by decide) (fun c_22 => ?_) (fun c_22 => ?_)
      · -- 36: nI 1 eq
        exact absurd c_22 (by decide)
      · -- 36: nI 1 ne
        refine lv_iconst (v := nI 0) hx hb dX10_degree_39 (by decide) ?_
        refine lv_goto (tgt := 52) hx hb dX10_degree_40 (by decide) ?_
        exact e_Ni hx hb hr rfl hlocks hI ⟨rfl, hm_19, (fun j q0 => hF_21 j q0)⟩ dX10_degree_52
    · -- 17: nI 1 eq
      exact absurd c_12 (by decide)

/-- X10_degree -/
abbrev rm_c_X10_degree_c : Room := { frames := 2, cells := 0, slots := 0, locals := 42 }
set_option maxHeartbeats 4000000 in
set_option maxRecDepth 100000 in
theorem c_X10_degree_c (l : Launch) (G : GG) (z : Nat) (ad : Nat → Nat) (M : Mem) {th : Nat} {ln : Nat} {on : Nat} {ao : Nat} {vr : Nat} {sn : Nat} {tp : Nat} {pt : Nat} {zs : Nat} {bg : Nat} {fa : Int32} {a : Nat} {kd : Nat} {x2 : Int32} {x3 : Int32} (h60 : M 60 = some (cModel ad th ln on ao vr sn tp pt zs bg fa)) (ha : a < 40) (hkd : kd < 6) (hbad : x2 < 0 ∨ ¬ x2 < nI 6) : Met l yX10_degree wsX10_degree rm_c_X10_degree_c (Pr G z ad M [.ref (ad 60), .int (nI a), .int (nI kd), .int x2, .int x3]) (Ni G z ad (fun (r : Int32) (M' : Mem) => r = nI 0 ∧ M' 60 = some (cModel ad 1 ln on ao vr sn tp pt zs bg fa) ∧ (∀ j : Nat, j ≠ 60 → M' j = M j))) 0 0 (fr z) := by
  refine Met.ofW (cc := cX10_degree) (maxL := 5) (ret := (some .int)) (by decide) rfl ?_
  intro p e s m args below meth c s₁ B hml hv
  obtain ⟨rfl, hv⟩ := hv
  have hI := Iv.entry hv
  have hx := B.exec
  have hb := B.bytes
  have hr := B.returns
  have hts := atoms_spec (ws := wsX10_degree) B.pre
  have hown : s.vm.findClass RX10 = some m.cls := findClass_of_methodNamed B.named
  have hlocks := B.notSynchronized
  have f_3 := hts _ (List.mem_cons_of_mem _ (lwg_of t_1013 rfl))
  have i_RX10 : ∀ w ∈ u_ws RX10 TX10 38, w ∈ wsX10_degree := fun w h => List.mem_cons_of_mem _ (iu_X10 w h)
  have hl := lv_entry ([.ref (ad 60), .int (nI a), .int (nI kd), .int x2, .int x3]) (n := 5) (Nat.le_of_ble_eq_true rfl)
  rw [lg_entry_eq]
  generalize (lg_sl ([.ref (ad 60), .int (nI a), .int (nI kd), .int x2, .int x3]) ++ List.replicate (5 - (lg_sl ([.ref (ad 60), .int (nI a), .int (nI kd), .int x2, .int x3])).length) Slot.unset).toArray = ls at hl ⊢
  have hl : lv_has ls 5 [(0, .ref (ad 60)), (1, .int (nI a)), (2, .int (nI kd)), (3, .int x2), (4, .int x3)] := hl
  refine lv_aload_n hx hb dX10_degree_0 rfl (lv_at hl 0 rfl) ?_
  refine lv_iconst (v := nI 0) hx hb dX10_degree_1 (by decide) ?_
  refine h_put (C := RX10) (T := TX10) (N := 38) hx hb hts i_RX10 tyX10 tyX10_ok nmX10 hown hI h60 rfl 0 (by decide) f_3 rfl rfl rfl rfl (Nat.le_of_ble_eq_true rfl) dX10_degree_2 (fun M_1 H_2 locs_3 eM_4 hI => ?_)
  have hm_5 : M_1 60 = some (cModel ad 0 ln on ao vr sn tp pt zs bg fa) := by rw [eM_4]; exact va_up_self _ _ _
  have hF_6 : ∀ j : Nat, j ≠ 60 → M_1 j = M j := fun j q0 => by rw [eM_4, va_up_ne _ _ q0]
  refine lv_aload_n hx hb dX10_degree_5 rfl (lv_at hl 0 rfl) ?_
  refine lv_iload_n hx hb dX10_degree_6 rfl (lv_at hl 1 rfl) ?_
  refine k_Ri (va_runS (As := [.int (nI a)]) (rest := [.ref (ad 60)]) ⟨hx, hb, hml, hown, hts⟩ (c_X10_noThing_0 l G z ad M_1 (t := a) (by omega)) (va_cwS 1 hts (gS (lwg_of t_1161 rfl) (lwg_of t_1162 rfl) (lwg_of t_13 rfl) (lwg_of t_1163 rfl)) rfl rfl rfl (by decide +kernel) ⟨Nat.le_of_ble_eq_true rfl, Nat.le_of_ble_eq_true rfl⟩) hI.preS rfl rfl hl.1 rfl (lv_room (Nat.le_of_ble_eq_true rfl)) dX10_degree_7 ⟨Nat.le_of_ble_eq_true rfl, Nat.le_of_ble_eq_true rfl⟩) (fun _ h => h) (fun r_7 hp_8 => ?_)
  rw [hp_8]
  refine lv_if_ne (tgt := 27) hx hb dX10_degree_10 (by decide) (fun c_9 => ?_) (fun c_9 => ?_)
  · -- 10: nI 0 ne
    exact absurd (by decide) c_9
  · -- 10: nI 0 eq
    refine lv_iload_n hx hb dX10_degree_13 rfl (lv_at hl 2 rfl) ?_
    refine k_Ri (va_runS (As := [.int (nI kd)]) (rest := [.ref (ad 60)]) ⟨hx, hb, hml, hown, hts⟩ (c_X10_noKind_0 l G z ad M_1 (t := kd) (by omega)) (va_cwS 1 hts (gS (lwg_of t_1132 rfl) (lwg_of t_1133 rfl) (lwg_of t_13 rfl) (lwg_of t_1134 rfl)) rfl rfl rfl (by decide +kernel) ⟨Nat.le_of_ble_eq_true rfl, Nat.le_of_ble_eq_true rfl⟩) hI.preS rfl rfl hl.1 rfl (lv_room (Nat.le_of_ble_eq_true rfl)) dX10_degree_14 ⟨Nat.le_of_ble_eq_true rfl, Nat.le_of_ble_eq_true rfl⟩) (fun _ h => h) (fun r_10 hp_11 => ?_)
    rw [hp_11]
    refine lv_if_ne (tgt := 27) hx hb dX10_degree_17 (by decide) (fun c_12 => ?_) (fun c_12 => ?_)
    · -- 17: nI 0 ne
      exact absurd (by decide) c_12
    · -- 17: nI 0 eq
      refine lv_iload_n hx hb dX10_degree_20 rfl (lv_at hl 3 rfl) ?_
      refine k_Ri (va_runS (As := [.int x2]) (rest := [.ref (ad 60)]) ⟨hx, hb, hml, hown, hts⟩ (c_X10_noRole_1 l G z ad M_1 (x := x2) hbad) (va_cwS 1 hts (gS (lwg_of t_1138 rfl) (lwg_of t_1139 rfl) (lwg_of t_13 rfl) (lwg_of t_1140 rfl)) rfl rfl rfl (by decide +kernel) ⟨Nat.le_of_ble_eq_true rfl, Nat.le_of_ble_eq_true rfl⟩) hI.preS rfl rfl hl.1 rfl (lv_room (Nat.le_of_ble_eq_true rfl)) dX10_degree_21 ⟨Nat.le_of_ble_eq_true rfl, Nat.le_of_ble_eq_true rfl⟩) (fun _ h => h) (fun r_13 hp_14 => ?_)
      rw [hp_14]
      refine lv_if_eq (tgt := 31) hx hb dX10_degree_24 (by decide) (fun c_15 => ?_) (fun c_15 => ?_)
      · -- 24: nI 1 eq
        exact absurd c_15 (by decide)
      · -- 24: nI 1 ne
        refine lv_iconst (v := nI 1) hx hb dX10_degree_27 (by decide) ?_
        refine lv_goto (tgt := 32) hx hb dX10_degree_28 (by decide) ?_
        refine lv_iconst (v := nI 1) hx hb dX10_degree_32 (by decide) ?_
        refine k_Ni (va_runV (As := [.int (nI 1), .int (nI 1)]) (rest := []) ⟨hx, hb, hml, hown, hts⟩ (c_X10_throwsIf_1 l G z ad M_1 (th := 0) (ln := ln) (on := on) (ao := ao) (vr := vr) (sn := sn) (tp := tp) (pt := pt) (zs := zs) (bg := bg) (fa := fa) (c0 := 1) hm_5) (cwV 2 hts (gV (lwg_of t_1141 rfl) (lwg_of t_1143 rfl) (lwg_of ts_23 rfl) (lwg_of t_13 rfl) (lwg_of t_1144 rfl)) rfl rfl rfl (by decide +kernel) ⟨Nat.le_of_ble_eq_true rfl, Nat.le_of_ble_eq_true rfl⟩) (hI.preV hm_5 rfl) rfl rfl hl.1 rfl (lv_room (Nat.le_of_ble_eq_true rfl)) dX10_degree_33 ⟨Nat.le_of_ble_eq_true rfl, Nat.le_of_ble_eq_true rfl⟩) hI (fun r_16 M_18 H_19 locs_20 hp_17 hI => ?_)
        obtain ⟨hr_21, hm_22, hF_23⟩ := hp_17
        have hF_24 : ∀ j : Nat, j ≠ 60 → M_18 j = M j := fun j q0 => (hF_23 j q0).trans (hF_6 j q0)
        rw [hr_21]
        refine lv_if_eq (tgt := 43) hx hb dX10_degree_36 (by decide) (fun c_25 => ?_) (fun c_25 => ?_)
        · -- 36: nI 1 eq
          exact absurd c_25 (by decide)
        · -- 36: nI 1 ne
          refine lv_iconst (v := nI 0) hx hb dX10_degree_39 (by decide) ?_
          refine lv_goto (tgt := 52) hx hb dX10_degree_40 (by decide) ?_
          exact e_Ni hx hb hr rfl hlocks hI ⟨rfl, hm_22, (fun j q0 => hF_24 j q0)⟩ dX10_degree_52

/-- X10_look -/
abbrev rm_c_X10_look_0 : Room := { frames := 2, cells := 0, slots := 0, locals := 43 }
set_option maxHeartbeats 4000000 in
set_option maxRecDepth 100000 in
theorem c_X10_look_0 (l : Launch) (G : GG) (z : Nat) (ad : Nat → Nat) (M : Mem) {th : Nat} {on : Nat} {ao : Nat} {vr : Nat} {sn : Nat} {tp : Nat} {pt : Nat} {zs : Nat} {bg : Nat} {fa : Int32} {n : Nat} {kd : Nat → Nat} {fm : Nat → Int32} {to : Nat → Int32} {sz : Nat → Nat} {rl : Nat → Nat → Nat} {en : Nat → Nat → Nat} {mk : Nat → Nat} {mf : Nat → Int32} {mu : Nat → Int32} {mz : Nat → Nat} {rr : Nat → Nat} {ee : Nat → Nat} {q : Nat} (h60 : M 60 = some (cModel ad th n on ao vr sn tp pt zs bg fa)) (h65 : M 65 = some (aI G 120 (nF mk))) (h66 : M 66 = some (aI G 120 mf)) (h67 : M 67 = some (aI G 120 mu)) (h68 : M 68 = some (aI G 121 (nF mz))) (hw : LSw n kd sz rl en) (hmr : MRel n kd fm to sz rl en mk mf mu mz rr ee) (hq : q < n) : Met l yX10_look wsX10_look rm_c_X10_look_0 (Pr G z ad M [.ref (ad 60), .int (nI q), .int (nI 0)]) (Ni G z ad (fun (r : Int32) (M' : Mem) => r = nI (kd q) ∧ M' 60 = some (cModel ad 0 n on ao vr sn tp pt zs bg fa) ∧ (∀ j : Nat, j ≠ 60 → M' j = M j))) 0 0 (fr z) := by
  refine Met.ofW (cc := cX10_look) (maxL := 5) (ret := (some .int)) (by decide) rfl ?_
  intro p e s m args below meth c s₁ B hml hv
  obtain ⟨rfl, hv⟩ := hv
  have hI := Iv.entry hv
  have hx := B.exec
  have hb := B.bytes
  have hr := B.returns
  have hts := atoms_spec (ws := wsX10_look) B.pre
  have hown : s.vm.findClass RX10 = some m.cls := findClass_of_methodNamed B.named
  have hlocks := B.notSynchronized
  have f_3 := hts _ (List.mem_cons_of_mem _ (lwg_of t_1013 rfl))
  have i_RX10 : ∀ w ∈ u_ws RX10 TX10 38, w ∈ wsX10_look := fun w h => List.mem_cons_of_mem _ (iu_X10 w h)
  have f_27 := hts _ (List.mem_cons_of_mem _ (lwg_of t_1018 rfl))
  have hl := lv_entry ([.ref (ad 60), .int (nI q), .int (nI 0)]) (n := 5) (Nat.le_of_ble_eq_true rfl)
  rw [lg_entry_eq]
  generalize (lg_sl ([.ref (ad 60), .int (nI q), .int (nI 0)]) ++ List.replicate (5 - (lg_sl ([.ref (ad 60), .int (nI q), .int (nI 0)])).length) Slot.unset).toArray = ls at hl ⊢
  have hl : lv_has ls 5 [(0, .ref (ad 60)), (1, .int (nI q)), (2, .int (nI 0))] := hl
  have hw1 := hw.1
  obtain ⟨hk6, hs6, hje⟩ := hw.2 q hq
  obtain ⟨hmk, hmf, hmt, hmz, hmj⟩ := hmr q hq
  refine lv_aload_n hx hb dX10_look_0 rfl (lv_at hl 0 rfl) ?_
  refine lv_iconst (v := nI 0) hx hb dX10_look_1 (by decide) ?_
  refine h_put (C := RX10) (T := TX10) (N := 38) hx hb hts i_RX10 tyX10 tyX10_ok nmX10 hown hI h60 rfl 0 (by decide) f_3 rfl rfl rfl rfl (Nat.le_of_ble_eq_true rfl) dX10_look_2 (fun M_1 H_2 locs_3 eM_4 hI => ?_)
  have hm_5 : M_1 60 = some (cModel ad 0 n on ao vr sn tp pt zs bg fa) := by rw [eM_4]; exact va_up_self _ _ _
  have hm_6 : M_1 65 = some (aI G 120 (nF mk)) := by rw [eM_4, va_up_ne _ _ (by decide)]; exact h65
  have hm_7 : M_1 66 = some (aI G 120 mf) := by rw [eM_4, va_up_ne _ _ (by decide)]; exact h66
  have hm_8 : M_1 67 = some (aI G 120 mu) := by rw [eM_4, va_up_ne _ _ (by decide)]; exact h67
  have hm_9 : M_1 68 = some (aI G 121 (nF mz)) := by rw [eM_4, va_up_ne _ _ (by decide)]; exact h68
  have hF_10 : ∀ j : Nat, j ≠ 60 → M_1 j = M j := fun j q0 => by rw [eM_4, va_up_ne _ _ q0]
  refine lv_aload_n hx hb dX10_look_5 rfl (lv_at hl 0 rfl) ?_
  refine lv_aload_n hx hb dX10_look_6 rfl (lv_at hl 0 rfl) ?_
  refine lv_iload_n hx hb dX10_look_7 rfl (lv_at hl 1 rfl) ?_
  refine k_Ri (va_runV (As := [.int (nI q)]) (rest := [.ref (ad 60)]) ⟨hx, hb, hml, hown, hts⟩ (c_X10_noLine_0 l G z ad M_1 (th := 0) (ln := n) (on := on) (ao := ao) (vr := vr) (sn := sn) (tp := tp) (pt := pt) (zs := zs) (bg := bg) (fa := fa) (t := q) hm_5 (by omega) (by omega)) (cwV 1 hts (gV (lwg_of t_1157 rfl) (lwg_of t_1159 rfl) (lwg_of ts_24 rfl) (lwg_of t_13 rfl) (lwg_of t_1160 rfl)) rfl rfl rfl (by decide +kernel) ⟨Nat.le_of_ble_eq_true rfl, Nat.le_of_ble_eq_true rfl⟩) (hI.preV hm_5 rfl) rfl rfl hl.1 rfl (lv_room (Nat.le_of_ble_eq_true rfl)) dX10_look_8 ⟨Nat.le_of_ble_eq_true rfl, Nat.le_of_ble_eq_true rfl⟩) (fun _ h => h) (fun r_11 hp_12 => ?_)
  rw [hp_12]
  refine lv_iconst (v := nI 1) hx hb dX10_look_11 (by decide) ?_
  refine k_Ri (va_runV (As := [.int (nI 0), .int (nI 1)]) (rest := []) ⟨hx, hb, hml, hown, hts⟩ (c_X10_throwsIf_0 l G z ad M_1 (th := 0) (ln := n) (on := on) (ao := ao) (vr := vr) (sn := sn) (tp := tp) (pt := pt) (zs := zs) (bg := bg) (fa := fa) (c0 := 1) hm_5) (cwV 2 hts (gV (lwg_of t_1141 rfl) (lwg_of t_1143 rfl) (lwg_of ts_23 rfl) (lwg_of t_13 rfl) (lwg_of t_1144 rfl)) rfl rfl rfl (by decide +kernel) ⟨Nat.le_of_ble_eq_true rfl, Nat.le_of_ble_eq_true rfl⟩) (hI.preV hm_5 rfl) rfl rfl hl.1 rfl (lv_room (Nat.le_of_ble_eq_true rfl)) dX10_look_12 ⟨Nat.le_of_ble_eq_true rfl, Nat.le_of_ble_eq_true rfl⟩) (fun _ h => h) (fun r_13 hp_14 => ?_)
  rw [hp_14]
  refine lv_if_eq (tgt := 20) hx hb dX10_look_15 (by decide) (fun c_15 => ?_) (fun c_15 => ?_)
  · -- 15: nI 0 eq
    refine lv_iload_n hx hb dX10_look_20 rfl (lv_at hl 2 rfl) ?_
    refine lv_tableIn (off := 35) (tgt := 56) hx hb dX10_look_21 (by decide) (by decide) (by decide) (by decide) ?_
    refine lv_aload_n hx hb dX10_look_56 rfl (lv_at hl 0 rfl) ?_
    refine h_get (C := RX10) (T := TX10) (N := 38) hx hb hts i_RX10 hown hI hm_5 rfl 5 (by decide) f_27 rfl rfl dX10_look_57 ?_
    refine lv_iload_n hx hb dX10_look_60 rfl (lv_at hl 1 rfl) ?_
    refine h_iald (i := q) hx hb hI hm_6 (by omega) (by decide) dX10_look_61 ?_
    refine n_eq (show _ = nI (kd q) from congrArg nI hmk) ?_
    exact e_Ni hx hb hr rfl hlocks hI ⟨rfl, hm_5, (fun j q0 => hF_10 j q0)⟩ dX10_look_62
  · -- 15: nI 0 ne
    exact absurd (by decide) c_15

/-- X10_look -/
abbrev rm_c_X10_look_1 : Room := { frames := 2, cells := 0, slots := 0, locals := 43 }
set_option maxHeartbeats 4000000 in
set_option maxRecDepth 100000 in
theorem c_X10_look_1 (l : Launch) (G : GG) (z : Nat) (ad : Nat → Nat) (M : Mem) {th : Nat} {on : Nat} {ao : Nat} {vr : Nat} {sn : Nat} {tp : Nat} {pt : Nat} {zs : Nat} {bg : Nat} {fa : Int32} {n : Nat} {kd : Nat → Nat} {fm : Nat → Int32} {to : Nat → Int32} {sz : Nat → Nat} {rl : Nat → Nat → Nat} {en : Nat → Nat → Nat} {mk : Nat → Nat} {mf : Nat → Int32} {mu : Nat → Int32} {mz : Nat → Nat} {rr : Nat → Nat} {ee : Nat → Nat} {q : Nat} (h60 : M 60 = some (cModel ad th n on ao vr sn tp pt zs bg fa)) (h65 : M 65 = some (aI G 120 (nF mk))) (h66 : M 66 = some (aI G 120 mf)) (h67 : M 67 = some (aI G 120 mu)) (h68 : M 68 = some (aI G 121 (nF mz))) (hw : LSw n kd sz rl en) (hmr : MRel n kd fm to sz rl en mk mf mu mz rr ee) (hq : q < n) : Met l yX10_look wsX10_look rm_c_X10_look_1 (Pr G z ad M [.ref (ad 60), .int (nI q), .int (nI 1)]) (Ni G z ad (fun (r : Int32) (M' : Mem) => r = fm q ∧ M' 60 = some (cModel ad 0 n on ao vr sn tp pt zs bg fa) ∧ (∀ j : Nat, j ≠ 60 → M' j = M j))) 0 0 (fr z) := by
  refine Met.ofW (cc := cX10_look) (maxL := 5) (ret := (some .int)) (by decide) rfl ?_
  intro p e s m args below meth c s₁ B hml hv
  obtain ⟨rfl, hv⟩ := hv
  have hI := Iv.entry hv
  have hx := B.exec
  have hb := B.bytes
  have hr := B.returns
  have hts := atoms_spec (ws := wsX10_look) B.pre
  have hown : s.vm.findClass RX10 = some m.cls := findClass_of_methodNamed B.named
  have hlocks := B.notSynchronized
  have f_3 := hts _ (List.mem_cons_of_mem _ (lwg_of t_1013 rfl))
  have i_RX10 : ∀ w ∈ u_ws RX10 TX10 38, w ∈ wsX10_look := fun w h => List.mem_cons_of_mem _ (iu_X10 w h)
  have f_30 := hts _ (List.mem_cons_of_mem _ (lwg_of t_1019 rfl))
  have hl := lv_entry ([.ref (ad 60), .int (nI q), .int (nI 1)]) (n := 5) (Nat.le_of_ble_eq_true rfl)
  rw [lg_entry_eq]
  generalize (lg_sl ([.ref (ad 60), .int (nI q), .int (nI 1)]) ++ List.replicate (5 - (lg_sl ([.ref (ad 60), .int (nI q), .int (nI 1)])).length) Slot.unset).toArray = ls at hl ⊢
  have hl : lv_has ls 5 [(0, .ref (ad 60)), (1, .int (nI q)), (2, .int (nI 1))] := hl
  have hw1 := hw.1
  obtain ⟨hk6, hs6, hje⟩ := hw.2 q hq
  obtain ⟨hmk, hmf, hmt, hmz, hmj⟩ := hmr q hq
  refine lv_aload_n hx hb dX10_look_0 rfl (lv_at hl 0 rfl) ?_
  refine lv_iconst (v := nI 0) hx hb dX10_look_1 (by decide) ?_
  refine h_put (C := RX10) (T := TX10) (N := 38) hx hb hts i_RX10 tyX10 tyX10_ok nmX10 hown hI h60 rfl 0 (by decide) f_3 rfl rfl rfl rfl (Nat.le_of_ble_eq_true rfl) dX10_look_2 (fun M_1 H_2 locs_3 eM_4 hI => ?_)
  have hm_5 : M_1 60 = some (cModel ad 0 n on ao vr sn tp pt zs bg fa) := by rw [eM_4]; exact va_up_self _ _ _
  have hm_6 : M_1 65 = some (aI G 120 (nF mk)) := by rw [eM_4, va_up_ne _ _ (by decide)]; exact h65
  have hm_7 : M_1 66 = some (aI G 120 mf) := by rw [eM_4, va_up_ne _ _ (by decide)]; exact h66
  have hm_8 : M_1 67 = some (aI G 120 mu) := by rw [eM_4, va_up_ne _ _ (by decide)]; exact h67
  have hm_9 : M_1 68 = some (aI G 121 (nF mz)) := by rw [eM_4, va_up_ne _ _ (by decide)]; exact h68
  have hF_10 : ∀ j : Nat, j ≠ 60 → M_1 j = M j := fun j q0 => by rw [eM_4, va_up_ne _ _ q0]
  refine lv_aload_n hx hb dX10_look_5 rfl (lv_at hl 0 rfl) ?_
  refine lv_aload_n hx hb dX10_look_6 rfl (lv_at hl 0 rfl) ?_
  refine lv_iload_n hx hb dX10_look_7 rfl (lv_at hl 1 rfl) ?_
  refine k_Ri (va_runV (As := [.int (nI q)]) (rest := [.ref (ad 60)]) ⟨hx, hb, hml, hown, hts⟩ (c_X10_noLine_0 l G z ad M_1 (th := 0) (ln := n) (on := on) (ao := ao) (vr := vr) (sn := sn) (tp := tp) (pt := pt) (zs := zs) (bg := bg) (fa := fa) (t := q) hm_5 (by omega) (by omega)) (cwV 1 hts (gV (lwg_of t_1157 rfl) (lwg_of t_1159 rfl) (lwg_of ts_24 rfl) (lwg_of t_13 rfl) (lwg_of t_1160 rfl)) rfl rfl rfl (by decide +kernel) ⟨Nat.le_of_ble_eq_true rfl, Nat.le_of_ble_eq_true rfl⟩) (hI.preV hm_5 rfl) rfl rfl hl.1 rfl (lv_room (Nat.le_of_ble_eq_true rfl)) dX10_look_8 ⟨Nat.le_of_ble_eq_true rfl, Nat.le_of_ble_eq_true rfl⟩) (fun _ h => h) (fun r_11 hp_12 => ?_)
  rw [hp_12]
  refine lv_iconst (v := nI 1) hx hb dX10_look_11 (by decide) ?_
  refine k_Ri (va_runV (As := [.int (nI 0), .int (nI 1)]) (rest := []) ⟨hx, hb, hml, hown, hts⟩ (c_X10_throwsIf_0 l G z ad M_1 (th := 0) (ln := n) (on := on) (ao := ao) (vr := vr) (sn := sn) (tp := tp) (pt := pt) (zs := zs) (bg := bg) (fa := fa) (c0 := 1) hm_5) (cwV 2 hts (gV (lwg_of t_1141 rfl) (lwg_of t_1143 rfl) (lwg_of ts_23 rfl) (lwg_of t_13 rfl) (lwg_of t_1144 rfl)) rfl rfl rfl (by decide +kernel) ⟨Nat.le_of_ble_eq_true rfl, Nat.le_of_ble_eq_true rfl⟩) (hI.preV hm_5 rfl) rfl rfl hl.1 rfl (lv_room (Nat.le_of_ble_eq_true rfl)) dX10_look_12 ⟨Nat.le_of_ble_eq_true rfl, Nat.le_of_ble_eq_true rfl⟩) (fun _ h => h) (fun r_13 hp_14 => ?_)
  rw [hp_14]
  refine lv_if_eq (tgt := 20) hx hb dX10_look_15 (by decide) (fun c_15 => ?_) (fun c_15 => ?_)
  · -- 15: nI 0 eq
    refine lv_iload_n hx hb dX10_look_20 rfl (lv_at hl 2 rfl) ?_
    refine lv_tableIn (off := 42) (tgt := 63) hx hb dX10_look_21 (by decide) (by decide) (by decide) (by decide) ?_
    refine lv_aload_n hx hb dX10_look_63 rfl (lv_at hl 0 rfl) ?_
    refine h_get (C := RX10) (T := TX10) (N := 38) hx hb hts i_RX10 hown hI hm_5 rfl 6 (by decide) f_30 rfl rfl dX10_look_64 ?_
    refine lv_iload_n hx hb dX10_look_67 rfl (lv_at hl 1 rfl) ?_
    refine h_iald (i := q) hx hb hI hm_7 (by omega) (by decide) dX10_look_68 ?_
    refine n_eq (show _ = fm q from hmf) ?_
    exact e_Ni hx hb hr rfl hlocks hI ⟨rfl, hm_5, (fun j q0 => hF_10 j q0)⟩ dX10_look_69
  · -- 15: nI 0 ne
    exact absurd (by decide) c_15

/-- X10_look -/
abbrev rm_c_X10_look_2 : Room := { frames := 2, cells := 0, slots := 0, locals := 43 }
set_option maxHeartbeats 4000000 in
set_option maxRecDepth 100000 in
theorem c_X10_look_2 (l : Launch) (G : GG) (z : Nat) (ad : Nat → Nat) (M : Mem) {th : Nat} {on : Nat} {ao : Nat} {vr : Nat} {sn : Nat} {tp : Nat} {pt : Nat} {zs : Nat} {bg : Nat} {fa : Int32} {n : Nat} {kd : Nat → Nat} {fm : Nat → Int32} {to : Nat → Int32} {sz : Nat → Nat} {rl : Nat → Nat → Nat} {en : Nat → Nat → Nat} {mk : Nat → Nat} {mf : Nat → Int32} {mu : Nat → Int32} {mz : Nat → Nat} {rr : Nat → Nat} {ee : Nat → Nat} {q : Nat} (h60 : M 60 = some (cModel ad th n on ao vr sn tp pt zs bg fa)) (h65 : M 65 = some (aI G 120 (nF mk))) (h66 : M 66 = some (aI G 120 mf)) (h67 : M 67 = some (aI G 120 mu)) (h68 : M 68 = some (aI G 121 (nF mz))) (hw : LSw n kd sz rl en) (hmr : MRel n kd fm to sz rl en mk mf mu mz rr ee) (hq : q < n) : Met l yX10_look wsX10_look rm_c_X10_look_2 (Pr G z ad M [.ref (ad 60), .int (nI q), .int (nI 2)]) (Ni G z ad (fun (r : Int32) (M' : Mem) => r = to q ∧ M' 60 = some (cModel ad 0 n on ao vr sn tp pt zs bg fa) ∧ (∀ j : Nat, j ≠ 60 → M' j = M j))) 0 0 (fr z) := by
  refine Met.ofW (cc := cX10_look) (maxL := 5) (ret := (some .int)) (by decide) rfl ?_
  intro p e s m args below meth c s₁ B hml hv
  obtain ⟨rfl, hv⟩ := hv
  have hI := Iv.entry hv
  have hx := B.exec
  have hb := B.bytes
  have hr := B.returns
  have hts := atoms_spec (ws := wsX10_look) B.pre
  have hown : s.vm.findClass RX10 = some m.cls := findClass_of_methodNamed B.named
  have hlocks := B.notSynchronized
  have f_3 := hts _ (List.mem_cons_of_mem _ (lwg_of t_1013 rfl))
  have i_RX10 : ∀ w ∈ u_ws RX10 TX10 38, w ∈ wsX10_look := fun w h => List.mem_cons_of_mem _ (iu_X10 w h)
  have f_33 := hts _ (List.mem_cons_of_mem _ (lwg_of t_1020 rfl))
  have hl := lv_entry ([.ref (ad 60), .int (nI q), .int (nI 2)]) (n := 5) (Nat.le_of_ble_eq_true rfl)
  rw [lg_entry_eq]
  generalize (lg_sl ([.ref (ad 60), .int (nI q), .int (nI 2)]) ++ List.replicate (5 - (lg_sl ([.ref (ad 60), .int (nI q), .int (nI 2)])).length) Slot.unset).toArray = ls at hl ⊢
  have hl : lv_has ls 5 [(0, .ref (ad 60)), (1, .int (nI q)), (2, .int (nI 2))] := hl
  have hw1 := hw.1
  obtain ⟨hk6, hs6, hje⟩ := hw.2 q hq
  obtain ⟨hmk, hmf, hmt, hmz, hmj⟩ := hmr q hq
  refine lv_aload_n hx hb dX10_look_0 rfl (lv_at hl 0 rfl) ?_
  refine lv_iconst (v := nI 0) hx hb dX10_look_1 (by decide) ?_
  refine h_put (C := RX10) (T := TX10) (N := 38) hx hb hts i_RX10 tyX10 tyX10_ok nmX10 hown hI h60 rfl 0 (by decide) f_3 rfl rfl rfl rfl (Nat.le_of_ble_eq_true rfl) dX10_look_2 (fun M_1 H_2 locs_3 eM_4 hI => ?_)
  have hm_5 : M_1 60 = some (cModel ad 0 n on ao vr sn tp pt zs bg fa) := by rw [eM_4]; exact va_up_self _ _ _
  have hm_6 : M_1 65 = some (aI G 120 (nF mk)) := by rw [eM_4, va_up_ne _ _ (by decide)]; exact h65
  have hm_7 : M_1 66 = some (aI G 120 mf) := by rw [eM_4, va_up_ne _ _ (by decide)]; exact h66
  have hm_8 : M_1 67 = some (aI G 120 mu) := by rw [eM_4, va_up_ne _ _ (by decide)]; exact h67
  have hm_9 : M_1 68 = some (aI G 121 (nF mz)) := by rw [eM_4, va_up_ne _ _ (by decide)]; exact h68
  have hF_10 : ∀ j : Nat, j ≠ 60 → M_1 j = M j := fun j q0 => by rw [eM_4, va_up_ne _ _ q0]
  refine lv_aload_n hx hb dX10_look_5 rfl (lv_at hl 0 rfl) ?_
  refine lv_aload_n hx hb dX10_look_6 rfl (lv_at hl 0 rfl) ?_
  refine lv_iload_n hx hb dX10_look_7 rfl (lv_at hl 1 rfl) ?_
  refine k_Ri (va_runV (As := [.int (nI q)]) (rest := [.ref (ad 60)]) ⟨hx, hb, hml, hown, hts⟩ (c_X10_noLine_0 l G z ad M_1 (th := 0) (ln := n) (on := on) (ao := ao) (vr := vr) (sn := sn) (tp := tp) (pt := pt) (zs := zs) (bg := bg) (fa := fa) (t := q) hm_5 (by omega) (by omega)) (cwV 1 hts (gV (lwg_of t_1157 rfl) (lwg_of t_1159 rfl) (lwg_of ts_24 rfl) (lwg_of t_13 rfl) (lwg_of t_1160 rfl)) rfl rfl rfl (by decide +kernel) ⟨Nat.le_of_ble_eq_true rfl, Nat.le_of_ble_eq_true rfl⟩) (hI.preV hm_5 rfl) rfl rfl hl.1 rfl (lv_room (Nat.le_of_ble_eq_true rfl)) dX10_look_8 ⟨Nat.le_of_ble_eq_true rfl, Nat.le_of_ble_eq_true rfl⟩) (fun _ h => h) (fun r_11 hp_12 => ?_)
  rw [hp_12]
  refine lv_iconst (v := nI 1) hx hb dX10_look_11 (by decide) ?_
  refine k_Ri (va_runV (As := [.int (nI 0), .int (nI 1)]) (rest := []) ⟨hx, hb, hml, hown, hts⟩ (c_X10_throwsIf_0 l G z ad M_1 (th := 0) (ln := n) (on := on) (ao := ao) (vr := vr) (sn := sn) (tp := tp) (pt := pt) (zs := zs) (bg := bg) (fa := fa) (c0 := 1) hm_5) (cwV 2 hts (gV (lwg_of t_1141 rfl) (lwg_of t_1143 rfl) (lwg_of ts_23 rfl) (lwg_of t_13 rfl) (lwg_of t_1144 rfl)) rfl rfl rfl (by decide +kernel) ⟨Nat.le_of_ble_eq_true rfl, Nat.le_of_ble_eq_true rfl⟩) (hI.preV hm_5 rfl) rfl rfl hl.1 rfl (lv_room (Nat.le_of_ble_eq_true rfl)) dX10_look_12 ⟨Nat.le_of_ble_eq_true rfl, Nat.le_of_ble_eq_true rfl⟩) (fun _ h => h) (fun r_13 hp_14 => ?_)
  rw [hp_14]
  refine lv_if_eq (tgt := 20) hx hb dX10_look_15 (by decide) (fun c_15 => ?_) (fun c_15 => ?_)
  · -- 15: nI 0 eq
    refine lv_iload_n hx hb dX10_look_20 rfl (lv_at hl 2 rfl) ?_
    refine lv_tableIn (off := 49) (tgt := 70) hx hb dX10_look_21 (by decide) (by decide) (by decide) (by decide) ?_
    refine lv_aload_n hx hb dX10_look_70 rfl (lv_at hl 0 rfl) ?_
    refine h_get (C := RX10) (T := TX10) (N := 38) hx hb hts i_RX10 hown hI hm_5 rfl 7 (by decide) f_33 rfl rfl dX10_look_71 ?_
    refine lv_iload_n hx hb dX10_look_74 rfl (lv_at hl 1 rfl) ?_
    refine h_iald (i := q) hx hb hI hm_8 (by omega) (by decide) dX10_look_75 ?_
    refine n_eq (show _ = to q from hmt) ?_
    exact e_Ni hx hb hr rfl hlocks hI ⟨rfl, hm_5, (fun j q0 => hF_10 j q0)⟩ dX10_look_76
  · -- 15: nI 0 ne
    exact absurd (by decide) c_15

/-- X10_look -/
abbrev rm_c_X10_look_3 : Room := { frames := 2, cells := 0, slots := 0, locals := 43 }
set_option maxHeartbeats 4000000 in
set_option maxRecDepth 100000 in
theorem c_X10_look_3 (l : Launch) (G : GG) (z : Nat) (ad : Nat → Nat) (M : Mem) {th : Nat} {on : Nat} {ao : Nat} {vr : Nat} {sn : Nat} {tp : Nat} {pt : Nat} {zs : Nat} {bg : Nat} {fa : Int32} {n : Nat} {kd : Nat → Nat} {fm : Nat → Int32} {to : Nat → Int32} {sz : Nat → Nat} {rl : Nat → Nat → Nat} {en : Nat → Nat → Nat} {mk : Nat → Nat} {mf : Nat → Int32} {mu : Nat → Int32} {mz : Nat → Nat} {rr : Nat → Nat} {ee : Nat → Nat} {q : Nat} (h60 : M 60 = some (cModel ad th n on ao vr sn tp pt zs bg fa)) (h65 : M 65 = some (aI G 120 (nF mk))) (h66 : M 66 = some (aI G 120 mf)) (h67 : M 67 = some (aI G 120 mu)) (h68 : M 68 = some (aI G 121 (nF mz))) (hw : LSw n kd sz rl en) (hmr : MRel n kd fm to sz rl en mk mf mu mz rr ee) (hq : q < n) : Met l yX10_look wsX10_look rm_c_X10_look_3 (Pr G z ad M [.ref (ad 60), .int (nI q), .int (nI 3)]) (Ni G z ad (fun (r : Int32) (M' : Mem) => r = nI (sz q) ∧ M' 60 = some (cModel ad 0 n on ao vr sn tp pt zs bg fa) ∧ (∀ j : Nat, j ≠ 60 → M' j = M j))) 0 0 (fr z) := by
  refine Met.ofW (cc := cX10_look) (maxL := 5) (ret := (some .int)) (by decide) rfl ?_
  intro p e s m args below meth c s₁ B hml hv
  obtain ⟨rfl, hv⟩ := hv
  have hI := Iv.entry hv
  have hx := B.exec
  have hb := B.bytes
  have hr := B.returns
  have hts := atoms_spec (ws := wsX10_look) B.pre
  have hown : s.vm.findClass RX10 = some m.cls := findClass_of_methodNamed B.named
  have hlocks := B.notSynchronized
  have f_3 := hts _ (List.mem_cons_of_mem _ (lwg_of t_1013 rfl))
  have i_RX10 : ∀ w ∈ u_ws RX10 TX10 38, w ∈ wsX10_look := fun w h => List.mem_cons_of_mem _ (iu_X10 w h)
  have f_36 := hts _ (List.mem_cons_of_mem _ (lwg_of t_1021 rfl))
  have hl := lv_entry ([.ref (ad 60), .int (nI q), .int (nI 3)]) (n := 5) (Nat.le_of_ble_eq_true rfl)
  rw [lg_entry_eq]
  generalize (lg_sl ([.ref (ad 60), .int (nI q), .int (nI 3)]) ++ List.replicate (5 - (lg_sl ([.ref (ad 60), .int (nI q), .int (nI 3)])).length) Slot.unset).toArray = ls at hl ⊢
  have hl : lv_has ls 5 [(0, .ref (ad 60)), (1, .int (nI q)), (2, .int (nI 3))] := hl
  have hw1 := hw.1
  obtain ⟨hk6, hs6, hje⟩ := hw.2 q hq
  obtain ⟨hmk, hmf, hmt, hmz, hmj⟩ := hmr q hq
  refine lv_aload_n hx hb dX10_look_0 rfl (lv_at hl 0 rfl) ?_
  refine lv_iconst (v := nI 0) hx hb dX10_look_1 (by decide) ?_
  refine h_put (C := RX10) (T := TX10) (N := 38) hx hb hts i_RX10 tyX10 tyX10_ok nmX10 hown hI h60 rfl 0 (by decide) f_3 rfl rfl rfl rfl (Nat.le_of_ble_eq_true rfl) dX10_look_2 (fun M_1 H_2 locs_3 eM_4 hI => ?_)
  have hm_5 : M_1 60 = some (cModel ad 0 n on ao vr sn tp pt zs bg fa) := by rw [eM_4]; exact va_up_self _ _ _
  have hm_6 : M_1 65 = some (aI G 120 (nF mk)) := by rw [eM_4, va_up_ne _ _ (by decide)]; exact h65
  have hm_7 : M_1 66 = some (aI G 120 mf) := by rw [eM_4, va_up_ne _ _ (by decide)]; exact h66
  have hm_8 : M_1 67 = some (aI G 120 mu) := by rw [eM_4, va_up_ne _ _ (by decide)]; exact h67
  have hm_9 : M_1 68 = some (aI G 121 (nF mz)) := by rw [eM_4, va_up_ne _ _ (by decide)]; exact h68
  have hF_10 : ∀ j : Nat, j ≠ 60 → M_1 j = M j := fun j q0 => by rw [eM_4, va_up_ne _ _ q0]
  refine lv_aload_n hx hb dX10_look_5 rfl (lv_at hl 0 rfl) ?_
  refine lv_aload_n hx hb dX10_look_6 rfl (lv_at hl 0 rfl) ?_
  refine lv_iload_n hx hb dX10_look_7 rfl (lv_at hl 1 rfl) ?_
  refine k_Ri (va_runV (As := [.int (nI q)]) (rest := [.ref (ad 60)]) ⟨hx, hb, hml, hown, hts⟩ (c_X10_noLine_0 l G z ad M_1 (th := 0) (ln := n) (on := on) (ao := ao) (vr := vr) (sn := sn) (tp := tp) (pt := pt) (zs := zs) (bg := bg) (fa := fa) (t := q) hm_5 (by omega) (by omega)) (cwV 1 hts (gV (lwg_of t_1157 rfl) (lwg_of t_1159 rfl) (lwg_of ts_24 rfl) (lwg_of t_13 rfl) (lwg_of t_1160 rfl)) rfl rfl rfl (by decide +kernel) ⟨Nat.le_of_ble_eq_true rfl, Nat.le_of_ble_eq_true rfl⟩) (hI.preV hm_5 rfl) rfl rfl hl.1 rfl (lv_room (Nat.le_of_ble_eq_true rfl)) dX10_look_8 ⟨Nat.le_of_ble_eq_true rfl, Nat.le_of_ble_eq_true rfl⟩) (fun _ h => h) (fun r_11 hp_12 => ?_)
  rw [hp_12]
  refine lv_iconst (v := nI 1) hx hb dX10_look_11 (by decide) ?_
  refine k_Ri (va_runV (As := [.int (nI 0), .int (nI 1)]) (rest := []) ⟨hx, hb, hml, hown, hts⟩ (c_X10_throwsIf_0 l G z ad M_1 (th := 0) (ln := n) (on := on) (ao := ao) (vr := vr) (sn := sn) (tp := tp) (pt := pt) (zs := zs) (bg := bg) (fa := fa) (c0 := 1) hm_5) (cwV 2 hts (gV (lwg_of t_1141 rfl) (lwg_of t_1143 rfl) (lwg_of ts_23 rfl) (lwg_of t_13 rfl) (lwg_of t_1144 rfl)) rfl rfl rfl (by decide +kernel) ⟨Nat.le_of_ble_eq_true rfl, Nat.le_of_ble_eq_true rfl⟩) (hI.preV hm_5 rfl) rfl rfl hl.1 rfl (lv_room (Nat.le_of_ble_eq_true rfl)) dX10_look_12 ⟨Nat.le_of_ble_eq_true rfl, Nat.le_of_ble_eq_true rfl⟩) (fun _ h => h) (fun r_13 hp_14 => ?_)
  rw [hp_14]
  refine lv_if_eq (tgt := 20) hx hb dX10_look_15 (by decide) (fun c_15 => ?_) (fun c_15 => ?_)
  · -- 15: nI 0 eq
    refine lv_iload_n hx hb dX10_look_20 rfl (lv_at hl 2 rfl) ?_
    refine lv_tableIn (off := 56) (tgt := 77) hx hb dX10_look_21 (by decide) (by decide) (by decide) (by decide) ?_
    refine lv_aload_n hx hb dX10_look_77 rfl (lv_at hl 0 rfl) ?_
    refine h_get (C := RX10) (T := TX10) (N := 38) hx hb hts i_RX10 hown hI hm_5 rfl 8 (by decide) f_36 rfl rfl dX10_look_78 ?_
    refine lv_iload_n hx hb dX10_look_81 rfl (lv_at hl 1 rfl) ?_
    refine h_iald (i := q) hx hb hI hm_9 (by omega) (by decide) dX10_look_82 ?_
    refine n_eq (show _ = nI (sz q) from congrArg nI hmz) ?_
    exact e_Ni hx hb hr rfl hlocks hI ⟨rfl, hm_5, (fun j q0 => hF_10 j q0)⟩ dX10_look_83
  · -- 15: nI 0 ne
    exact absurd (by decide) c_15

/-- X10_look -/
abbrev rm_c_X10_look_4 : Room := { frames := 2, cells := 0, slots := 0, locals := 43 }
set_option maxHeartbeats 4000000 in
set_option maxRecDepth 100000 in
theorem c_X10_look_4 (l : Launch) (G : GG) (z : Nat) (ad : Nat → Nat) (M : Mem) {th : Nat} {on : Nat} {ao : Nat} {vr : Nat} {sn : Nat} {tp : Nat} {pt : Nat} {zs : Nat} {bg : Nat} {fa : Int32} {n : Nat} {kd : Nat → Nat} {fm : Nat → Int32} {to : Nat → Int32} {sz : Nat → Nat} {rl : Nat → Nat → Nat} {en : Nat → Nat → Nat} {mk : Nat → Nat} {mf : Nat → Int32} {mu : Nat → Int32} {mz : Nat → Nat} {rr : Nat → Nat} {ee : Nat → Nat} {q : Nat} (h60 : M 60 = some (cModel ad th n on ao vr sn tp pt zs bg fa)) (h65 : M 65 = some (aI G 120 (nF mk))) (h66 : M 66 = some (aI G 120 mf)) (h67 : M 67 = some (aI G 120 mu)) (h68 : M 68 = some (aI G 121 (nF mz))) (h69 : M 69 = some (aI G 726 (nF rr))) (h70 : M 70 = some (aI G 726 (nF ee))) (hw : LSw n kd sz rl en) (hmr : MRel n kd fm to sz rl en mk mf mu mz rr ee) (hq : q < n) : Met l yX10_look wsX10_look rm_c_X10_look_4 (Pr G z ad M [.ref (ad 60), .int (nI q), .int (nI 4)]) (Ni G z ad (fun (r : Int32) (M' : Mem) => r = nI (cntB (hgO sz en q) n) ∧ M' 60 = some (cModel ad 0 n on ao vr sn tp pt zs bg fa) ∧ (∀ j : Nat, j ≠ 60 → M' j = M j))) 0 0 (fr z) := by
  refine Met.ofW (cc := cX10_look) (maxL := 5) (ret := (some .int)) (by decide) rfl ?_
  intro p e s m args below meth c s₁ B hml hv
  obtain ⟨rfl, hv⟩ := hv
  have hI := Iv.entry hv
  have hx := B.exec
  have hb := B.bytes
  have hr := B.returns
  have hts := atoms_spec (ws := wsX10_look) B.pre
  have hown : s.vm.findClass RX10 = some m.cls := findClass_of_methodNamed B.named
  have hlocks := B.notSynchronized
  have f_3 := hts _ (List.mem_cons_of_mem _ (lwg_of t_1013 rfl))
  have i_RX10 : ∀ w ∈ u_ws RX10 TX10 38, w ∈ wsX10_look := fun w h => List.mem_cons_of_mem _ (iu_X10 w h)
  have f_108 := hts _ (List.mem_cons_of_mem _ (lwg_of t_1024 rfl))
  have hl := lv_entry ([.ref (ad 60), .int (nI q), .int (nI 4)]) (n := 5) (Nat.le_of_ble_eq_true rfl)
  rw [lg_entry_eq]
  generalize (lg_sl ([.ref (ad 60), .int (nI q), .int (nI 4)]) ++ List.replicate (5 - (lg_sl ([.ref (ad 60), .int (nI q), .int (nI 4)])).length) Slot.unset).toArray = ls at hl ⊢
  have hl : lv_has ls 5 [(0, .ref (ad 60)), (1, .int (nI q)), (2, .int (nI 4))] := hl
  refine w_q (fun Q hQ => ?_)
  have hw1 := hw.1
  obtain ⟨hk6, hs6, hje⟩ := hw.2 q hq
  obtain ⟨hmk, hmf, hmt, hmz, hmj⟩ := hmr q hq
  refine lv_aload_n hx hb dX10_look_0 rfl (lv_at hl 0 rfl) ?_
  refine lv_iconst (v := nI 0) hx hb dX10_look_1 (by decide) ?_
  refine h_put (C := RX10) (T := TX10) (N := 38) hx hb hts i_RX10 tyX10 tyX10_ok nmX10 hown hI h60 rfl 0 (by decide) f_3 rfl rfl rfl rfl (Nat.le_of_ble_eq_true rfl) dX10_look_2 (fun M_1 H_2 locs_3 eM_4 hI => ?_)
  have hm_5 : M_1 60 = some (cModel ad 0 n on ao vr sn tp pt zs bg fa) := by rw [eM_4]; exact va_up_self _ _ _
  have hm_6 : M_1 65 = some (aI G 120 (nF mk)) := by rw [eM_4, va_up_ne _ _ (by decide)]; exact h65
  have hm_7 : M_1 66 = some (aI G 120 mf) := by rw [eM_4, va_up_ne _ _ (by decide)]; exact h66
  have hm_8 : M_1 67 = some (aI G 120 mu) := by rw [eM_4, va_up_ne _ _ (by decide)]; exact h67
  have hm_9 : M_1 68 = some (aI G 121 (nF mz)) := by rw [eM_4, va_up_ne _ _ (by decide)]; exact h68
  have hm_10 : M_1 69 = some (aI G 726 (nF rr)) := by rw [eM_4, va_up_ne _ _ (by decide)]; exact h69
  have hm_11 : M_1 70 = some (aI G 726 (nF ee)) := by rw [eM_4, va_up_ne _ _ (by decide)]; exact h70
  have hF_12 : ∀ j : Nat, j ≠ 60 → M_1 j = M j := fun j q0 => by rw [eM_4, va_up_ne _ _ q0]
  refine lv_aload_n hx hb dX10_look_5 rfl (lv_at hl 0 rfl) ?_
  refine lv_aload_n hx hb dX10_look_6 rfl (lv_at hl 0 rfl) ?_
  refine lv_iload_n hx hb dX10_look_7 rfl (lv_at hl 1 rfl) ?_
  refine k_Ri (va_runV (As := [.int (nI q)]) (rest := [.ref (ad 60)]) ⟨hx, hb, hml, hown, hts⟩ (c_X10_noLine_0 l G z ad M_1 (th := 0) (ln := n) (on := on) (ao := ao) (vr := vr) (sn := sn) (tp := tp) (pt := pt) (zs := zs) (bg := bg) (fa := fa) (t := q) hm_5 (by omega) (by omega)) (cwV 1 hts (gV (lwg_of t_1157 rfl) (lwg_of t_1159 rfl) (lwg_of ts_24 rfl) (lwg_of t_13 rfl) (lwg_of t_1160 rfl)) rfl rfl rfl (by decide +kernel) ⟨Nat.le_of_ble_eq_true rfl, Nat.le_of_ble_eq_true rfl⟩) (hI.preV hm_5 rfl) rfl rfl hl.1 rfl (lv_room (Nat.le_of_ble_eq_true rfl)) dX10_look_8 ⟨Nat.le_of_ble_eq_true rfl, Nat.le_of_ble_eq_true rfl⟩) (fun _ h => h) (fun r_13 hp_14 => ?_)
  rw [hp_14]
  refine lv_iconst (v := nI 1) hx hb dX10_look_11 (by decide) ?_
  refine k_Ri (va_runV (As := [.int (nI 0), .int (nI 1)]) (rest := []) ⟨hx, hb, hml, hown, hts⟩ (c_X10_throwsIf_0 l G z ad M_1 (th := 0) (ln := n) (on := on) (ao := ao) (vr := vr) (sn := sn) (tp := tp) (pt := pt) (zs := zs) (bg := bg) (fa := fa) (c0 := 1) hm_5) (cwV 2 hts (gV (lwg_of t_1141 rfl) (lwg_of t_1143 rfl) (lwg_of ts_23 rfl) (lwg_of t_13 rfl) (lwg_of t_1144 rfl)) rfl rfl rfl (by decide +kernel) ⟨Nat.le_of_ble_eq_true rfl, Nat.le_of_ble_eq_true rfl⟩) (hI.preV hm_5 rfl) rfl rfl hl.1 rfl (lv_room (Nat.le_of_ble_eq_true rfl)) dX10_look_12 ⟨Nat.le_of_ble_eq_true rfl, Nat.le_of_ble_eq_true rfl⟩) (fun _ h => h) (fun r_15 hp_16 => ?_)
  rw [hp_16]
  refine lv_if_eq (tgt := 20) hx hb dX10_look_15 (by decide) (fun c_17 => ?_) (fun c_17 => ?_)
  · -- 15: nI 0 eq
    refine lv_iload_n hx hb dX10_look_20 rfl (lv_at hl 2 rfl) ?_
    refine lv_tableIn (off := 63) (tgt := 84) hx hb dX10_look_21 (by decide) (by decide) (by decide) (by decide) ?_
    refine lv_iconst (v := nI 0) hx hb dX10_look_84 (by decide) ?_
    refine lv_istore_n (lv' := [(3, .int (nI 0)), (0, .ref (ad 60)), (1, .int (nI q)), (2, .int (nI 4))]) hx hb dX10_look_85 rfl hl (by decide) rfl (fun ls hl => ?_)
    refine lv_iload_n hx hb dX10_look_86 rfl (lv_at hl 2 rfl) ?_
    refine lv_iconst (v := nI 1) hx hb dX10_look_87 (by decide) ?_
    refine lv_iadd hx hb dX10_look_88 ?_
    refine n_eq (nI_add q 1) ?_
    refine lv_istore (lv' := [(4, .int (nI (q + 1))), (3, .int (nI 0)), (0, .ref (ad 60)), (1, .int (nI q)), (2, .int (nI 4))]) hx hb dX10_look_89 hl (by decide) rfl (fun ls hl => ?_)
    have lp91_18 : ∀ (fuel : Nat) (i : Nat) (cn : Nat) (Mx : Mem) (Hx : Heap) (locsx : List Loc) (ls : Array Slot), (n - i) < fuel → (q < i ∧ i ≤ n) → (cn = cntB (hgO sz en q) i) → Iv G z ad Mx s Hx locsx → Mx 60 = some (cModel ad 0 n on ao vr sn tp pt zs bg fa) → (∀ j : Nat, j ≠ 60 → Mx j = M j) → lv_has ls 5 [(0, .ref (ad 60)), (1, .int (nI q)), (3, .int (nI cn)), (4, .int (nI i))] → W p l e (headSpec wsX10_look rm_c_X10_look_4).room s m ([.ref (ad 60), .int (nI q), .int (nI 4)] : List Value).toArray below meth c Hx locsx 0 0 Q (F0 m 91 ls []) := by
      intro fuel
      induction fuel with
      | zero => intro i cn Mx Hx locsx ls hfu hi hcn hI hm_19 hF_21 hl; exact absurd hfu (Nat.not_lt_zero _)
      | succ fuel ih_22 =>
        intro i cn Mx Hx locsx ls hfu hi hcn hI hm_19 hF_21 hl
        have hm_23 : Mx 65 = some (aI G 120 (nF mk)) := by rw [hF_21 65 (by omega)]; exact h65
        have hm_24 : Mx 66 = some (aI G 120 mf) := by rw [hF_21 66 (by omega)]; exact h66
        have hm_25 : Mx 67 = some (aI G 120 mu) := by rw [hF_21 67 (by omega)]; exact h67
        have hm_26 : Mx 68 = some (aI G 121 (nF mz)) := by rw [hF_21 68 (by omega)]; exact h68
        have hm_27 : Mx 69 = some (aI G 726 (nF rr)) := by rw [hF_21 69 (by omega)]; exact h69
        have hm_28 : Mx 70 = some (aI G 726 (nF ee)) := by rw [hF_21 70 (by omega)]; exact h70
        refine lv_iload hx hb dX10_look_91 (lv_at hl 3 rfl) ?_
        refine lv_aload_n hx hb dX10_look_93 rfl (lv_at hl 0 rfl) ?_
        refine h_get (C := RX10) (T := TX10) (N := 38) hx hb hts i_RX10 hown hI hm_19 rfl 11 (by decide) f_108 rfl rfl dX10_look_94 ?_
        refine lv_icmp_ge (tgt := 124) hx hb dX10_look_97 (by decide) (fun c_29 => ?_) (fun c_29 => ?_)
        · -- 97: nI i ge
          have c_29 : n ≤ i := (nI_leI (a := n) (b := i) (by omega) (by omega)).mp (c_29)
          refine lv_iload_n hx hb dX10_look_124 rfl (lv_at hl 2 rfl) ?_
          subst hQ
          exact e_Ni hx hb hr rfl hlocks hI ⟨(by rw [hcn, show i = n by omega]), hm_19, (fun j q0 => hF_21 j q0)⟩ dX10_look_125
        · -- 97: nI i lt
          have c_29 : i < n := by have h := mt (nI_leI (a := n) (b := i) (by omega) (by omega)).mpr c_29; omega
          refine lv_iload_n hx hb dX10_look_100 rfl (lv_at hl 2 rfl) ?_
          refine lv_aload_n hx hb dX10_look_101 rfl (lv_at hl 0 rfl) ?_
          refine lv_iload hx hb dX10_look_102 (lv_at hl 3 rfl) ?_
          refine lv_iload_n hx hb dX10_look_104 rfl (lv_at hl 1 rfl) ?_
          refine k_Ri (va_runV (As := [.int (nI i), .int (nI q)]) (rest := [.int (nI cn)]) ⟨hx, hb, hml, hown, hts⟩ (c_X10_hangs l G z ad Mx (th := 0) (ln := n) (on := on) (ao := ao) (vr := vr) (sn := sn) (tp := tp) (pt := pt) (zs := zs) (bg := bg) (fa := fa) (n := n) (kd := kd) (fm := fm) (to := to) (sz := sz) (rl := rl) (en := en) (mk := mk) (mf := mf) (mu := mu) (mz := mz) (rr := rr) (ee := ee) (q := i) (x := q) hm_19 hm_26 hm_28 hw hmr (by omega) (by omega)) (cwV 2 hts (gV (lwg_of t_1188 rfl) (lwg_of t_1190 rfl) (lwg_of ts_29 rfl) (lwg_of t_13 rfl) (lwg_of t_1191 rfl)) rfl rfl rfl (by decide +kernel) ⟨Nat.le_of_ble_eq_true rfl, Nat.le_of_ble_eq_true rfl⟩) (hI.preV hm_19 rfl) rfl rfl hl.1 rfl (lv_room (Nat.le_of_ble_eq_true rfl)) dX10_look_105 ⟨Nat.le_of_ble_eq_true rfl, Nat.le_of_ble_eq_true rfl⟩) (fun _ h => h) (fun r_30 hp_31 => ?_)
          rw [hp_31]
          refine lv_if_eq (tgt := 115) hx hb dX10_look_108 (by decide) (fun c_32 => ?_) (fun c_32 => ?_)
          · -- 108: bI (hgs sz en i q) eq
            have c_32 : hgs sz en i q = false := bI_f (c_32)
            refine lv_iconst (v := nI 0) hx hb dX10_look_115 (by decide) ?_
            refine lv_iadd hx hb dX10_look_116 ?_
            refine n_eq (nI_add cn 0) ?_
            refine lv_istore_n (lv' := [(3, .int (nI (cn + 0))), (0, .ref (ad 60)), (1, .int (nI q)), (4, .int (nI i))]) hx hb dX10_look_117 rfl hl (by decide) rfl (fun ls hl => ?_)
            refine lv_iinc (v := nI (i + 1)) (lv' := [(4, .int (nI (i + 1))), (3, .int (nI (cn + 0))), (0, .ref (ad 60)), (1, .int (nI q))]) hx hb dX10_look_118 hl (k := 3) rfl (nI_add i 1) (by decide) rfl (fun ls hl => ?_)
            refine lv_goto (tgt := 91) hx hb dX10_look_121 (by decide) ?_
            exact ih_22 (i + 1) (cn + 0) Mx Hx locsx ls (by omega) (by omega) (by rw [cntB_f (hgO_f (by assumption)), hcn]; rfl) hI hm_19 (fun j q0 => hF_21 j q0) (lv_sub hl [2, 3, 1, 0] rfl)
          · -- 108: bI (hgs sz en i q) ne
            have c_32 : hgs sz en i q = true := bI_t (c_32)
            refine lv_iconst (v := nI 1) hx hb dX10_look_111 (by decide) ?_
            refine lv_goto (tgt := 116) hx hb dX10_look_112 (by decide) ?_
            refine lv_iadd hx hb dX10_look_116 ?_
            refine n_eq (nI_add cn 1) ?_
            refine lv_istore_n (lv' := [(3, .int (nI (cn + 1))), (0, .ref (ad 60)), (1, .int (nI q)), (4, .int (nI i))]) hx hb dX10_look_117 rfl hl (by decide) rfl (fun ls hl => ?_)
            refine lv_iinc (v := nI (i + 1)) (lv' := [(4, .int (nI (i + 1))), (3, .int (nI (cn + 1))), (0, .ref (ad 60)), (1, .int (nI q))]) hx hb dX10_look_118 hl (k := 3) rfl (nI_add i 1) (by decide) rfl (fun ls hl => ?_)
            refine lv_goto (tgt := 91) hx hb dX10_look_121 (by decide) ?_
            exact ih_22 (i + 1) (cn + 1) Mx Hx locsx ls (by omega) (by omega) (by rw [cntB_t (hgO_t (by omega) (by assumption)), hcn]) hI hm_19 (fun j q0 => hF_21 j q0) (lv_sub hl [2, 3, 1, 0] rfl)
    exact lp91_18 ((n - (q + 1)) + 1) (q + 1) 0 M_1 H_2 locs_3 ls (Nat.lt_succ_self _) (by omega) ((cntB_0 (fun j hj => by simp [hgO]; omega)).symm) hI hm_5 (fun j q0 => hF_12 j q0) (lv_sub hl [2, 3, 1, 0] rfl)
  · -- 15: nI 0 ne
    exact absurd (by decide) c_17

/-- X10_look -/
abbrev rm_c_X10_look_a : Room := { frames := 2, cells := 0, slots := 0, locals := 43 }
set_option maxHeartbeats 4000000 in
set_option maxRecDepth 100000 in
theorem c_X10_look_a (l : Launch) (G : GG) (z : Nat) (ad : Nat → Nat) (M : Mem) {th : Nat} {on : Nat} {ao : Nat} {vr : Nat} {sn : Nat} {tp : Nat} {pt : Nat} {zs : Nat} {bg : Nat} {fa : Int32} {n : Nat} {x0 : Int32} {x1 : Int32} (h60 : M 60 = some (cModel ad th n on ao vr sn tp pt zs bg fa)) (hbad : x0 < 0 ∨ ¬ x0 < nI n) (hn : n ≤ 120) : Met l yX10_look wsX10_look rm_c_X10_look_a (Pr G z ad M [.ref (ad 60), .int x0, .int x1]) (Ni G z ad (fun (r : Int32) (M' : Mem) => r = nI 0 ∧ M' 60 = some (cModel ad 1 n on ao vr sn tp pt zs bg fa) ∧ (∀ j : Nat, j ≠ 60 → M' j = M j))) 0 0 (fr z) := by
  refine Met.ofW (cc := cX10_look) (maxL := 5) (ret := (some .int)) (by decide) rfl ?_
  intro p e s m args below meth c s₁ B hml hv
  obtain ⟨rfl, hv⟩ := hv
  have hI := Iv.entry hv
  have hx := B.exec
  have hb := B.bytes
  have hr := B.returns
  have hts := atoms_spec (ws := wsX10_look) B.pre
  have hown : s.vm.findClass RX10 = some m.cls := findClass_of_methodNamed B.named
  have hlocks := B.notSynchronized
  have f_3 := hts _ (List.mem_cons_of_mem _ (lwg_of t_1013 rfl))
  have i_RX10 : ∀ w ∈ u_ws RX10 TX10 38, w ∈ wsX10_look := fun w h => List.mem_cons_of_mem _ (iu_X10 w h)
  have hl := lv_entry ([.ref (ad 60), .int x0, .int x1]) (n := 5) (Nat.le_of_ble_eq_true rfl)
  rw [lg_entry_eq]
  generalize (lg_sl ([.ref (ad 60), .int x0, .int x1]) ++ List.replicate (5 - (lg_sl ([.ref (ad 60), .int x0, .int x1])).length) Slot.unset).toArray = ls at hl ⊢
  have hl : lv_has ls 5 [(0, .ref (ad 60)), (1, .int x0), (2, .int x1)] := hl
  refine lv_aload_n hx hb dX10_look_0 rfl (lv_at hl 0 rfl) ?_
  refine lv_iconst (v := nI 0) hx hb dX10_look_1 (by decide) ?_
  refine h_put (C := RX10) (T := TX10) (N := 38) hx hb hts i_RX10 tyX10 tyX10_ok nmX10 hown hI h60 rfl 0 (by decide) f_3 rfl rfl rfl rfl (Nat.le_of_ble_eq_true rfl) dX10_look_2 (fun M_1 H_2 locs_3 eM_4 hI => ?_)
  have hm_5 : M_1 60 = some (cModel ad 0 n on ao vr sn tp pt zs bg fa) := by rw [eM_4]; exact va_up_self _ _ _
  have hF_6 : ∀ j : Nat, j ≠ 60 → M_1 j = M j := fun j q0 => by rw [eM_4, va_up_ne _ _ q0]
  refine lv_aload_n hx hb dX10_look_5 rfl (lv_at hl 0 rfl) ?_
  refine lv_aload_n hx hb dX10_look_6 rfl (lv_at hl 0 rfl) ?_
  refine lv_iload_n hx hb dX10_look_7 rfl (lv_at hl 1 rfl) ?_
  refine k_Ri (va_runV (As := [.int x0]) (rest := [.ref (ad 60)]) ⟨hx, hb, hml, hown, hts⟩ (c_X10_noLine_1 l G z ad M_1 (th := 0) (ln := n) (on := on) (ao := ao) (vr := vr) (sn := sn) (tp := tp) (pt := pt) (zs := zs) (bg := bg) (fa := fa) (x := x0) hm_5 hbad (by omega)) (cwV 1 hts (gV (lwg_of t_1157 rfl) (lwg_of t_1159 rfl) (lwg_of ts_24 rfl) (lwg_of t_13 rfl) (lwg_of t_1160 rfl)) rfl rfl rfl (by decide +kernel) ⟨Nat.le_of_ble_eq_true rfl, Nat.le_of_ble_eq_true rfl⟩) (hI.preV hm_5 rfl) rfl rfl hl.1 rfl (lv_room (Nat.le_of_ble_eq_true rfl)) dX10_look_8 ⟨Nat.le_of_ble_eq_true rfl, Nat.le_of_ble_eq_true rfl⟩) (fun _ h => h) (fun r_7 hp_8 => ?_)
  rw [hp_8]
  refine lv_iconst (v := nI 1) hx hb dX10_look_11 (by decide) ?_
  refine k_Ni (va_runV (As := [.int (nI 1), .int (nI 1)]) (rest := []) ⟨hx, hb, hml, hown, hts⟩ (c_X10_throwsIf_1 l G z ad M_1 (th := 0) (ln := n) (on := on) (ao := ao) (vr := vr) (sn := sn) (tp := tp) (pt := pt) (zs := zs) (bg := bg) (fa := fa) (c0 := 1) hm_5) (cwV 2 hts (gV (lwg_of t_1141 rfl) (lwg_of t_1143 rfl) (lwg_of ts_23 rfl) (lwg_of t_13 rfl) (lwg_of t_1144 rfl)) rfl rfl rfl (by decide +kernel) ⟨Nat.le_of_ble_eq_true rfl, Nat.le_of_ble_eq_true rfl⟩) (hI.preV hm_5 rfl) rfl rfl hl.1 rfl (lv_room (Nat.le_of_ble_eq_true rfl)) dX10_look_12 ⟨Nat.le_of_ble_eq_true rfl, Nat.le_of_ble_eq_true rfl⟩) hI (fun r_9 M_11 H_12 locs_13 hp_10 hI => ?_)
  obtain ⟨hr_14, hm_15, hF_16⟩ := hp_10
  have hF_17 : ∀ j : Nat, j ≠ 60 → M_11 j = M j := fun j q0 => (hF_16 j q0).trans (hF_6 j q0)
  rw [hr_14]
  refine lv_if_eq (tgt := 20) hx hb dX10_look_15 (by decide) (fun c_18 => ?_) (fun c_18 => ?_)
  · -- 15: nI 1 eq
    exact absurd c_18 (by decide)
  · -- 15: nI 1 ne
    refine lv_iconst (v := nI 0) hx hb dX10_look_18 (by decide) ?_
    exact e_Ni hx hb hr rfl hlocks hI ⟨rfl, hm_15, (fun j q0 => hF_17 j q0)⟩ dX10_look_19

/-- X10_look -/
abbrev rm_c_X10_look_x : Room := { frames := 2, cells := 0, slots := 0, locals := 43 }
set_option maxHeartbeats 4000000 in
set_option maxRecDepth 100000 in
theorem c_X10_look_x (l : Launch) (G : GG) (z : Nat) (ad : Nat → Nat) (M : Mem) {th : Nat} {on : Nat} {ao : Nat} {vr : Nat} {sn : Nat} {tp : Nat} {pt : Nat} {zs : Nat} {bg : Nat} {fa : Int32} {n : Nat} {q : Nat} {x1 : Int32} (h60 : M 60 = some (cModel ad th n on ao vr sn tp pt zs bg fa)) (hq : q < n) (hn : n ≤ 120) (hout : x1.toInt < 0 ∨ 4 < x1.toInt) : Met l yX10_look wsX10_look rm_c_X10_look_x (Pr G z ad M [.ref (ad 60), .int (nI q), .int x1]) (Ni G z ad (fun (r : Int32) (M' : Mem) => r = nI 0 ∧ M' 60 = some (cModel ad 2 n on ao vr sn tp pt zs bg fa) ∧ (∀ j : Nat, j ≠ 60 → M' j = M j))) 0 0 (fr z) := by
  refine Met.ofW (cc := cX10_look) (maxL := 5) (ret := (some .int)) (by decide) rfl ?_
  intro p e s m args below meth c s₁ B hml hv
  obtain ⟨rfl, hv⟩ := hv
  have hI := Iv.entry hv
  have hx := B.exec
  have hb := B.bytes
  have hr := B.returns
  have hts := atoms_spec (ws := wsX10_look) B.pre
  have hown : s.vm.findClass RX10 = some m.cls := findClass_of_methodNamed B.named
  have hlocks := B.notSynchronized
  have f_3 := hts _ (List.mem_cons_of_mem _ (lwg_of t_1013 rfl))
  have i_RX10 : ∀ w ∈ u_ws RX10 TX10 38, w ∈ wsX10_look := fun w h => List.mem_cons_of_mem _ (iu_X10 w h)
  have hl := lv_entry ([.ref (ad 60), .int (nI q), .int x1]) (n := 5) (Nat.le_of_ble_eq_true rfl)
  rw [lg_entry_eq]
  generalize (lg_sl ([.ref (ad 60), .int (nI q), .int x1]) ++ List.replicate (5 - (lg_sl ([.ref (ad 60), .int (nI q), .int x1])).length) Slot.unset).toArray = ls at hl ⊢
  have hl : lv_has ls 5 [(0, .ref (ad 60)), (1, .int (nI q)), (2, .int x1)] := hl
  refine lv_aload_n hx hb dX10_look_0 rfl (lv_at hl 0 rfl) ?_
  refine lv_iconst (v := nI 0) hx hb dX10_look_1 (by decide) ?_
  refine h_put (C := RX10) (T := TX10) (N := 38) hx hb hts i_RX10 tyX10 tyX10_ok nmX10 hown hI h60 rfl 0 (by decide) f_3 rfl rfl rfl rfl (Nat.le_of_ble_eq_true rfl) dX10_look_2 (fun M_1 H_2 locs_3 eM_4 hI => ?_)
  have hm_5 : M_1 60 = some (cModel ad 0 n on ao vr sn tp pt zs bg fa) := by rw [eM_4]; exact va_up_self _ _ _
  have hF_6 : ∀ j : Nat, j ≠ 60 → M_1 j = M j := fun j q0 => by rw [eM_4, va_up_ne _ _ q0]
  refine lv_aload_n hx hb dX10_look_5 rfl (lv_at hl 0 rfl) ?_
  refine lv_aload_n hx hb dX10_look_6 rfl (lv_at hl 0 rfl) ?_
  refine lv_iload_n hx hb dX10_look_7 rfl (lv_at hl 1 rfl) ?_
  refine k_Ri (va_runV (As := [.int (nI q)]) (rest := [.ref (ad 60)]) ⟨hx, hb, hml, hown, hts⟩ (c_X10_noLine_0 l G z ad M_1 (th := 0) (ln := n) (on := on) (ao := ao) (vr := vr) (sn := sn) (tp := tp) (pt := pt) (zs := zs) (bg := bg) (fa := fa) (t := q) hm_5 (by omega) (by omega)) (cwV 1 hts (gV (lwg_of t_1157 rfl) (lwg_of t_1159 rfl) (lwg_of ts_24 rfl) (lwg_of t_13 rfl) (lwg_of t_1160 rfl)) rfl rfl rfl (by decide +kernel) ⟨Nat.le_of_ble_eq_true rfl, Nat.le_of_ble_eq_true rfl⟩) (hI.preV hm_5 rfl) rfl rfl hl.1 rfl (lv_room (Nat.le_of_ble_eq_true rfl)) dX10_look_8 ⟨Nat.le_of_ble_eq_true rfl, Nat.le_of_ble_eq_true rfl⟩) (fun _ h => h) (fun r_7 hp_8 => ?_)
  rw [hp_8]
  refine lv_iconst (v := nI 1) hx hb dX10_look_11 (by decide) ?_
  refine k_Ri (va_runV (As := [.int (nI 0), .int (nI 1)]) (rest := []) ⟨hx, hb, hml, hown, hts⟩ (c_X10_throwsIf_0 l G z ad M_1 (th := 0) (ln := n) (on := on) (ao := ao) (vr := vr) (sn := sn) (tp := tp) (pt := pt) (zs := zs) (bg := bg) (fa := fa) (c0 := 1) hm_5) (cwV 2 hts (gV (lwg_of t_1141 rfl) (lwg_of t_1143 rfl) (lwg_of ts_23 rfl) (lwg_of t_13 rfl) (lwg_of t_1144 rfl)) rfl rfl rfl (by decide +kernel) ⟨Nat.le_of_ble_eq_true rfl, Nat.le_of_ble_eq_true rfl⟩) (hI.preV hm_5 rfl) rfl rfl hl.1 rfl (lv_room (Nat.le_of_ble_eq_true rfl)) dX10_look_12 ⟨Nat.le_of_ble_eq_true rfl, Nat.le_of_ble_eq_true rfl⟩) (fun _ h => h) (fun r_9 hp_10 => ?_)
  rw [hp_10]
  refine lv_if_eq (tgt := 20) hx hb dX10_look_15 (by decide) (fun c_11 => ?_) (fun c_11 => ?_)
  · -- 15: nI 0 eq
    refine lv_iload_n hx hb dX10_look_20 rfl (lv_at hl 2 rfl) ?_
    refine lv_tableOut (tgt := 126) hx hb dX10_look_21 (hout) (by decide) ?_
    refine lv_aload_n hx hb dX10_look_126 rfl (lv_at hl 0 rfl) ?_
    refine lv_iconst (v := nI 2) hx hb dX10_look_127 (by decide) ?_
    refine h_put (C := RX10) (T := TX10) (N := 38) hx hb hts i_RX10 tyX10 tyX10_ok nmX10 hown hI hm_5 rfl 0 (by decide) f_3 rfl rfl rfl rfl (Nat.le_of_ble_eq_true rfl) dX10_look_128 (fun M_12 H_13 locs_14 eM_15 hI => ?_)
    have hm_16 : M_12 60 = some (cModel ad 2 n on ao vr sn tp pt zs bg fa) := by rw [eM_15]; exact va_up_self _ _ _
    have hF_17 : ∀ j : Nat, j ≠ 60 → M_12 j = M j := fun j q0 => by rw [eM_15, va_up_ne _ _ q0]; exact hF_6 j q0
    refine lv_iconst (v := nI 0) hx hb dX10_look_131 (by decide) ?_
    exact e_Ni hx hb hr rfl hlocks hI ⟨rfl, hm_16, (fun j q0 => hF_17 j q0)⟩ dX10_look_132
  · -- 15: nI 0 ne
    exact absurd (by decide) c_11

/-- X10_fault -/
abbrev rm_c_X10_fault : Room := { frames := 0, cells := 0, slots := 0, locals := 0 }
set_option maxHeartbeats 4000000 in
set_option maxRecDepth 100000 in
theorem c_X10_fault (l : Launch) (G : GG) (z : Nat) (ad : Nat → Nat) (M : Mem) {th : Nat} {ln : Nat} {on : Nat} {ao : Nat} {vr : Nat} {sn : Nat} {tp : Nat} {pt : Nat} {zs : Nat} {bg : Nat} {fa : Int32} (h60 : M 60 = some (cModel ad th ln on ao vr sn tp pt zs bg fa))  : Met l yX10_fault wsX10_fault rm_c_X10_fault (Pr G z ad M [.ref (ad 60)]) (Ni G z ad (fun (r : Int32) (M' : Mem) => r = fa ∧ M' 60 = some (cModel ad 0 ln on ao vr sn tp pt zs bg fa) ∧ (∀ j : Nat, j ≠ 60 → M' j = M j))) 0 0 (fr z) := by
  refine Met.ofW (cc := cX10_fault) (maxL := 1) (ret := (some .int)) (by decide) rfl ?_
  intro p e s m args below meth c s₁ B hml hv
  obtain ⟨rfl, hv⟩ := hv
  have hI := Iv.entry hv
  have hx := B.exec
  have hb := B.bytes
  have hr := B.returns
  have hts := atoms_spec (ws := wsX10_fault) B.pre
  have hown : s.vm.findClass RX10 = some m.cls := findClass_of_methodNamed B.named
  have hlocks := B.notSynchronized
  have f_3 := hts _ (List.mem_cons_of_mem _ (lwg_of t_1013 rfl))
  have i_RX10 : ∀ w ∈ u_ws RX10 TX10 38, w ∈ wsX10_fault := fun w h => List.mem_cons_of_mem _ (iu_X10 w h)
  have f_76 := hts _ (List.mem_cons_of_mem _ (lwg_of t_1043 rfl))
  have hl := lv_entry ([.ref (ad 60)]) (n := 1) (Nat.le_of_ble_eq_true rfl)
  rw [lg_entry_eq]
  generalize (lg_sl ([.ref (ad 60)]) ++ List.replicate (1 - (lg_sl ([.ref (ad 60)])).length) Slot.unset).toArray = ls at hl ⊢
  have hl : lv_has ls 1 [(0, .ref (ad 60))] := hl
  refine lv_aload_n hx hb dX10_fault_0 rfl (lv_at hl 0 rfl) ?_
  refine lv_iconst (v := nI 0) hx hb dX10_fault_1 (by decide) ?_
  refine h_put (C := RX10) (T := TX10) (N := 38) hx hb hts i_RX10 tyX10 tyX10_ok nmX10 hown hI h60 rfl 0 (by decide) f_3 rfl rfl rfl rfl (Nat.le_of_ble_eq_true rfl) dX10_fault_2 (fun M_1 H_2 locs_3 eM_4 hI => ?_)
  have hm_5 : M_1 60 = some (cModel ad 0 ln on ao vr sn tp pt zs bg fa) := by rw [eM_4]; exact va_up_self _ _ _
  have hF_6 : ∀ j : Nat, j ≠ 60 → M_1 j = M j := fun j q0 => by rw [eM_4, va_up_ne _ _ q0]
  refine lv_aload_n hx hb dX10_fault_5 rfl (lv_at hl 0 rfl) ?_
  refine h_get (C := RX10) (T := TX10) (N := 38) hx hb hts i_RX10 hown hI hm_5 rfl 30 (by decide) f_76 rfl rfl dX10_fault_6 ?_
  exact e_Ni hx hb hr rfl hlocks hI ⟨rfl, hm_5, (fun j q0 => hF_6 j q0)⟩ dX10_fault_9

/-- X10_end -/
abbrev rm_c_X10_end : Room := { frames := 0, cells := 0, slots := 0, locals := 0 }
set_option maxHeartbeats 4000000 in
set_option maxRecDepth 100000 in
theorem c_X10_end (l : Launch) (G : GG) (z : Nat) (ad : Nat → Nat) (M : Mem) {th : Nat} {ln : Nat} {on : Nat} {ao : Nat} {vr : Nat} {sn : Nat} {tp : Nat} {pt : Nat} {zs : Nat} {bg : Nat} {fa : Int32} {x : Int32} (h60 : M 60 = some (cModel ad th ln on ao vr sn tp pt zs bg fa)) (htp : tp ≤ 400) : Met l yX10_end wsX10_end rm_c_X10_end (Pr G z ad M [.ref (ad 60), .int x]) (Ni G z ad (fun (r : Int32) (M' : Mem) => r = bI (decide (¬ x < nI 0 ∧ x ≤ nI tp)) ∧ M' 60 = some (cModel ad 0 ln on ao vr sn (if ¬ x < nI 0 ∧ x ≤ nI tp then x.toNatClampNeg else tp) pt zs bg fa) ∧ (∀ j : Nat, j ≠ 60 → M' j = M j))) 0 0 (fr z) := by
  refine Met.ofW (cc := cX10_end) (maxL := 2) (ret := (some .boolean)) (by decide) rfl ?_
  intro p e s m args below meth c s₁ B hml hv
  obtain ⟨rfl, hv⟩ := hv
  have hI := Iv.entry hv
  have hx := B.exec
  have hb := B.bytes
  have hr := B.returns
  have hts := atoms_spec (ws := wsX10_end) B.pre
  have hown : s.vm.findClass RX10 = some m.cls := findClass_of_methodNamed B.named
  have hlocks := B.notSynchronized
  have f_3 := hts _ (List.mem_cons_of_mem _ (lwg_of t_1013 rfl))
  have i_RX10 : ∀ w ∈ u_ws RX10 TX10 38, w ∈ wsX10_end := fun w h => List.mem_cons_of_mem _ (iu_X10 w h)
  have f_158 := hts _ (List.mem_cons_of_mem _ (lwg_of t_1039 rfl))
  have hl := lv_entry ([.ref (ad 60), .int x]) (n := 2) (Nat.le_of_ble_eq_true rfl)
  rw [lg_entry_eq]
  generalize (lg_sl ([.ref (ad 60), .int x]) ++ List.replicate (2 - (lg_sl ([.ref (ad 60), .int x])).length) Slot.unset).toArray = ls at hl ⊢
  have hl : lv_has ls 2 [(0, .ref (ad 60)), (1, .int x)] := hl
  refine lv_aload_n hx hb dX10_end_0 rfl (lv_at hl 0 rfl) ?_
  refine lv_iconst (v := nI 0) hx hb dX10_end_1 (by decide) ?_
  refine h_put (C := RX10) (T := TX10) (N := 38) hx hb hts i_RX10 tyX10 tyX10_ok nmX10 hown hI h60 rfl 0 (by decide) f_3 rfl rfl rfl rfl (Nat.le_of_ble_eq_true rfl) dX10_end_2 (fun M_1 H_2 locs_3 eM_4 hI => ?_)
  have hm_5 : M_1 60 = some (cModel ad 0 ln on ao vr sn tp pt zs bg fa) := by rw [eM_4]; exact va_up_self _ _ _
  have hF_6 : ∀ j : Nat, j ≠ 60 → M_1 j = M j := fun j q0 => by rw [eM_4, va_up_ne _ _ q0]
  refine lv_iload_n hx hb dX10_end_5 rfl (lv_at hl 1 rfl) ?_
  refine lv_if_lt (tgt := 17) hx hb dX10_end_6 (by decide) (fun c_7 => ?_) (fun c_7 => ?_)
  · -- 6: x lt
    refine lv_iconst (v := nI 0) hx hb dX10_end_17 (by decide) ?_
    exact e_Ni hx hb hr rfl hlocks hI ⟨dec_f (fun h => by first | exact absurd (by assumption) h.1 | exact absurd h.2 (by assumption)), (by rw [if_neg (fun h => by first | exact absurd (by assumption) h.1 | exact absurd h.2 (by assumption))]; exact hm_5), (fun j q0 => hF_6 j q0)⟩ dX10_end_18
  · -- 6: x ge
    refine lv_iload_n hx hb dX10_end_9 rfl (lv_at hl 1 rfl) ?_
    refine lv_aload_n hx hb dX10_end_10 rfl (lv_at hl 0 rfl) ?_
    refine h_get (C := RX10) (T := TX10) (N := 38) hx hb hts i_RX10 hown hI hm_5 rfl 26 (by decide) f_158 rfl rfl dX10_end_11 ?_
    refine lv_icmp_le (tgt := 19) hx hb dX10_end_14 (by decide) (fun c_8 => ?_) (fun c_8 => ?_)
    · -- 14: x le
      obtain ⟨j, hj, hxj⟩ := nI_of (x := x) (by assumption)
      have hxc : x.toNatClampNeg = j := by rw [hxj]; exact nI_clamp hj
      refine lv_aload_n hx hb dX10_end_19 rfl (lv_at hl 0 rfl) ?_
      refine lv_iload_n hx hb dX10_end_20 rfl (lv_at hl 1 rfl) ?_
      refine n_eq (show _ = nI j from hxj) ?_
      refine h_put (C := RX10) (T := TX10) (N := 38) hx hb hts i_RX10 tyX10 tyX10_ok nmX10 hown hI hm_5 rfl 26 (by decide) f_158 rfl rfl rfl rfl (Nat.le_of_ble_eq_true rfl) dX10_end_21 (fun M_9 H_10 locs_11 eM_12 hI => ?_)
      have hm_13 : M_9 60 = some (cModel ad 0 ln on ao vr sn j pt zs bg fa) := by rw [eM_12]; exact va_up_self _ _ _
      have hF_14 : ∀ j : Nat, j ≠ 60 → M_9 j = M j := fun j q0 => by rw [eM_12, va_up_ne _ _ q0]; exact hF_6 j q0
      refine lv_iconst (v := nI 1) hx hb dX10_end_24 (by decide) ?_
      exact e_Ni hx hb hr rfl hlocks hI ⟨dec_t ⟨by assumption, by assumption⟩, (by rw [if_pos ⟨by assumption, by assumption⟩, hxc]; exact hm_13), (fun j q0 => hF_14 j q0)⟩ dX10_end_25
    · -- 14: x gt
      refine lv_iconst (v := nI 0) hx hb dX10_end_17 (by decide) ?_
      exact e_Ni hx hb hr rfl hlocks hI ⟨dec_f (fun h => by first | exact absurd (by assumption) h.1 | exact absurd h.2 (by assumption)), (by rw [if_neg (fun h => by first | exact absurd (by assumption) h.1 | exact absurd h.2 (by assumption))]; exact hm_5), (fun j q0 => hF_6 j q0)⟩ dX10_end_18

/-- X10_count -/
abbrev rm_c_X10_count_0 : Room := { frames := 0, cells := 0, slots := 0, locals := 0 }
set_option maxHeartbeats 4000000 in
set_option maxRecDepth 100000 in
theorem c_X10_count_0 (l : Launch) (G : GG) (z : Nat) (ad : Nat → Nat) (M : Mem) {th : Nat} {ln : Nat} {on : Nat} {ao : Nat} {vr : Nat} {sn : Nat} {tp : Nat} {pt : Nat} {zs : Nat} {bg : Nat} {fa : Int32} (h60 : M 60 = some (cModel ad th ln on ao vr sn tp pt zs bg fa))  : Met l yX10_count wsX10_count rm_c_X10_count_0 (Pr G z ad M [.ref (ad 60), .int (nI 0)]) (Ni G z ad (fun (r : Int32) (M' : Mem) => r = nI ln ∧ M' 60 = some (cModel ad 0 ln on ao vr sn tp pt zs bg fa) ∧ (∀ j : Nat, j ≠ 60 → M' j = M j))) 0 0 (fr z) := by
  refine Met.ofW (cc := cX10_count) (maxL := 4) (ret := (some .int)) (by decide) rfl ?_
  intro p e s m args below meth c s₁ B hml hv
  obtain ⟨rfl, hv⟩ := hv
  have hI := Iv.entry hv
  have hx := B.exec
  have hb := B.bytes
  have hr := B.returns
  have hts := atoms_spec (ws := wsX10_count) B.pre
  have hown : s.vm.findClass RX10 = some m.cls := findClass_of_methodNamed B.named
  have hlocks := B.notSynchronized
  have f_3 := hts _ (List.mem_cons_of_mem _ (lwg_of t_1013 rfl))
  have i_RX10 : ∀ w ∈ u_ws RX10 TX10 38, w ∈ wsX10_count := fun w h => List.mem_cons_of_mem _ (iu_X10 w h)
  have f_108 := hts _ (List.mem_cons_of_mem _ (lwg_of t_1024 rfl))
  have hl := lv_entry ([.ref (ad 60), .int (nI 0)]) (n := 4) (Nat.le_of_ble_eq_true rfl)
  rw [lg_entry_eq]
  generalize (lg_sl ([.ref (ad 60), .int (nI 0)]) ++ List.replicate (4 - (lg_sl ([.ref (ad 60), .int (nI 0)])).length) Slot.unset).toArray = ls at hl ⊢
  have hl : lv_has ls 4 [(0, .ref (ad 60)), (1, .int (nI 0))] := hl
  refine lv_aload_n hx hb dX10_count_0 rfl (lv_at hl 0 rfl) ?_
  refine lv_iconst (v := nI 0) hx hb dX10_count_1 (by decide) ?_
  refine h_put (C := RX10) (T := TX10) (N := 38) hx hb hts i_RX10 tyX10 tyX10_ok nmX10 hown hI h60 rfl 0 (by decide) f_3 rfl rfl rfl rfl (Nat.le_of_ble_eq_true rfl) dX10_count_2 (fun M_1 H_2 locs_3 eM_4 hI => ?_)
  have hm_5 : M_1 60 = some (cModel ad 0 ln on ao vr sn tp pt zs bg fa) := by rw [eM_4]; exact va_up_self _ _ _
  have hF_6 : ∀ j : Nat, j ≠ 60 → M_1 j = M j := fun j q0 => by rw [eM_4, va_up_ne _ _ q0]
  refine lv_iconst (v := nI 0) hx hb dX10_count_5 (by decide) ?_
  refine lv_istore_n (lv' := [(2, .int (nI 0)), (0, .ref (ad 60)), (1, .int (nI 0))]) hx hb dX10_count_6 rfl hl (by decide) rfl (fun ls hl => ?_)
  refine lv_iload_n hx hb dX10_count_7 rfl (lv_at hl 2 rfl) ?_
  refine lv_tableIn (off := 40) (tgt := 48) hx hb dX10_count_8 (by decide) (by decide) (by decide) (by decide) ?_
  refine lv_aload_n hx hb dX10_count_48 rfl (lv_at hl 1 rfl) ?_
  refine h_get (C := RX10) (T := TX10) (N := 38) hx hb hts i_RX10 hown hI hm_5 rfl 11 (by decide) f_108 rfl rfl dX10_count_49 ?_
  exact e_Ni hx hb hr rfl hlocks hI ⟨rfl, hm_5, (fun j q0 => hF_6 j q0)⟩ dX10_count_52

/-- X10_count -/
abbrev rm_c_X10_count_1 : Room := { frames := 0, cells := 0, slots := 0, locals := 0 }
set_option maxHeartbeats 4000000 in
set_option maxRecDepth 100000 in
theorem c_X10_count_1 (l : Launch) (G : GG) (z : Nat) (ad : Nat → Nat) (M : Mem) {th : Nat} {ln : Nat} {on : Nat} {ao : Nat} {vr : Nat} {sn : Nat} {tp : Nat} {pt : Nat} {zs : Nat} {bg : Nat} {fa : Int32} {mz : Nat → Nat} (h60 : M 60 = some (cModel ad th ln on ao vr sn tp pt zs bg fa)) (h68 : M 68 = some (aI G 121 (nF mz)))  : Met l yX10_count wsX10_count rm_c_X10_count_1 (Pr G z ad M [.ref (ad 60), .int (nI 1)]) (Ni G z ad (fun (r : Int32) (M' : Mem) => r = nI (mz 120) ∧ M' 60 = some (cModel ad 0 ln on ao vr sn tp pt zs bg fa) ∧ (∀ j : Nat, j ≠ 60 → M' j = M j))) 0 0 (fr z) := by
  refine Met.ofW (cc := cX10_count) (maxL := 4) (ret := (some .int)) (by decide) rfl ?_
  intro p e s m args below meth c s₁ B hml hv
  obtain ⟨rfl, hv⟩ := hv
  have hI := Iv.entry hv
  have hx := B.exec
  have hb := B.bytes
  have hr := B.returns
  have hts := atoms_spec (ws := wsX10_count) B.pre
  have hown : s.vm.findClass RX10 = some m.cls := findClass_of_methodNamed B.named
  have hlocks := B.notSynchronized
  have f_3 := hts _ (List.mem_cons_of_mem _ (lwg_of t_1013 rfl))
  have i_RX10 : ∀ w ∈ u_ws RX10 TX10 38, w ∈ wsX10_count := fun w h => List.mem_cons_of_mem _ (iu_X10 w h)
  have f_36 := hts _ (List.mem_cons_of_mem _ (lwg_of t_1021 rfl))
  have hl := lv_entry ([.ref (ad 60), .int (nI 1)]) (n := 4) (Nat.le_of_ble_eq_true rfl)
  rw [lg_entry_eq]
  generalize (lg_sl ([.ref (ad 60), .int (nI 1)]) ++ List.replicate (4 - (lg_sl ([.ref (ad 60), .int (nI 1)])).length) Slot.unset).toArray = ls at hl ⊢
  have hl : lv_has ls 4 [(0, .ref (ad 60)), (1, .int (nI 1))] := hl
  refine lv_aload_n hx hb dX10_count_0 rfl (lv_at hl 0 rfl) ?_
  refine lv_iconst (v := nI 0) hx hb dX10_count_1 (by decide) ?_
  refine h_put (C := RX10) (T := TX10) (N := 38) hx hb hts i_RX10 tyX10 tyX10_ok nmX10 hown hI h60 rfl 0 (by decide) f_3 rfl rfl rfl rfl (Nat.le_of_ble_eq_true rfl) dX10_count_2 (fun M_1 H_2 locs_3 eM_4 hI => ?_)
  have hm_5 : M_1 60 = some (cModel ad 0 ln on ao vr sn tp pt zs bg fa) := by rw [eM_4]; exact va_up_self _ _ _
  have hm_6 : M_1 68 = some (aI G 121 (nF mz)) := by rw [eM_4, va_up_ne _ _ (by decide)]; exact h68
  have hF_7 : ∀ j : Nat, j ≠ 60 → M_1 j = M j := fun j q0 => by rw [eM_4, va_up_ne _ _ q0]
  refine lv_iconst (v := nI 0) hx hb dX10_count_5 (by decide) ?_
  refine lv_istore_n (lv' := [(2, .int (nI 0)), (0, .ref (ad 60)), (1, .int (nI 1))]) hx hb dX10_count_6 rfl hl (by decide) rfl (fun ls hl => ?_)
  refine lv_iload_n hx hb dX10_count_7 rfl (lv_at hl 2 rfl) ?_
  refine lv_tableIn (off := 45) (tgt := 53) hx hb dX10_count_8 (by decide) (by decide) (by decide) (by decide) ?_
  refine lv_aload_n hx hb dX10_count_53 rfl (lv_at hl 1 rfl) ?_
  refine h_get (C := RX10) (T := TX10) (N := 38) hx hb hts i_RX10 hown hI hm_5 rfl 8 (by decide) f_36 rfl rfl dX10_count_54 ?_
  refine lv_bipush (v := nI 120) hx hb dX10_count_57 (by decide) ?_
  refine h_iald (i := 120) hx hb hI hm_6 (by omega) (by decide) dX10_count_59 ?_
  exact e_Ni hx hb hr rfl hlocks hI ⟨rfl, hm_5, (fun j q0 => hF_7 j q0)⟩ dX10_count_60

/-- X10_count -/
abbrev rm_c_X10_count_2 : Room := { frames := 0, cells := 0, slots := 0, locals := 0 }
set_option maxHeartbeats 4000000 in
set_option maxRecDepth 100000 in
theorem c_X10_count_2 (l : Launch) (G : GG) (z : Nat) (ad : Nat → Nat) (M : Mem) {th : Nat} {ln : Nat} {on : Nat} {ao : Nat} {vr : Nat} {sn : Nat} {tp : Nat} {pt : Nat} {zs : Nat} {bg : Nat} {fa : Int32} (h60 : M 60 = some (cModel ad th ln on ao vr sn tp pt zs bg fa))  : Met l yX10_count wsX10_count rm_c_X10_count_2 (Pr G z ad M [.ref (ad 60), .int (nI 2)]) (Ni G z ad (fun (r : Int32) (M' : Mem) => r = nI on ∧ M' 60 = some (cModel ad 0 ln on ao vr sn tp pt zs bg fa) ∧ (∀ j : Nat, j ≠ 60 → M' j = M j))) 0 0 (fr z) := by
  refine Met.ofW (cc := cX10_count) (maxL := 4) (ret := (some .int)) (by decide) rfl ?_
  intro p e s m args below meth c s₁ B hml hv
  obtain ⟨rfl, hv⟩ := hv
  have hI := Iv.entry hv
  have hx := B.exec
  have hb := B.bytes
  have hr := B.returns
  have hts := atoms_spec (ws := wsX10_count) B.pre
  have hown : s.vm.findClass RX10 = some m.cls := findClass_of_methodNamed B.named
  have hlocks := B.notSynchronized
  have f_3 := hts _ (List.mem_cons_of_mem _ (lwg_of t_1013 rfl))
  have i_RX10 : ∀ w ∈ u_ws RX10 TX10 38, w ∈ wsX10_count := fun w h => List.mem_cons_of_mem _ (iu_X10 w h)
  have f_152 := hts _ (List.mem_cons_of_mem _ (lwg_of t_1028 rfl))
  have hl := lv_entry ([.ref (ad 60), .int (nI 2)]) (n := 4) (Nat.le_of_ble_eq_true rfl)
  rw [lg_entry_eq]
  generalize (lg_sl ([.ref (ad 60), .int (nI 2)]) ++ List.replicate (4 - (lg_sl ([.ref (ad 60), .int (nI 2)])).length) Slot.unset).toArray = ls at hl ⊢
  have hl : lv_has ls 4 [(0, .ref (ad 60)), (1, .int (nI 2))] := hl
  refine lv_aload_n hx hb dX10_count_0 rfl (lv_at hl 0 rfl) ?_
  refine lv_iconst (v := nI 0) hx hb dX10_count_1 (by decide) ?_
  refine h_put (C := RX10) (T := TX10) (N := 38) hx hb hts i_RX10 tyX10 tyX10_ok nmX10 hown hI h60 rfl 0 (by decide) f_3 rfl rfl rfl rfl (Nat.le_of_ble_eq_true rfl) dX10_count_2 (fun M_1 H_2 locs_3 eM_4 hI => ?_)
  have hm_5 : M_1 60 = some (cModel ad 0 ln on ao vr sn tp pt zs bg fa) := by rw [eM_4]; exact va_up_self _ _ _
  have hF_6 : ∀ j : Nat, j ≠ 60 → M_1 j = M j := fun j q0 => by rw [eM_4, va_up_ne _ _ q0]
  refine lv_iconst (v := nI 0) hx hb dX10_count_5 (by decide) ?_
  refine lv_istore_n (lv' := [(2, .int (nI 0)), (0, .ref (ad 60)), (1, .int (nI 2))]) hx hb dX10_count_6 rfl hl (by decide) rfl (fun ls hl => ?_)
  refine lv_iload_n hx hb dX10_count_7 rfl (lv_at hl 2 rfl) ?_
  refine lv_tableIn (off := 53) (tgt := 61) hx hb dX10_count_8 (by decide) (by decide) (by decide) (by decide) ?_
  refine lv_aload_n hx hb dX10_count_61 rfl (lv_at hl 1 rfl) ?_
  refine h_get (C := RX10) (T := TX10) (N := 38) hx hb hts i_RX10 hown hI hm_5 rfl 15 (by decide) f_152 rfl rfl dX10_count_62 ?_
  exact e_Ni hx hb hr rfl hlocks hI ⟨rfl, hm_5, (fun j q0 => hF_6 j q0)⟩ dX10_count_65

/-- X10_count -/
abbrev rm_c_X10_count_3 : Room := { frames := 0, cells := 0, slots := 0, locals := 0 }
set_option maxHeartbeats 4000000 in
set_option maxRecDepth 100000 in
theorem c_X10_count_3 (l : Launch) (G : GG) (z : Nat) (ad : Nat → Nat) (M : Mem) {th : Nat} {ln : Nat} {on : Nat} {ao : Nat} {vr : Nat} {sn : Nat} {tp : Nat} {pt : Nat} {zs : Nat} {bg : Nat} {fa : Int32} {lst : Nat → Nat} (h60 : M 60 = some (cModel ad th ln on ao vr sn tp pt zs bg fa)) (h71 : M 71 = some (aI G 40 (nF lst))) (hlst : ∀ u, u < 40 → lst u < 40) : Met l yX10_count wsX10_count rm_c_X10_count_3 (Pr G z ad M [.ref (ad 60), .int (nI 3)]) (Ni G z ad (fun (r : Int32) (M' : Mem) => r = nI (cntB (fun t => decide (lst t = t)) 40) ∧ M' 60 = some (cModel ad 0 ln on ao vr sn tp pt zs bg fa) ∧ (∀ j : Nat, j ≠ 60 → M' j = M j))) 0 0 (fr z) := by
  refine Met.ofW (cc := cX10_count) (maxL := 4) (ret := (some .int)) (by decide) rfl ?_
  intro p e s m args below meth c s₁ B hml hv
  obtain ⟨rfl, hv⟩ := hv
  have hI := Iv.entry hv
  have hx := B.exec
  have hb := B.bytes
  have hr := B.returns
  have hts := atoms_spec (ws := wsX10_count) B.pre
  have hown : s.vm.findClass RX10 = some m.cls := findClass_of_methodNamed B.named
  have hlocks := B.notSynchronized
  have f_3 := hts _ (List.mem_cons_of_mem _ (lwg_of t_1013 rfl))
  have i_RX10 : ∀ w ∈ u_ws RX10 TX10 38, w ∈ wsX10_count := fun w h => List.mem_cons_of_mem _ (iu_X10 w h)
  have f_45 := hts _ (List.mem_cons_of_mem _ (lwg_of t_1025 rfl))
  have hl := lv_entry ([.ref (ad 60), .int (nI 3)]) (n := 4) (Nat.le_of_ble_eq_true rfl)
  rw [lg_entry_eq]
  generalize (lg_sl ([.ref (ad 60), .int (nI 3)]) ++ List.replicate (4 - (lg_sl ([.ref (ad 60), .int (nI 3)])).length) Slot.unset).toArray = ls at hl ⊢
  have hl : lv_has ls 4 [(0, .ref (ad 60)), (1, .int (nI 3))] := hl
  refine w_q (fun Q hQ => ?_)
  refine lv_aload_n hx hb dX10_count_0 rfl (lv_at hl 0 rfl) ?_
  refine lv_iconst (v := nI 0) hx hb dX10_count_1 (by decide) ?_
  refine h_put (C := RX10) (T := TX10) (N := 38) hx hb hts i_RX10 tyX10 tyX10_ok nmX10 hown hI h60 rfl 0 (by decide) f_3 rfl rfl rfl rfl (Nat.le_of_ble_eq_true rfl) dX10_count_2 (fun M_1 H_2 locs_3 eM_4 hI => ?_)
  have hm_5 : M_1 60 = some (cModel ad 0 ln on ao vr sn tp pt zs bg fa) := by rw [eM_4]; exact va_up_self _ _ _
  have hm_6 : M_1 71 = some (aI G 40 (nF lst)) := by rw [eM_4, va_up_ne _ _ (by decide)]; exact h71
  have hF_7 : ∀ j : Nat, j ≠ 60 → M_1 j = M j := fun j q0 => by rw [eM_4, va_up_ne _ _ q0]
  refine lv_iconst (v := nI 0) hx hb dX10_count_5 (by decide) ?_
  refine lv_istore_n (lv' := [(2, .int (nI 0)), (0, .ref (ad 60)), (1, .int (nI 3))]) hx hb dX10_count_6 rfl hl (by decide) rfl (fun ls hl => ?_)
  refine lv_iload_n hx hb dX10_count_7 rfl (lv_at hl 2 rfl) ?_
  refine lv_tableIn (off := 58) (tgt := 66) hx hb dX10_count_8 (by decide) (by decide) (by decide) (by decide) ?_
  refine lv_iconst (v := nI 0) hx hb dX10_count_66 (by decide) ?_
  refine lv_istore_n (lv' := [(3, .int (nI 0)), (2, .int (nI 0)), (0, .ref (ad 60)), (1, .int (nI 3))]) hx hb dX10_count_67 rfl hl (by decide) rfl (fun ls hl => ?_)
  have lp68_8 : ∀ (fuel : Nat) (i : Nat) (cn : Nat) (Mx : Mem) (Hx : Heap) (locsx : List Loc) (ls : Array Slot), (40 - i) < fuel → (i ≤ 40) → (cn = cntB (fun t => decide (lst t = t)) i) → Iv G z ad Mx s Hx locsx → Mx 60 = some (cModel ad 0 ln on ao vr sn tp pt zs bg fa) → (∀ j : Nat, j ≠ 60 → Mx j = M j) → lv_has ls 4 [(0, .ref (ad 60)), (2, .int (nI cn)), (3, .int (nI i))] → W p l e (headSpec wsX10_count rm_c_X10_count_3).room s m ([.ref (ad 60), .int (nI 3)] : List Value).toArray below meth c Hx locsx 0 0 Q (F0 m 68 ls []) := by
    intro fuel
    induction fuel with
    | zero => intro i cn Mx Hx locsx ls hfu hi hcn hI hm_9 hF_11 hl; exact absurd hfu (Nat.not_lt_zero _)
    | succ fuel ih_12 =>
      intro i cn Mx Hx locsx ls hfu hi hcn hI hm_9 hF_11 hl
      have hm_13 : Mx 71 = some (aI G 40 (nF lst)) := by rw [hF_11 71 (by omega)]; exact h71
      refine lv_iload_n hx hb dX10_count_68 rfl (lv_at hl 2 rfl) ?_
      refine lv_bipush (v := nI 40) hx hb dX10_count_69 (by decide) ?_
      refine lv_icmp_ge (tgt := 98) hx hb dX10_count_71 (by decide) (fun c_14 => ?_) (fun c_14 => ?_)
      · -- 71: nI i ge
        have c_14 : 40 ≤ i := (nI_leI (a := 40) (b := i) (by omega) (by omega)).mp (c_14)
        refine lv_iload_n hx hb dX10_count_98 rfl (lv_at hl 1 rfl) ?_
        subst hQ
        exact e_Ni hx hb hr rfl hlocks hI ⟨(by rw [hcn, show i = 40 by omega]), hm_9, (fun j q0 => hF_11 j q0)⟩ dX10_count_99
      · -- 71: nI i lt
        have c_14 : i < 40 := by have h := mt (nI_leI (a := 40) (b := i) (by omega) (by omega)).mpr c_14; omega
        have hli := hlst i (by omega)
        refine lv_iload_n hx hb dX10_count_74 rfl (lv_at hl 1 rfl) ?_
        refine lv_aload_n hx hb dX10_count_75 rfl (lv_at hl 0 rfl) ?_
        refine h_get (C := RX10) (T := TX10) (N := 38) hx hb hts i_RX10 hown hI hm_9 rfl 12 (by decide) f_45 rfl rfl dX10_count_76 ?_
        refine lv_iload_n hx hb dX10_count_79 rfl (lv_at hl 2 rfl) ?_
        refine h_iald (i := i) hx hb hI hm_13 (by omega) (by decide) dX10_count_80 ?_
        refine lv_iload_n hx hb dX10_count_81 rfl (lv_at hl 2 rfl) ?_
        refine lv_icmp_ne (tgt := 89) hx hb dX10_count_82 (by decide) (fun c_15 => ?_) (fun c_15 => ?_)
        · -- 82: nI (lst i) ne
          have c_15 : lst i ≠ i := by have h := mt (nI_eq (a := lst i) (b := i) (by omega) (by omega)).mpr c_15; omega
          refine lv_iconst (v := nI 0) hx hb dX10_count_89 (by decide) ?_
          refine lv_iadd hx hb dX10_count_90 ?_
          refine n_eq (nI_add cn 0) ?_
          refine lv_istore_n (lv' := [(2, .int (nI (cn + 0))), (0, .ref (ad 60)), (3, .int (nI i))]) hx hb dX10_count_91 rfl hl (by decide) rfl (fun ls hl => ?_)
          refine lv_iinc (v := nI (i + 1)) (lv' := [(3, .int (nI (i + 1))), (2, .int (nI (cn + 0))), (0, .ref (ad 60))]) hx hb dX10_count_92 hl (k := 2) rfl (nI_add i 1) (by decide) rfl (fun ls hl => ?_)
          refine lv_goto (tgt := 68) hx hb dX10_count_95 (by decide) ?_
          exact ih_12 (i + 1) (cn + 0) Mx Hx locsx ls (by omega) (by omega) (by rw [cntB_f (decide_eq_false (by assumption)), hcn]; rfl) hI hm_9 (fun j q0 => hF_11 j q0) (lv_sub hl [2, 1, 0] rfl)
        · -- 82: nI (lst i) eq
          have c_15 : lst i = i := (nI_eq (a := lst i) (b := i) (by omega) (by omega)).mp (c_15)
          refine lv_iconst (v := nI 1) hx hb dX10_count_85 (by decide) ?_
          refine lv_goto (tgt := 90) hx hb dX10_count_86 (by decide) ?_
          refine lv_iadd hx hb dX10_count_90 ?_
          refine n_eq (nI_add cn 1) ?_
          refine lv_istore_n (lv' := [(2, .int (nI (cn + 1))), (0, .ref (ad 60)), (3, .int (nI i))]) hx hb dX10_count_91 rfl hl (by decide) rfl (fun ls hl => ?_)
          refine lv_iinc (v := nI (i + 1)) (lv' := [(3, .int (nI (i + 1))), (2, .int (nI (cn + 1))), (0, .ref (ad 60))]) hx hb dX10_count_92 hl (k := 2) rfl (nI_add i 1) (by decide) rfl (fun ls hl => ?_)
          refine lv_goto (tgt := 68) hx hb dX10_count_95 (by decide) ?_
          exact ih_12 (i + 1) (cn + 1) Mx Hx locsx ls (by omega) (by omega) (by rw [cntB_t (decide_eq_true (by assumption)), hcn]) hI hm_9 (fun j q0 => hF_11 j q0) (lv_sub hl [2, 1, 0] rfl)
  exact lp68_8 ((40 - 0) + 1) 0 0 M_1 H_2 locs_3 ls (Nat.lt_succ_self _) (by omega) (rfl) hI hm_5 (fun j q0 => hF_7 j q0) (lv_sub hl [2, 1, 0] rfl)

/-- X10_count -/
abbrev rm_c_X10_count_4 : Room := { frames := 0, cells := 0, slots := 0, locals := 0 }
set_option maxHeartbeats 4000000 in
set_option maxRecDepth 100000 in
theorem c_X10_count_4 (l : Launch) (G : GG) (z : Nat) (ad : Nat → Nat) (M : Mem) {th : Nat} {ln : Nat} {on : Nat} {ao : Nat} {vr : Nat} {sn : Nat} {tp : Nat} {pt : Nat} {zs : Nat} {bg : Nat} {fa : Int32} (h60 : M 60 = some (cModel ad th ln on ao vr sn tp pt zs bg fa))  : Met l yX10_count wsX10_count rm_c_X10_count_4 (Pr G z ad M [.ref (ad 60), .int (nI 4)]) (Ni G z ad (fun (r : Int32) (M' : Mem) => r = nI ao ∧ M' 60 = some (cModel ad 0 ln on ao vr sn tp pt zs bg fa) ∧ (∀ j : Nat, j ≠ 60 → M' j = M j))) 0 0 (fr z) := by
  refine Met.ofW (cc := cX10_count) (maxL := 4) (ret := (some .int)) (by decide) rfl ?_
  intro p e s m args below meth c s₁ B hml hv
  obtain ⟨rfl, hv⟩ := hv
  have hI := Iv.entry hv
  have hx := B.exec
  have hb := B.bytes
  have hr := B.returns
  have hts := atoms_spec (ws := wsX10_count) B.pre
  have hown : s.vm.findClass RX10 = some m.cls := findClass_of_methodNamed B.named
  have hlocks := B.notSynchronized
  have f_3 := hts _ (List.mem_cons_of_mem _ (lwg_of t_1013 rfl))
  have i_RX10 : ∀ w ∈ u_ws RX10 TX10 38, w ∈ wsX10_count := fun w h => List.mem_cons_of_mem _ (iu_X10 w h)
  have f_226 := hts _ (List.mem_cons_of_mem _ (lwg_of t_1035 rfl))
  have hl := lv_entry ([.ref (ad 60), .int (nI 4)]) (n := 4) (Nat.le_of_ble_eq_true rfl)
  rw [lg_entry_eq]
  generalize (lg_sl ([.ref (ad 60), .int (nI 4)]) ++ List.replicate (4 - (lg_sl ([.ref (ad 60), .int (nI 4)])).length) Slot.unset).toArray = ls at hl ⊢
  have hl : lv_has ls 4 [(0, .ref (ad 60)), (1, .int (nI 4))] := hl
  refine lv_aload_n hx hb dX10_count_0 rfl (lv_at hl 0 rfl) ?_
  refine lv_iconst (v := nI 0) hx hb dX10_count_1 (by decide) ?_
  refine h_put (C := RX10) (T := TX10) (N := 38) hx hb hts i_RX10 tyX10 tyX10_ok nmX10 hown hI h60 rfl 0 (by decide) f_3 rfl rfl rfl rfl (Nat.le_of_ble_eq_true rfl) dX10_count_2 (fun M_1 H_2 locs_3 eM_4 hI => ?_)
  have hm_5 : M_1 60 = some (cModel ad 0 ln on ao vr sn tp pt zs bg fa) := by rw [eM_4]; exact va_up_self _ _ _
  have hF_6 : ∀ j : Nat, j ≠ 60 → M_1 j = M j := fun j q0 => by rw [eM_4, va_up_ne _ _ q0]
  refine lv_iconst (v := nI 0) hx hb dX10_count_5 (by decide) ?_
  refine lv_istore_n (lv' := [(2, .int (nI 0)), (0, .ref (ad 60)), (1, .int (nI 4))]) hx hb dX10_count_6 rfl hl (by decide) rfl (fun ls hl => ?_)
  refine lv_iload_n hx hb dX10_count_7 rfl (lv_at hl 2 rfl) ?_
  refine lv_tableIn (off := 92) (tgt := 100) hx hb dX10_count_8 (by decide) (by decide) (by decide) (by decide) ?_
  refine lv_aload_n hx hb dX10_count_100 rfl (lv_at hl 1 rfl) ?_
  refine h_get (C := RX10) (T := TX10) (N := 38) hx hb hts i_RX10 hown hI hm_5 rfl 22 (by decide) f_226 rfl rfl dX10_count_101 ?_
  exact e_Ni hx hb hr rfl hlocks hI ⟨rfl, hm_5, (fun j q0 => hF_6 j q0)⟩ dX10_count_104

/-- X10_count -/
abbrev rm_c_X10_count_5 : Room := { frames := 1, cells := 0, slots := 0, locals := 20 }
set_option maxHeartbeats 4000000 in
set_option maxRecDepth 100000 in
theorem c_X10_count_5 (l : Launch) (G : GG) (z : Nat) (ad : Nat → Nat) (M : Mem) {th : Nat} {ln : Nat} {on : Nat} {ao : Nat} {vr : Nat} {sn : Nat} {tp : Nat} {pt : Nat} {zs : Nat} {bg : Nat} {fa : Int32} (h60 : M 60 = some (cModel ad th ln on ao vr sn tp pt zs bg fa)) (hvr : vr < 8) : Met l yX10_count wsX10_count rm_c_X10_count_5 (Pr G z ad M [.ref (ad 60), .int (nI 5)]) (Ni G z ad (fun (r : Int32) (M' : Mem) => r = nI (cnt3 vr) ∧ M' 60 = some (cModel ad 0 ln on ao vr sn tp pt zs bg fa) ∧ (∀ j : Nat, j ≠ 60 → M' j = M j))) 0 0 (fr z) := by
  refine Met.ofW (cc := cX10_count) (maxL := 4) (ret := (some .int)) (by decide) rfl ?_
  intro p e s m args below meth c s₁ B hml hv
  obtain ⟨rfl, hv⟩ := hv
  have hI := Iv.entry hv
  have hx := B.exec
  have hb := B.bytes
  have hr := B.returns
  have hts := atoms_spec (ws := wsX10_count) B.pre
  have hown : s.vm.findClass RX10 = some m.cls := findClass_of_methodNamed B.named
  have hlocks := B.notSynchronized
  have f_3 := hts _ (List.mem_cons_of_mem _ (lwg_of t_1013 rfl))
  have i_RX10 : ∀ w ∈ u_ws RX10 TX10 38, w ∈ wsX10_count := fun w h => List.mem_cons_of_mem _ (iu_X10 w h)
  have f_229 := hts _ (List.mem_cons_of_mem _ (lwg_of t_1036 rfl))
  have hl := lv_entry ([.ref (ad 60), .int (nI 5)]) (n := 4) (Nat.le_of_ble_eq_true rfl)
  rw [lg_entry_eq]
  generalize (lg_sl ([.ref (ad 60), .int (nI 5)]) ++ List.replicate (4 - (lg_sl ([.ref (ad 60), .int (nI 5)])).length) Slot.unset).toArray = ls at hl ⊢
  have hl : lv_has ls 4 [(0, .ref (ad 60)), (1, .int (nI 5))] := hl
  refine lv_aload_n hx hb dX10_count_0 rfl (lv_at hl 0 rfl) ?_
  refine lv_iconst (v := nI 0) hx hb dX10_count_1 (by decide) ?_
  refine h_put (C := RX10) (T := TX10) (N := 38) hx hb hts i_RX10 tyX10 tyX10_ok nmX10 hown hI h60 rfl 0 (by decide) f_3 rfl rfl rfl rfl (Nat.le_of_ble_eq_true rfl) dX10_count_2 (fun M_1 H_2 locs_3 eM_4 hI => ?_)
  have hm_5 : M_1 60 = some (cModel ad 0 ln on ao vr sn tp pt zs bg fa) := by rw [eM_4]; exact va_up_self _ _ _
  have hF_6 : ∀ j : Nat, j ≠ 60 → M_1 j = M j := fun j q0 => by rw [eM_4, va_up_ne _ _ q0]
  refine lv_iconst (v := nI 0) hx hb dX10_count_5 (by decide) ?_
  refine lv_istore_n (lv' := [(2, .int (nI 0)), (0, .ref (ad 60)), (1, .int (nI 5))]) hx hb dX10_count_6 rfl hl (by decide) rfl (fun ls hl => ?_)
  refine lv_iload_n hx hb dX10_count_7 rfl (lv_at hl 2 rfl) ?_
  refine lv_tableIn (off := 97) (tgt := 105) hx hb dX10_count_8 (by decide) (by decide) (by decide) (by decide) ?_
  refine lv_aload_n hx hb dX10_count_105 rfl (lv_at hl 1 rfl) ?_
  refine h_get (C := RX10) (T := TX10) (N := 38) hx hb hts i_RX10 hown hI hm_5 rfl 23 (by decide) f_229 rfl rfl dX10_count_106 ?_
  refine k_Ri (va_runS (As := [.int (nI vr)]) (rest := []) ⟨hx, hb, hml, hown, hts⟩ (c_J6_bitCount_0f7a4 l G z ad M_1 (u := vr) (by omega)) (va_cwS 1 hts (gS (lwg_of t_1370 rfl) (lwg_of t_463 rfl) (lwg_of t_32 rfl) (lwg_of t_464 rfl)) rfl rfl rfl (by decide +kernel) ⟨Nat.le_of_ble_eq_true rfl, Nat.le_of_ble_eq_true rfl⟩) hI.preS rfl rfl hl.1 rfl (lv_room (Nat.le_of_ble_eq_true rfl)) dX10_count_109 ⟨Nat.le_of_ble_eq_true rfl, Nat.le_of_ble_eq_true rfl⟩) (fun _ h => h) (fun r_7 hp_8 => ?_)
  rw [hp_8]
  exact e_Ni hx hb hr rfl hlocks hI ⟨rfl, hm_5, (fun j q0 => hF_6 j q0)⟩ dX10_count_112

/-- X10_count -/
abbrev rm_c_X10_count_x : Room := { frames := 0, cells := 0, slots := 0, locals := 0 }
set_option maxHeartbeats 4000000 in
set_option maxRecDepth 100000 in
theorem c_X10_count_x (l : Launch) (G : GG) (z : Nat) (ad : Nat → Nat) (M : Mem) {th : Nat} {ln : Nat} {on : Nat} {ao : Nat} {vr : Nat} {sn : Nat} {tp : Nat} {pt : Nat} {zs : Nat} {bg : Nat} {fa : Int32} {x : Int32} (h60 : M 60 = some (cModel ad th ln on ao vr sn tp pt zs bg fa)) (hout : x.toInt < 0 ∨ 5 < x.toInt) : Met l yX10_count wsX10_count rm_c_X10_count_x (Pr G z ad M [.ref (ad 60), .int x]) (Ni G z ad (fun (r : Int32) (M' : Mem) => r = (-1) ∧ M' 60 = some (cModel ad 0 ln on ao vr sn tp pt zs bg fa) ∧ (∀ j : Nat, j ≠ 60 → M' j = M j))) 0 0 (fr z) := by
  refine Met.ofW (cc := cX10_count) (maxL := 4) (ret := (some .int)) (by decide) rfl ?_
  intro p e s m args below meth c s₁ B hml hv
  obtain ⟨rfl, hv⟩ := hv
  have hI := Iv.entry hv
  have hx := B.exec
  have hb := B.bytes
  have hr := B.returns
  have hts := atoms_spec (ws := wsX10_count) B.pre
  have hown : s.vm.findClass RX10 = some m.cls := findClass_of_methodNamed B.named
  have hlocks := B.notSynchronized
  have f_3 := hts _ (List.mem_cons_of_mem _ (lwg_of t_1013 rfl))
  have i_RX10 : ∀ w ∈ u_ws RX10 TX10 38, w ∈ wsX10_count := fun w h => List.mem_cons_of_mem _ (iu_X10 w h)
  have hl := lv_entry ([.ref (ad 60), .int x]) (n := 4) (Nat.le_of_ble_eq_true rfl)
  rw [lg_entry_eq]
  generalize (lg_sl ([.ref (ad 60), .int x]) ++ List.replicate (4 - (lg_sl ([.ref (ad 60), .int x])).length) Slot.unset).toArray = ls at hl ⊢
  have hl : lv_has ls 4 [(0, .ref (ad 60)), (1, .int x)] := hl
  refine lv_aload_n hx hb dX10_count_0 rfl (lv_at hl 0 rfl) ?_
  refine lv_iconst (v := nI 0) hx hb dX10_count_1 (by decide) ?_
  refine h_put (C := RX10) (T := TX10) (N := 38) hx hb hts i_RX10 tyX10 tyX10_ok nmX10 hown hI h60 rfl 0 (by decide) f_3 rfl rfl rfl rfl (Nat.le_of_ble_eq_true rfl) dX10_count_2 (fun M_1 H_2 locs_3 eM_4 hI => ?_)
  have hm_5 : M_1 60 = some (cModel ad 0 ln on ao vr sn tp pt zs bg fa) := by rw [eM_4]; exact va_up_self _ _ _
  have hF_6 : ∀ j : Nat, j ≠ 60 → M_1 j = M j := fun j q0 => by rw [eM_4, va_up_ne _ _ q0]
  refine lv_iconst (v := nI 0) hx hb dX10_count_5 (by decide) ?_
  refine lv_istore_n (lv' := [(2, .int (nI 0)), (0, .ref (ad 60)), (1, .int x)]) hx hb dX10_count_6 rfl hl (by decide) rfl (fun ls hl => ?_)
  refine lv_iload_n hx hb dX10_count_7 rfl (lv_at hl 2 rfl) ?_
  refine lv_tableOut (tgt := 113) hx hb dX10_count_8 (hout) (by decide) ?_
  refine lv_iconst (v := (-1)) hx hb dX10_count_113 (by decide) ?_
  exact e_Ni hx hb hr rfl hlocks hI ⟨rfl, hm_5, (fun j q0 => hF_6 j q0)⟩ dX10_count_114
