theorem fo_v {fo : Nat → Int32} {a b c v : Nat} (hv : v < 3) (h0 : fo 0 = nI a) (h1 : fo 1 = nI b) (h2 : fo 2 = nI c) : fo v = nI (cmp3 a b c v) := by
  rcases (show v = 0 ∨ v = 1 ∨ v = 2 by omega) with rfl | rfl | rfl <;> assumption
theorem cmp3_lt {a b c v : Nat} (ha : a < 40) (hb : b < 40) (hc : c < 40) : cmp3 a b c v < 40 := by simp only [cmp3]; split <;> (try split) <;> assumption
theorem no_le {P : Nat → Bool} {N q : Nat} (hN : N < 2 ^ 31) (hq : q < 2 ^ 31) (h : ∀ k, k < N → P k = true → nI (cntB P k) ≠ nI q) : cntB P N ≤ q := by
  by_cases h1 : q < cntB P N
  · obtain ⟨k, a, b, c⟩ := cntB_hit h1
    exact absurd (congrArg nI c) (h k a b)
  · omega
theorem eq_q {P : Nat → Bool} {k q : Nat} (hk : k < 64000) (hq : q < 2 ^ 31) (h : nI (cntB P k) = nI q) : cntB P k = q := (nI_eq (by have := cntB_le P k; omega) hq).mp h

/-- X10_answers -/
abbrev rm_c_X10_answers_0 : Room := { frames := 1, cells := 0, slots := 0, locals := 26 }
set_option maxHeartbeats 4000000 in
set_option maxRecDepth 100000 in
theorem c_X10_answers_0 (l : Launch) (G : GG) (z : Nat) (ad : Nat → Nat) (M : Mem) {th : Nat} {ln : Nat} {on : Nat} {ao : Nat} {vr : Nat} {sn : Nat} {tp : Nat} {pt : Nat} {zs : Nat} {bg : Nat} {fa : Int32} {d : Int32} (h60 : M 60 = some (cModel ad th ln on ao vr sn tp pt zs bg fa)) (hao : ao = 0) : Met l yX10_answers wsX10_answers rm_c_X10_answers_0 (Pr G z ad M [.ref (ad 60), .int d]) (Ni G z ad (fun (r : Int32) (M' : Mem) => r = nI 0 ∧ M' 60 = some (cModel ad 0 ln on ao vr sn tp pt zs bg fa) ∧ (∀ j : Nat, j ≠ 60 → M' j = M j))) 0 0 (fr z) := by
  refine Met.ofW (cc := cX10_answers) (maxL := 2) (ret := (some .int)) (by decide) rfl ?_
  intro p e s m args below meth c s₁ B hml hv
  obtain ⟨rfl, hv⟩ := hv
  have hI := Iv.entry hv
  have hx := B.exec
  have hb := B.bytes
  have hr := B.returns
  have hts := atoms_spec (ws := wsX10_answers) B.pre
  have hown : s.vm.findClass RX10 = some m.cls := findClass_of_methodNamed B.named
  have hlocks := B.notSynchronized
  have f_3 := hts _ (List.mem_cons_of_mem _ (lwg_of t_1013 rfl))
  have i_RX10 : ∀ w ∈ u_ws RX10 TX10 38, w ∈ wsX10_answers := fun w h => List.mem_cons_of_mem _ (iu_X10 w h)
  have hl := lv_entry ([.ref (ad 60), .int d]) (n := 2) (Nat.le_of_ble_eq_true rfl)
  rw [lg_entry_eq]
  generalize (lg_sl ([.ref (ad 60), .int d]) ++ List.replicate (2 - (lg_sl ([.ref (ad 60), .int d])).length) Slot.unset).toArray = ls at hl ⊢
  have hl : lv_has ls 2 [(0, .ref (ad 60)), (1, .int d)] := hl
  refine lv_aload_n hx hb dX10_answers_0 rfl (lv_at hl 0 rfl) ?_
  refine lv_iconst (v := nI 0) hx hb dX10_answers_1 (by decide) ?_
  refine h_put (C := RX10) (T := TX10) (N := 38) hx hb hts i_RX10 tyX10 tyX10_ok nmX10 hown hI h60 rfl 0 (by decide) f_3 rfl rfl rfl rfl (Nat.le_of_ble_eq_true rfl) dX10_answers_2 (fun M_1 H_2 locs_3 eM_4 hI => ?_)
  have hm_5 : M_1 60 = some (cModel ad 0 ln on ao vr sn tp pt zs bg fa) := by rw [eM_4]; exact va_up_self _ _ _
  have hF_6 : ∀ j : Nat, j ≠ 60 → M_1 j = M j := fun j q0 => by rw [eM_4, va_up_ne _ _ q0]
  refine lv_aload_n hx hb dX10_answers_5 rfl (lv_at hl 0 rfl) ?_
  refine lv_iload_n hx hb dX10_answers_6 rfl (lv_at hl 1 rfl) ?_
  refine lv_iconst (v := (-1)) hx hb dX10_answers_7 (by decide) ?_
  refine k_Ri (va_runV (As := [.int d, .int (-1)]) (rest := []) ⟨hx, hb, hml, hown, hts⟩ (c_X10_goes_0 l G z ad M_1 (th := 0) (ln := ln) (on := on) (ao := ao) (vr := vr) (sn := sn) (tp := tp) (pt := pt) (zs := zs) (bg := bg) (fa := fa) (d := d) (w := (-1)) hm_5 (by omega)) (cwV 2 hts (gV (lwg_of t_1322 rfl) (lwg_of t_1324 rfl) (lwg_of ts_39 rfl) (lwg_of t_13 rfl) (lwg_of t_1325 rfl)) rfl rfl rfl (by decide +kernel) ⟨Nat.le_of_ble_eq_true rfl, Nat.le_of_ble_eq_true rfl⟩) (hI.preV hm_5 rfl) rfl rfl hl.1 rfl (lv_room (Nat.le_of_ble_eq_true rfl)) dX10_answers_8 ⟨Nat.le_of_ble_eq_true rfl, Nat.le_of_ble_eq_true rfl⟩) (fun _ h => h) (fun r_7 hp_8 => ?_)
  rw [hp_8]
  exact e_Ni hx hb hr rfl hlocks hI ⟨rfl, hm_5, (fun j q0 => hF_6 j q0)⟩ dX10_answers_11

/-- X10_answers -/
abbrev rm_c_X10_answers : Room := { frames := 8, cells := 0, slots := 0, locals := 219 }
set_option maxHeartbeats 4000000 in
set_option maxRecDepth 100000 in
theorem c_X10_answers (l : Launch) (G : GG) (z : Nat) (ad : Nat → Nat) (M : Mem) {th : Nat} {on : Nat} {ao : Nat} {vr : Nat} {sn : Nat} {tp : Nat} {pt : Nat} {zs : Nat} {bg : Nat} {fa : Int32} {n : Nat} {kd : Nat → Nat} {fm : Nat → Int32} {to : Nat → Int32} {sz : Nat → Nat} {rl : Nat → Nat → Nat} {en : Nat → Nat → Nat} {mk : Nat → Nat} {mf : Nat → Int32} {mu : Nat → Int32} {mz : Nat → Nat} {rr : Nat → Nat} {ee : Nat → Nat} {lst : Nat → Nat} {ak : Nat → Int32} {ap : Nat → Nat} {pr : Nat → Int32} {pf : Nat → Int32} {kn : Nat → Nat} {ro : Nat → Nat} {te : Nat → Nat} {tr : Nat → Bool} {gv : Nat → Option Nat} {nt : Nat → Bool} {fo : Nat → Int32} {d : Int32} (h60 : M 60 = some (cModel ad th n on ao vr sn tp pt zs bg fa)) (h65 : M 65 = some (aI G 120 (nF mk))) (h66 : M 66 = some (aI G 120 mf)) (h67 : M 67 = some (aI G 120 mu)) (h68 : M 68 = some (aI G 121 (nF mz))) (h69 : M 69 = some (aI G 726 (nF rr))) (h70 : M 70 = some (aI G 726 (nF ee))) (h71 : M 71 = some (aI G 40 (nF lst))) (h75 : M 75 = some (aI G 12 ak)) (h77 : M 77 = some (aI G 12 (nF ap))) (h78 : M 78 = some (aI G 48 pr)) (h79 : M 79 = some (aI G 48 pf)) (h82 : M 82 = some (aZ G 384000 (bF tr))) (h83 : M 83 = some (aI G 3 (oF gv))) (h76 : M 76 = some (aZ G 12 (bF nt))) (h84 : M 84 = some (aI G 3 fo)) (hw : LSw n kd sz rl en) (hmr : MRel n kd fm to sz rl en mk mf mu mz rr ee) (hao : 0 < ao ∧ ao ≤ 6) (hqp : ∀ i, i < ao → ap i ≤ 4 ∧ (ak i = nI (kn i) ∧ kn i < 6) ∧ ∀ p8, p8 < ap i → (pr (4 * i + p8) = nI (ro (i * 4 + p8)) ∧ ro (i * 4 + p8) < 6) ∧ te (i * 4 + p8) < 43 ∧ pf (4 * i + p8) = tmI (te (i * 4 + p8))) (hlst : ∀ u, u < 40 → lst u < 40) (hvr : vr < 8) : Met l yX10_answers wsX10_answers rm_c_X10_answers (Pr G z ad M [.ref (ad 60), .int d]) (Ni G z ad (fun (r : Int32) (M' : Mem) => ∃ tr2 : Nat → Bool, ∃ gv2 : Nat → Option Nat, ∃ fo2 : Nat → Int32, M' 60 = some (cModel ad 0 n on ao vr sn tp pt zs bg fa) ∧ M' 82 = some (aZ G 384000 (bF tr2)) ∧ M' 83 = some (aI G 3 (oF gv2)) ∧ M' 84 = some (aI G 3 fo2) ∧ (∀ j : Nat, j ≠ 60 → j ≠ 82 → j ≠ 83 → j ≠ 84 → M' j = M j) ∧ (r = nI (cntB (gP vr lst tr2 nt te ap ao) 64000) ∧ ((∀ v, v < 3 → gv2 v = none) ∧ ∀ x, x < ao * 64000 → (tr2 x = true ↔ ∃ i9, i9 < ao ∧ ∃ l9, l9 < n ∧ aQ kd fm to sz rl en lst ro te kn ap gv2 d i9 l9 x))))) 0 0 (fr z) := by
  refine Met.ofW (cc := cX10_answers) (maxL := 2) (ret := (some .int)) (by decide) rfl ?_
  intro p e s m args below meth c s₁ B hml hv
  obtain ⟨rfl, hv⟩ := hv
  have hI := Iv.entry hv
  have hx := B.exec
  have hb := B.bytes
  have hr := B.returns
  have hts := atoms_spec (ws := wsX10_answers) B.pre
  have hown : s.vm.findClass RX10 = some m.cls := findClass_of_methodNamed B.named
  have hlocks := B.notSynchronized
  have f_3 := hts _ (List.mem_cons_of_mem _ (lwg_of t_1013 rfl))
  have i_RX10 : ∀ w ∈ u_ws RX10 TX10 38, w ∈ wsX10_answers := fun w h => List.mem_cons_of_mem _ (iu_X10 w h)
  have hl := lv_entry ([.ref (ad 60), .int d]) (n := 2) (Nat.le_of_ble_eq_true rfl)
  rw [lg_entry_eq]
  generalize (lg_sl ([.ref (ad 60), .int d]) ++ List.replicate (2 - (lg_sl ([.ref (ad 60), .int d])).length) Slot.unset).toArray = ls at hl ⊢
  have hl : lv_has ls 2 [(0, .ref (ad 60)), (1, .int d)] := hl
  refine lv_aload_n hx hb dX10_answers_0 rfl (lv_at hl 0 rfl) ?_
  refine lv_iconst (v := nI 0) hx hb dX10_answers_1 (by decide) ?_
  refine h_put (C := RX10) (T := TX10) (N := 38) hx hb hts i_RX10 tyX10 tyX10_ok nmX10 hown hI h60 rfl 0 (by decide) f_3 rfl rfl rfl rfl (Nat.le_of_ble_eq_true rfl) dX10_answers_2 (fun M_1 H_2 locs_3 eM_4 hI => ?_)
  have hm_5 : M_1 60 = some (cModel ad 0 n on ao vr sn tp pt zs bg fa) := by rw [eM_4]; exact va_up_self _ _ _
  have hm_6 : M_1 65 = some (aI G 120 (nF mk)) := by rw [eM_4, va_up_ne _ _ (by decide)]; exact h65
  have hm_7 : M_1 66 = some (aI G 120 mf) := by rw [eM_4, va_up_ne _ _ (by decide)]; exact h66
  have hm_8 : M_1 67 = some (aI G 120 mu) := by rw [eM_4, va_up_ne _ _ (by decide)]; exact h67
  have hm_9 : M_1 68 = some (aI G 121 (nF mz)) := by rw [eM_4, va_up_ne _ _ (by decide)]; exact h68
  have hm_10 : M_1 69 = some (aI G 726 (nF rr)) := by rw [eM_4, va_up_ne _ _ (by decide)]; exact h69
  have hm_11 : M_1 70 = some (aI G 726 (nF ee)) := by rw [eM_4, va_up_ne _ _ (by decide)]; exact h70
  have hm_12 : M_1 71 = some (aI G 40 (nF lst)) := by rw [eM_4, va_up_ne _ _ (by decide)]; exact h71
  have hm_13 : M_1 75 = some (aI G 12 ak) := by rw [eM_4, va_up_ne _ _ (by decide)]; exact h75
  have hm_14 : M_1 77 = some (aI G 12 (nF ap)) := by rw [eM_4, va_up_ne _ _ (by decide)]; exact h77
  have hm_15 : M_1 78 = some (aI G 48 pr) := by rw [eM_4, va_up_ne _ _ (by decide)]; exact h78
  have hm_16 : M_1 79 = some (aI G 48 pf) := by rw [eM_4, va_up_ne _ _ (by decide)]; exact h79
  have hm_17 : M_1 82 = some (aZ G 384000 (bF tr)) := by rw [eM_4, va_up_ne _ _ (by decide)]; exact h82
  have hm_18 : M_1 83 = some (aI G 3 (oF gv)) := by rw [eM_4, va_up_ne _ _ (by decide)]; exact h83
  have hm_19 : M_1 76 = some (aZ G 12 (bF nt)) := by rw [eM_4, va_up_ne _ _ (by decide)]; exact h76
  have hm_20 : M_1 84 = some (aI G 3 fo) := by rw [eM_4, va_up_ne _ _ (by decide)]; exact h84
  have hF_21 : ∀ j : Nat, j ≠ 60 → M_1 j = M j := fun j q0 => by rw [eM_4, va_up_ne _ _ q0]
  refine lv_aload_n hx hb dX10_answers_5 rfl (lv_at hl 0 rfl) ?_
  refine lv_iload_n hx hb dX10_answers_6 rfl (lv_at hl 1 rfl) ?_
  refine lv_iconst (v := (-1)) hx hb dX10_answers_7 (by decide) ?_
  refine k_Ni (va_runV (As := [.int d, .int (-1)]) (rest := []) ⟨hx, hb, hml, hown, hts⟩ (c_X10_goes l G z ad M_1 (th := 0) (on := on) (ao := ao) (vr := vr) (sn := sn) (tp := tp) (pt := pt) (zs := zs) (bg := bg) (fa := fa) (n := n) (kd := kd) (fm := fm) (to := to) (sz := sz) (rl := rl) (en := en) (mk := mk) (mf := mf) (mu := mu) (mz := mz) (rr := rr) (ee := ee) (lst := lst) (ak := ak) (ap := ap) (pr := pr) (pf := pf) (kn := kn) (ro := ro) (te := te) (tr := tr) (gv := gv) (nt := nt) (fo := fo) (d := d) (w := (-1)) hm_5 hm_6 hm_7 hm_8 hm_9 hm_10 hm_11 hm_12 hm_13 hm_14 hm_15 hm_16 hm_17 hm_18 hm_19 hm_20 hw hmr (by omega) hqp hlst (by omega)) (cwV 2 hts (gV (lwg_of t_1322 rfl) (lwg_of t_1324 rfl) (lwg_of ts_39 rfl) (lwg_of t_13 rfl) (lwg_of t_1325 rfl)) rfl rfl rfl (by decide +kernel) ⟨Nat.le_of_ble_eq_true rfl, Nat.le_of_ble_eq_true rfl⟩) (hI.preV hm_5 rfl) rfl rfl hl.1 rfl (lv_room (Nat.le_of_ble_eq_true rfl)) dX10_answers_8 ⟨Nat.le_of_ble_eq_true rfl, Nat.le_of_ble_eq_true rfl⟩) hI (fun r_22 M_24 H_25 locs_26 hp_23 hI => ?_)
  obtain ⟨tr2_32, gv2_33, fo2_34, hm_27, hm_28, hm_29, hF_30, hP_31⟩ := hp_23
  have hm_35 : M_24 60 = some (cModel ad 0 n on ao vr sn tp pt zs bg fa) := by rw [hF_30 60 (by omega) (by omega) (by omega)]; exact hm_5
  have hm_36 : M_24 65 = some (aI G 120 (nF mk)) := by rw [hF_30 65 (by omega) (by omega) (by omega)]; exact hm_6
  have hm_37 : M_24 66 = some (aI G 120 mf) := by rw [hF_30 66 (by omega) (by omega) (by omega)]; exact hm_7
  have hm_38 : M_24 67 = some (aI G 120 mu) := by rw [hF_30 67 (by omega) (by omega) (by omega)]; exact hm_8
  have hm_39 : M_24 68 = some (aI G 121 (nF mz)) := by rw [hF_30 68 (by omega) (by omega) (by omega)]; exact hm_9
  have hm_40 : M_24 69 = some (aI G 726 (nF rr)) := by rw [hF_30 69 (by omega) (by omega) (by omega)]; exact hm_10
  have hm_41 : M_24 70 = some (aI G 726 (nF ee)) := by rw [hF_30 70 (by omega) (by omega) (by omega)]; exact hm_11
  have hm_42 : M_24 71 = some (aI G 40 (nF lst)) := by rw [hF_30 71 (by omega) (by omega) (by omega)]; exact hm_12
  have hm_43 : M_24 75 = some (aI G 12 ak) := by rw [hF_30 75 (by omega) (by omega) (by omega)]; exact hm_13
  have hm_44 : M_24 77 = some (aI G 12 (nF ap)) := by rw [hF_30 77 (by omega) (by omega) (by omega)]; exact hm_14
  have hm_45 : M_24 78 = some (aI G 48 pr) := by rw [hF_30 78 (by omega) (by omega) (by omega)]; exact hm_15
  have hm_46 : M_24 79 = some (aI G 48 pf) := by rw [hF_30 79 (by omega) (by omega) (by omega)]; exact hm_16
  have hm_47 : M_24 76 = some (aZ G 12 (bF nt)) := by rw [hF_30 76 (by omega) (by omega) (by omega)]; exact hm_19
  have hF_48 : ∀ j : Nat, j ≠ 60 → j ≠ 82 → j ≠ 83 → j ≠ 84 → M_24 j = M j := fun j q0 q1 q2 q3 => (hF_30 j q1 q2 q3).trans (hF_21 j q0)
  exact e_Ni hx hb hr rfl hlocks hI ⟨tr2_32, gv2_33, fo2_34, hm_35, hm_27, hm_28, hm_29, (fun j q0 q1 q2 q3 => hF_48 j q0 q1 q2 q3), ⟨(hP_31.2.resolve_right (fun ⟨k9, h9, _, h8, _⟩ => absurd h8 (nI_m1 (by have := cntB_le (gP vr lst tr2_32 nt te ap ao) k9; omega)))).1, hP_31.1⟩⟩ dX10_answers_11

/-- X10_answer -/
abbrev rm_c_X10_answer_a : Room := { frames := 0, cells := 0, slots := 0, locals := 0 }
set_option maxHeartbeats 4000000 in
set_option maxRecDepth 100000 in
theorem c_X10_answer_a (l : Launch) (G : GG) (z : Nat) (ad : Nat → Nat) (M : Mem) {th : Nat} {ln : Nat} {on : Nat} {ao : Nat} {vr : Nat} {sn : Nat} {tp : Nat} {pt : Nat} {zs : Nat} {bg : Nat} {fa : Int32} {d : Int32} {x : Int32} {y : Int32} (h60 : M 60 = some (cModel ad th ln on ao vr sn tp pt zs bg fa)) (hx0 : x < 0) : Met l yX10_answer wsX10_answer rm_c_X10_answer_a (Pr G z ad M [.ref (ad 60), .int d, .int x, .int y]) (Ni G z ad (fun (r : Int32) (M' : Mem) => r = (-1) ∧ M' 60 = some (cModel ad 0 ln on ao vr sn tp pt zs bg fa) ∧ (∀ j : Nat, j ≠ 60 → M' j = M j))) 0 0 (fr z) := by
  refine Met.ofW (cc := cX10_answer) (maxL := 5) (ret := (some .int)) (by decide) rfl ?_
  intro p e s m args below meth c s₁ B hml hv
  obtain ⟨rfl, hv⟩ := hv
  have hI := Iv.entry hv
  have hx := B.exec
  have hb := B.bytes
  have hr := B.returns
  have hts := atoms_spec (ws := wsX10_answer) B.pre
  have hown : s.vm.findClass RX10 = some m.cls := findClass_of_methodNamed B.named
  have hlocks := B.notSynchronized
  have f_3 := hts _ (List.mem_cons_of_mem _ (lwg_of t_1013 rfl))
  have i_RX10 : ∀ w ∈ u_ws RX10 TX10 38, w ∈ wsX10_answer := fun w h => List.mem_cons_of_mem _ (iu_X10 w h)
  have hl := lv_entry ([.ref (ad 60), .int d, .int x, .int y]) (n := 5) (Nat.le_of_ble_eq_true rfl)
  rw [lg_entry_eq]
  generalize (lg_sl ([.ref (ad 60), .int d, .int x, .int y]) ++ List.replicate (5 - (lg_sl ([.ref (ad 60), .int d, .int x, .int y])).length) Slot.unset).toArray = ls at hl ⊢
  have hl : lv_has ls 5 [(0, .ref (ad 60)), (1, .int d), (2, .int x), (3, .int y)] := hl
  refine lv_aload_n hx hb dX10_answer_0 rfl (lv_at hl 0 rfl) ?_
  refine lv_iconst (v := nI 0) hx hb dX10_answer_1 (by decide) ?_
  refine h_put (C := RX10) (T := TX10) (N := 38) hx hb hts i_RX10 tyX10 tyX10_ok nmX10 hown hI h60 rfl 0 (by decide) f_3 rfl rfl rfl rfl (Nat.le_of_ble_eq_true rfl) dX10_answer_2 (fun M_1 H_2 locs_3 eM_4 hI => ?_)
  have hm_5 : M_1 60 = some (cModel ad 0 ln on ao vr sn tp pt zs bg fa) := by rw [eM_4]; exact va_up_self _ _ _
  have hF_6 : ∀ j : Nat, j ≠ 60 → M_1 j = M j := fun j q0 => by rw [eM_4, va_up_ne _ _ q0]
  refine lv_iload_n hx hb dX10_answer_5 rfl (lv_at hl 2 rfl) ?_
  refine lv_if_lt (tgt := 29) hx hb dX10_answer_6 (by decide) (fun c_7 => ?_) (fun c_7 => ?_)
  · -- 6: x lt
    refine lv_iconst (v := (-1)) hx hb dX10_answer_29 (by decide) ?_
    exact e_Ni hx hb hr rfl hlocks hI ⟨rfl, hm_5, (fun j q0 => hF_6 j q0)⟩ dX10_answer_30
  · -- 6: x ge
    contradiction

/-- X10_answer -/
abbrev rm_c_X10_answer_b : Room := { frames := 1, cells := 0, slots := 0, locals := 22 }
set_option maxHeartbeats 4000000 in
set_option maxRecDepth 100000 in
theorem c_X10_answer_b (l : Launch) (G : GG) (z : Nat) (ad : Nat → Nat) (M : Mem) {th : Nat} {ln : Nat} {on : Nat} {ao : Nat} {vr : Nat} {sn : Nat} {tp : Nat} {pt : Nat} {zs : Nat} {bg : Nat} {fa : Int32} {d : Int32} {x : Int32} {y : Int32} (h60 : M 60 = some (cModel ad th ln on ao vr sn tp pt zs bg fa)) (hbad : y < 0 ∨ ¬ y < nI 3) : Met l yX10_answer wsX10_answer rm_c_X10_answer_b (Pr G z ad M [.ref (ad 60), .int d, .int x, .int y]) (Ni G z ad (fun (r : Int32) (M' : Mem) => r = (-1) ∧ M' 60 = some (cModel ad 0 ln on ao vr sn tp pt zs bg fa) ∧ (∀ j : Nat, j ≠ 60 → M' j = M j))) 0 0 (fr z) := by
  refine Met.ofW (cc := cX10_answer) (maxL := 5) (ret := (some .int)) (by decide) rfl ?_
  intro p e s m args below meth c s₁ B hml hv
  obtain ⟨rfl, hv⟩ := hv
  have hI := Iv.entry hv
  have hx := B.exec
  have hb := B.bytes
  have hr := B.returns
  have hts := atoms_spec (ws := wsX10_answer) B.pre
  have hown : s.vm.findClass RX10 = some m.cls := findClass_of_methodNamed B.named
  have hlocks := B.notSynchronized
  have f_3 := hts _ (List.mem_cons_of_mem _ (lwg_of t_1013 rfl))
  have i_RX10 : ∀ w ∈ u_ws RX10 TX10 38, w ∈ wsX10_answer := fun w h => List.mem_cons_of_mem _ (iu_X10 w h)
  have hl := lv_entry ([.ref (ad 60), .int d, .int x, .int y]) (n := 5) (Nat.le_of_ble_eq_true rfl)
  rw [lg_entry_eq]
  generalize (lg_sl ([.ref (ad 60), .int d, .int x, .int y]) ++ List.replicate (5 - (lg_sl ([.ref (ad 60), .int d, .int x, .int y])).length) Slot.unset).toArray = ls at hl ⊢
  have hl : lv_has ls 5 [(0, .ref (ad 60)), (1, .int d), (2, .int x), (3, .int y)] := hl
  refine lv_aload_n hx hb dX10_answer_0 rfl (lv_at hl 0 rfl) ?_
  refine lv_iconst (v := nI 0) hx hb dX10_answer_1 (by decide) ?_
  refine h_put (C := RX10) (T := TX10) (N := 38) hx hb hts i_RX10 tyX10 tyX10_ok nmX10 hown hI h60 rfl 0 (by decide) f_3 rfl rfl rfl rfl (Nat.le_of_ble_eq_true rfl) dX10_answer_2 (fun M_1 H_2 locs_3 eM_4 hI => ?_)
  have hm_5 : M_1 60 = some (cModel ad 0 ln on ao vr sn tp pt zs bg fa) := by rw [eM_4]; exact va_up_self _ _ _
  have hF_6 : ∀ j : Nat, j ≠ 60 → M_1 j = M j := fun j q0 => by rw [eM_4, va_up_ne _ _ q0]
  refine lv_iload_n hx hb dX10_answer_5 rfl (lv_at hl 2 rfl) ?_
  refine lv_if_lt (tgt := 29) hx hb dX10_answer_6 (by decide) (fun c_7 => ?_) (fun c_7 => ?_)
  · -- 6: x lt
    refine lv_iconst (v := (-1)) hx hb dX10_answer_29 (by decide) ?_
    exact e_Ni hx hb hr rfl hlocks hI ⟨rfl, hm_5, (fun j q0 => hF_6 j q0)⟩ dX10_answer_30
  · -- 6: x ge
    refine lv_iload_n hx hb dX10_answer_9 rfl (lv_at hl 3 rfl) ?_
    refine lv_iconst (v := nI 0) hx hb dX10_answer_10 (by decide) ?_
    refine lv_iconst (v := nI 2) hx hb dX10_answer_11 (by decide) ?_
    refine k_Ri (va_runS (As := [.int y, .int (nI 0), .int (nI 2)]) (rest := []) ⟨hx, hb, hml, hown, hts⟩ (c_X10_in l G z ad M_1 (x := y) (a := nI 0) (b := nI 2) ) (va_cwS 3 hts (gS (lwg_of t_1135 rfl) (lwg_of t_1136 rfl) (lwg_of t_13 rfl) (lwg_of t_1137 rfl)) rfl rfl rfl (by decide +kernel) ⟨Nat.le_of_ble_eq_true rfl, Nat.le_of_ble_eq_true rfl⟩) hI.preS rfl rfl hl.1 rfl (lv_room (Nat.le_of_ble_eq_true rfl)) dX10_answer_12 ⟨Nat.le_of_ble_eq_true rfl, Nat.le_of_ble_eq_true rfl⟩) (fun _ h => h) (fun r_8 hp_9 => ?_)
    rw [hp_9]
    refine n_eq (show _ = nI 0 from by rw [inB_f (k := 2) hbad (by decide)]; rfl) ?_
    refine lv_if_eq (tgt := 29) hx hb dX10_answer_15 (by decide) (fun c_10 => ?_) (fun c_10 => ?_)
    · -- 15: nI 0 eq
      refine lv_iconst (v := (-1)) hx hb dX10_answer_29 (by decide) ?_
      exact e_Ni hx hb hr rfl hlocks hI ⟨rfl, hm_5, (fun j q0 => hF_6 j q0)⟩ dX10_answer_30
    · -- 15: nI 0 ne
      exact absurd (by decide) c_10

/-- X10_answer -/
abbrev rm_c_X10_answer_c : Room := { frames := 1, cells := 0, slots := 0, locals := 22 }
set_option maxHeartbeats 4000000 in
set_option maxRecDepth 100000 in
theorem c_X10_answer_c (l : Launch) (G : GG) (z : Nat) (ad : Nat → Nat) (M : Mem) {th : Nat} {ln : Nat} {on : Nat} {ao : Nat} {vr : Nat} {sn : Nat} {tp : Nat} {pt : Nat} {zs : Nat} {bg : Nat} {fa : Int32} {d : Int32} {x : Int32} {v : Nat} (h60 : M 60 = some (cModel ad th ln on ao vr sn tp pt zs bg fa)) (hvr : vr < 8) (hv3 : v < 3) (hno : vr.testBit v = false) : Met l yX10_answer wsX10_answer rm_c_X10_answer_c (Pr G z ad M [.ref (ad 60), .int d, .int x, .int (nI v)]) (Ni G z ad (fun (r : Int32) (M' : Mem) => r = (-1) ∧ M' 60 = some (cModel ad 0 ln on ao vr sn tp pt zs bg fa) ∧ (∀ j : Nat, j ≠ 60 → M' j = M j))) 0 0 (fr z) := by
  refine Met.ofW (cc := cX10_answer) (maxL := 5) (ret := (some .int)) (by decide) rfl ?_
  intro p e s m args below meth c s₁ B hml hv
  obtain ⟨rfl, hv⟩ := hv
  have hI := Iv.entry hv
  have hx := B.exec
  have hb := B.bytes
  have hr := B.returns
  have hts := atoms_spec (ws := wsX10_answer) B.pre
  have hown : s.vm.findClass RX10 = some m.cls := findClass_of_methodNamed B.named
  have hlocks := B.notSynchronized
  have f_3 := hts _ (List.mem_cons_of_mem _ (lwg_of t_1013 rfl))
  have i_RX10 : ∀ w ∈ u_ws RX10 TX10 38, w ∈ wsX10_answer := fun w h => List.mem_cons_of_mem _ (iu_X10 w h)
  have f_229 := hts _ (List.mem_cons_of_mem _ (lwg_of t_1036 rfl))
  have hl := lv_entry ([.ref (ad 60), .int d, .int x, .int (nI v)]) (n := 5) (Nat.le_of_ble_eq_true rfl)
  rw [lg_entry_eq]
  generalize (lg_sl ([.ref (ad 60), .int d, .int x, .int (nI v)]) ++ List.replicate (5 - (lg_sl ([.ref (ad 60), .int d, .int x, .int (nI v)])).length) Slot.unset).toArray = ls at hl ⊢
  have hl : lv_has ls 5 [(0, .ref (ad 60)), (1, .int d), (2, .int x), (3, .int (nI v))] := hl
  refine lv_aload_n hx hb dX10_answer_0 rfl (lv_at hl 0 rfl) ?_
  refine lv_iconst (v := nI 0) hx hb dX10_answer_1 (by decide) ?_
  refine h_put (C := RX10) (T := TX10) (N := 38) hx hb hts i_RX10 tyX10 tyX10_ok nmX10 hown hI h60 rfl 0 (by decide) f_3 rfl rfl rfl rfl (Nat.le_of_ble_eq_true rfl) dX10_answer_2 (fun M_1 H_2 locs_3 eM_4 hI => ?_)
  have hm_5 : M_1 60 = some (cModel ad 0 ln on ao vr sn tp pt zs bg fa) := by rw [eM_4]; exact va_up_self _ _ _
  have hF_6 : ∀ j : Nat, j ≠ 60 → M_1 j = M j := fun j q0 => by rw [eM_4, va_up_ne _ _ q0]
  refine lv_iload_n hx hb dX10_answer_5 rfl (lv_at hl 2 rfl) ?_
  refine lv_if_lt (tgt := 29) hx hb dX10_answer_6 (by decide) (fun c_7 => ?_) (fun c_7 => ?_)
  · -- 6: x lt
    refine lv_iconst (v := (-1)) hx hb dX10_answer_29 (by decide) ?_
    exact e_Ni hx hb hr rfl hlocks hI ⟨rfl, hm_5, (fun j q0 => hF_6 j q0)⟩ dX10_answer_30
  · -- 6: x ge
    refine lv_iload_n hx hb dX10_answer_9 rfl (lv_at hl 3 rfl) ?_
    refine lv_iconst (v := nI 0) hx hb dX10_answer_10 (by decide) ?_
    refine lv_iconst (v := nI 2) hx hb dX10_answer_11 (by decide) ?_
    refine k_Ri (va_runS (As := [.int (nI v), .int (nI 0), .int (nI 2)]) (rest := []) ⟨hx, hb, hml, hown, hts⟩ (c_X10_in l G z ad M_1 (x := nI v) (a := nI 0) (b := nI 2) ) (va_cwS 3 hts (gS (lwg_of t_1135 rfl) (lwg_of t_1136 rfl) (lwg_of t_13 rfl) (lwg_of t_1137 rfl)) rfl rfl rfl (by decide +kernel) ⟨Nat.le_of_ble_eq_true rfl, Nat.le_of_ble_eq_true rfl⟩) hI.preS rfl rfl hl.1 rfl (lv_room (Nat.le_of_ble_eq_true rfl)) dX10_answer_12 ⟨Nat.le_of_ble_eq_true rfl, Nat.le_of_ble_eq_true rfl⟩) (fun _ h => h) (fun r_8 hp_9 => ?_)
    rw [hp_9]
    refine n_eq (show _ = nI 1 from by rw [inB_t (by omega) (by decide)]; rfl) ?_
    refine lv_if_eq (tgt := 29) hx hb dX10_answer_15 (by decide) (fun c_10 => ?_) (fun c_10 => ?_)
    · -- 15: nI 1 eq
      exact absurd c_10 (by decide)
    · -- 15: nI 1 ne
      refine lv_aload_n hx hb dX10_answer_18 rfl (lv_at hl 0 rfl) ?_
      refine h_get (C := RX10) (T := TX10) (N := 38) hx hb hts i_RX10 hown hI hm_5 rfl 23 (by decide) f_229 rfl rfl dX10_answer_19 ?_
      refine lv_iload_n hx hb dX10_answer_22 rfl (lv_at hl 3 rfl) ?_
      refine lv_ishr hx hb dX10_answer_23 ?_
      refine lv_iconst (v := nI 1) hx hb dX10_answer_24 (by decide) ?_
      refine lv_iand hx hb dX10_answer_25 ?_
      refine n_eq (show _ = nI 0 from by rw [shr3 vr hvr v hv3, hno]; rfl) ?_
      refine lv_if_ne (tgt := 31) hx hb dX10_answer_26 (by decide) (fun c_11 => ?_) (fun c_11 => ?_)
      · -- 26: nI 0 ne
        exact absurd (by decide) c_11
      · -- 26: nI 0 eq
        refine lv_iconst (v := (-1)) hx hb dX10_answer_29 (by decide) ?_
        exact e_Ni hx hb hr rfl hlocks hI ⟨rfl, hm_5, (fun j q0 => hF_6 j q0)⟩ dX10_answer_30

/-- X10_answer -/
abbrev rm_c_X10_answer : Room := { frames := 8, cells := 0, slots := 0, locals := 219 }
set_option maxHeartbeats 4000000 in
set_option maxRecDepth 100000 in
theorem c_X10_answer (l : Launch) (G : GG) (z : Nat) (ad : Nat → Nat) (M : Mem) {th : Nat} {on : Nat} {ao : Nat} {vr : Nat} {sn : Nat} {tp : Nat} {pt : Nat} {zs : Nat} {bg : Nat} {fa : Int32} {n : Nat} {kd : Nat → Nat} {fm : Nat → Int32} {to : Nat → Int32} {sz : Nat → Nat} {rl : Nat → Nat → Nat} {en : Nat → Nat → Nat} {mk : Nat → Nat} {mf : Nat → Int32} {mu : Nat → Int32} {mz : Nat → Nat} {rr : Nat → Nat} {ee : Nat → Nat} {lst : Nat → Nat} {ak : Nat → Int32} {ap : Nat → Nat} {pr : Nat → Int32} {pf : Nat → Int32} {kn : Nat → Nat} {ro : Nat → Nat} {te : Nat → Nat} {tr : Nat → Bool} {gv : Nat → Option Nat} {nt : Nat → Bool} {fo : Nat → Int32} {d : Int32} {q : Nat} {v : Nat} (h60 : M 60 = some (cModel ad th n on ao vr sn tp pt zs bg fa)) (h65 : M 65 = some (aI G 120 (nF mk))) (h66 : M 66 = some (aI G 120 mf)) (h67 : M 67 = some (aI G 120 mu)) (h68 : M 68 = some (aI G 121 (nF mz))) (h69 : M 69 = some (aI G 726 (nF rr))) (h70 : M 70 = some (aI G 726 (nF ee))) (h71 : M 71 = some (aI G 40 (nF lst))) (h75 : M 75 = some (aI G 12 ak)) (h77 : M 77 = some (aI G 12 (nF ap))) (h78 : M 78 = some (aI G 48 pr)) (h79 : M 79 = some (aI G 48 pf)) (h82 : M 82 = some (aZ G 384000 (bF tr))) (h83 : M 83 = some (aI G 3 (oF gv))) (h76 : M 76 = some (aZ G 12 (bF nt))) (h84 : M 84 = some (aI G 3 fo)) (hw : LSw n kd sz rl en) (hmr : MRel n kd fm to sz rl en mk mf mu mz rr ee) (hao : 0 < ao ∧ ao ≤ 6) (hqp : ∀ i, i < ao → ap i ≤ 4 ∧ (ak i = nI (kn i) ∧ kn i < 6) ∧ ∀ p8, p8 < ap i → (pr (4 * i + p8) = nI (ro (i * 4 + p8)) ∧ ro (i * 4 + p8) < 6) ∧ te (i * 4 + p8) < 43 ∧ pf (4 * i + p8) = tmI (te (i * 4 + p8))) (hlst : ∀ u, u < 40 → lst u < 40) (hvr : vr < 8) (hq : q < 2 ^ 31) (hv3 : v < 3) (hus : vr.testBit v = true) : Met l yX10_answer wsX10_answer rm_c_X10_answer (Pr G z ad M [.ref (ad 60), .int d, .int (nI q), .int (nI v)]) (Ni G z ad (fun (r : Int32) (M' : Mem) => ∃ tr2 : Nat → Bool, ∃ gv2 : Nat → Option Nat, ∃ fo2 : Nat → Int32, M' 60 = some (cModel ad 0 n on ao vr sn tp pt zs bg fa) ∧ M' 82 = some (aZ G 384000 (bF tr2)) ∧ M' 83 = some (aI G 3 (oF gv2)) ∧ M' 84 = some (aI G 3 fo2) ∧ (∀ j : Nat, j ≠ 60 → j ≠ 82 → j ≠ 83 → j ≠ 84 → M' j = M j) ∧ (((∀ v, v < 3 → gv2 v = none) ∧ ∀ x, x < ao * 64000 → (tr2 x = true ↔ ∃ i9, i9 < ao ∧ ∃ l9, l9 < n ∧ aQ kd fm to sz rl en lst ro te kn ap gv2 d i9 l9 x)) ∧ (cntB (gP vr lst tr2 nt te ap ao) 64000 ≤ q ∧ r = -1 ∨ ∃ k, k < 64000 ∧ gP vr lst tr2 nt te ap ao k = true ∧ cntB (gP vr lst tr2 nt te ap ao) k = q ∧ r = nI (cmp3 (k / 1600) (k / 40 % 40) (k % 40) v))))) 0 0 (fr z) := by
  refine Met.ofW (cc := cX10_answer) (maxL := 5) (ret := (some .int)) (by decide) rfl ?_
  intro p e s m args below meth c s₁ B hml hv
  obtain ⟨rfl, hv⟩ := hv
  have hI := Iv.entry hv
  have hx := B.exec
  have hb := B.bytes
  have hr := B.returns
  have hts := atoms_spec (ws := wsX10_answer) B.pre
  have hown : s.vm.findClass RX10 = some m.cls := findClass_of_methodNamed B.named
  have hlocks := B.notSynchronized
  have f_3 := hts _ (List.mem_cons_of_mem _ (lwg_of t_1013 rfl))
  have i_RX10 : ∀ w ∈ u_ws RX10 TX10 38, w ∈ wsX10_answer := fun w h => List.mem_cons_of_mem _ (iu_X10 w h)
  have f_229 := hts _ (List.mem_cons_of_mem _ (lwg_of t_1036 rfl))
  have f_89 := hts _ (List.mem_cons_of_mem _ (lwg_of t_1047 rfl))
  have hl := lv_entry ([.ref (ad 60), .int d, .int (nI q), .int (nI v)]) (n := 5) (Nat.le_of_ble_eq_true rfl)
  rw [lg_entry_eq]
  generalize (lg_sl ([.ref (ad 60), .int d, .int (nI q), .int (nI v)]) ++ List.replicate (5 - (lg_sl ([.ref (ad 60), .int d, .int (nI q), .int (nI v)])).length) Slot.unset).toArray = ls at hl ⊢
  have hl : lv_has ls 5 [(0, .ref (ad 60)), (1, .int d), (2, .int (nI q)), (3, .int (nI v))] := hl
  refine lv_aload_n hx hb dX10_answer_0 rfl (lv_at hl 0 rfl) ?_
  refine lv_iconst (v := nI 0) hx hb dX10_answer_1 (by decide) ?_
  refine h_put (C := RX10) (T := TX10) (N := 38) hx hb hts i_RX10 tyX10 tyX10_ok nmX10 hown hI h60 rfl 0 (by decide) f_3 rfl rfl rfl rfl (Nat.le_of_ble_eq_true rfl) dX10_answer_2 (fun M_1 H_2 locs_3 eM_4 hI => ?_)
  have hm_5 : M_1 60 = some (cModel ad 0 n on ao vr sn tp pt zs bg fa) := by rw [eM_4]; exact va_up_self _ _ _
  have hm_6 : M_1 65 = some (aI G 120 (nF mk)) := by rw [eM_4, va_up_ne _ _ (by decide)]; exact h65
  have hm_7 : M_1 66 = some (aI G 120 mf) := by rw [eM_4, va_up_ne _ _ (by decide)]; exact h66
  have hm_8 : M_1 67 = some (aI G 120 mu) := by rw [eM_4, va_up_ne _ _ (by decide)]; exact h67
  have hm_9 : M_1 68 = some (aI G 121 (nF mz)) := by rw [eM_4, va_up_ne _ _ (by decide)]; exact h68
  have hm_10 : M_1 69 = some (aI G 726 (nF rr)) := by rw [eM_4, va_up_ne _ _ (by decide)]; exact h69
  have hm_11 : M_1 70 = some (aI G 726 (nF ee)) := by rw [eM_4, va_up_ne _ _ (by decide)]; exact h70
  have hm_12 : M_1 71 = some (aI G 40 (nF lst)) := by rw [eM_4, va_up_ne _ _ (by decide)]; exact h71
  have hm_13 : M_1 75 = some (aI G 12 ak) := by rw [eM_4, va_up_ne _ _ (by decide)]; exact h75
  have hm_14 : M_1 77 = some (aI G 12 (nF ap)) := by rw [eM_4, va_up_ne _ _ (by decide)]; exact h77
  have hm_15 : M_1 78 = some (aI G 48 pr) := by rw [eM_4, va_up_ne _ _ (by decide)]; exact h78
  have hm_16 : M_1 79 = some (aI G 48 pf) := by rw [eM_4, va_up_ne _ _ (by decide)]; exact h79
  have hm_17 : M_1 82 = some (aZ G 384000 (bF tr)) := by rw [eM_4, va_up_ne _ _ (by decide)]; exact h82
  have hm_18 : M_1 83 = some (aI G 3 (oF gv)) := by rw [eM_4, va_up_ne _ _ (by decide)]; exact h83
  have hm_19 : M_1 76 = some (aZ G 12 (bF nt)) := by rw [eM_4, va_up_ne _ _ (by decide)]; exact h76
  have hm_20 : M_1 84 = some (aI G 3 fo) := by rw [eM_4, va_up_ne _ _ (by decide)]; exact h84
  have hF_21 : ∀ j : Nat, j ≠ 60 → M_1 j = M j := fun j q0 => by rw [eM_4, va_up_ne _ _ q0]
  refine lv_iload_n hx hb dX10_answer_5 rfl (lv_at hl 2 rfl) ?_
  refine lv_if_lt (tgt := 29) hx hb dX10_answer_6 (by decide) (fun c_22 => ?_) (fun c_22 => ?_)
  · -- 6: nI q lt
    have c_22 : q < 0 := (nI_ltI (a := q) (b := 0) (by omega) (by omega)).mp (c_22)
    omega
  · -- 6: nI q ge
    have c_22 : 0 ≤ q := by have h := mt (nI_ltI (a := q) (b := 0) (by omega) (by omega)).mpr c_22; omega
    refine lv_iload_n hx hb dX10_answer_9 rfl (lv_at hl 3 rfl) ?_
    refine lv_iconst (v := nI 0) hx hb dX10_answer_10 (by decide) ?_
    refine lv_iconst (v := nI 2) hx hb dX10_answer_11 (by decide) ?_
    refine k_Ri (va_runS (As := [.int (nI v), .int (nI 0), .int (nI 2)]) (rest := []) ⟨hx, hb, hml, hown, hts⟩ (c_X10_in l G z ad M_1 (x := nI v) (a := nI 0) (b := nI 2) ) (va_cwS 3 hts (gS (lwg_of t_1135 rfl) (lwg_of t_1136 rfl) (lwg_of t_13 rfl) (lwg_of t_1137 rfl)) rfl rfl rfl (by decide +kernel) ⟨Nat.le_of_ble_eq_true rfl, Nat.le_of_ble_eq_true rfl⟩) hI.preS rfl rfl hl.1 rfl (lv_room (Nat.le_of_ble_eq_true rfl)) dX10_answer_12 ⟨Nat.le_of_ble_eq_true rfl, Nat.le_of_ble_eq_true rfl⟩) (fun _ h => h) (fun r_23 hp_24 => ?_)
    rw [hp_24]
    refine n_eq (show _ = nI 1 from by rw [inB_t (by omega) (by decide)]; rfl) ?_
    refine lv_if_eq (tgt := 29) hx hb dX10_answer_15 (by decide) (fun c_25 => ?_) (fun c_25 => ?_)
    · -- 15: nI 1 eq
      exact absurd c_25 (by decide)
    · -- 15: nI 1 ne
      refine lv_aload_n hx hb dX10_answer_18 rfl (lv_at hl 0 rfl) ?_
      refine h_get (C := RX10) (T := TX10) (N := 38) hx hb hts i_RX10 hown hI hm_5 rfl 23 (by decide) f_229 rfl rfl dX10_answer_19 ?_
      refine lv_iload_n hx hb dX10_answer_22 rfl (lv_at hl 3 rfl) ?_
      refine lv_ishr hx hb dX10_answer_23 ?_
      refine lv_iconst (v := nI 1) hx hb dX10_answer_24 (by decide) ?_
      refine lv_iand hx hb dX10_answer_25 ?_
      refine n_eq (show _ = nI 1 from by rw [shr3 vr hvr v hv3, hus]; rfl) ?_
      refine lv_if_ne (tgt := 31) hx hb dX10_answer_26 (by decide) (fun c_26 => ?_) (fun c_26 => ?_)
      · -- 26: nI 1 ne
        refine lv_aload_n hx hb dX10_answer_31 rfl (lv_at hl 0 rfl) ?_
        refine h_get (C := RX10) (T := TX10) (N := 38) hx hb hts i_RX10 hown hI hm_5 rfl 34 (by decide) f_89 rfl rfl dX10_answer_32 ?_
        refine lv_iconst (v := nI 0) hx hb dX10_answer_35 (by decide) ?_
        refine lv_iconst (v := (-1)) hx hb dX10_answer_36 (by decide) ?_
        refine h_iast (i := 0) (x := (-1)) hx hb hI hm_20 (by omega) (by decide) dX10_answer_37 (fun M_27 H_28 locs_29 eM_30 hI => ?_)
        have hm_31 : M_27 60 = some (cModel ad 0 n on ao vr sn tp pt zs bg fa) := by rw [eM_30, va_up_ne _ _ (by decide)]; exact hm_5
        have hm_32 : M_27 65 = some (aI G 120 (nF mk)) := by rw [eM_30, va_up_ne _ _ (by decide)]; exact hm_6
        have hm_33 : M_27 66 = some (aI G 120 mf) := by rw [eM_30, va_up_ne _ _ (by decide)]; exact hm_7
        have hm_34 : M_27 67 = some (aI G 120 mu) := by rw [eM_30, va_up_ne _ _ (by decide)]; exact hm_8
        have hm_35 : M_27 68 = some (aI G 121 (nF mz)) := by rw [eM_30, va_up_ne _ _ (by decide)]; exact hm_9
        have hm_36 : M_27 69 = some (aI G 726 (nF rr)) := by rw [eM_30, va_up_ne _ _ (by decide)]; exact hm_10
        have hm_37 : M_27 70 = some (aI G 726 (nF ee)) := by rw [eM_30, va_up_ne _ _ (by decide)]; exact hm_11
        have hm_38 : M_27 71 = some (aI G 40 (nF lst)) := by rw [eM_30, va_up_ne _ _ (by decide)]; exact hm_12
        have hm_39 : M_27 75 = some (aI G 12 ak) := by rw [eM_30, va_up_ne _ _ (by decide)]; exact hm_13
        have hm_40 : M_27 77 = some (aI G 12 (nF ap)) := by rw [eM_30, va_up_ne _ _ (by decide)]; exact hm_14
        have hm_41 : M_27 78 = some (aI G 48 pr) := by rw [eM_30, va_up_ne _ _ (by decide)]; exact hm_15
        have hm_42 : M_27 79 = some (aI G 48 pf) := by rw [eM_30, va_up_ne _ _ (by decide)]; exact hm_16
        have hm_43 : M_27 82 = some (aZ G 384000 (bF tr)) := by rw [eM_30, va_up_ne _ _ (by decide)]; exact hm_17
        have hm_44 : M_27 83 = some (aI G 3 (oF gv)) := by rw [eM_30, va_up_ne _ _ (by decide)]; exact hm_18
        have hm_45 : M_27 76 = some (aZ G 12 (bF nt)) := by rw [eM_30, va_up_ne _ _ (by decide)]; exact hm_19
        have hm_46 : M_27 84 = some (aI G 3 (upd fo 0 (-1))) := by rw [eM_30]; exact va_up_self _ _ _
        have hF_47 : ∀ j : Nat, j ≠ 60 → j ≠ 84 → M_27 j = M j := fun j q0 q1 => by rw [eM_30, va_up_ne _ _ q1]; exact hF_21 j q0
        refine lv_aload_n hx hb dX10_answer_38 rfl (lv_at hl 0 rfl) ?_
        refine lv_iload_n hx hb dX10_answer_39 rfl (lv_at hl 1 rfl) ?_
        refine lv_iload_n hx hb dX10_answer_40 rfl (lv_at hl 2 rfl) ?_
        refine k_Ni (va_runV (As := [.int d, .int (nI q)]) (rest := []) ⟨hx, hb, hml, hown, hts⟩ (c_X10_goes l G z ad M_27 (th := 0) (on := on) (ao := ao) (vr := vr) (sn := sn) (tp := tp) (pt := pt) (zs := zs) (bg := bg) (fa := fa) (n := n) (kd := kd) (fm := fm) (to := to) (sz := sz) (rl := rl) (en := en) (mk := mk) (mf := mf) (mu := mu) (mz := mz) (rr := rr) (ee := ee) (lst := lst) (ak := ak) (ap := ap) (pr := pr) (pf := pf) (kn := kn) (ro := ro) (te := te) (tr := tr) (gv := gv) (nt := nt) (fo := upd fo 0 (-1)) (d := d) (w := nI q) hm_31 hm_32 hm_33 hm_34 hm_35 hm_36 hm_37 hm_38 hm_39 hm_40 hm_41 hm_42 hm_43 hm_44 hm_45 hm_46 hw hmr (by omega) hqp hlst (by omega)) (cwV 2 hts (gV (lwg_of t_1322 rfl) (lwg_of t_1324 rfl) (lwg_of ts_39 rfl) (lwg_of t_13 rfl) (lwg_of t_1325 rfl)) rfl rfl rfl (by decide +kernel) ⟨Nat.le_of_ble_eq_true rfl, Nat.le_of_ble_eq_true rfl⟩) (hI.preV hm_31 rfl) rfl rfl hl.1 rfl (lv_room (Nat.le_of_ble_eq_true rfl)) dX10_answer_41 ⟨Nat.le_of_ble_eq_true rfl, Nat.le_of_ble_eq_true rfl⟩) hI (fun r_48 M_50 H_51 locs_52 hp_49 hI => ?_)
        obtain ⟨tr2_58, gv2_59, fo2_60, hm_53, hm_54, hm_55, hF_56, hP_57⟩ := hp_49
        have hm_61 : M_50 60 = some (cModel ad 0 n on ao vr sn tp pt zs bg fa) := by rw [hF_56 60 (by omega) (by omega) (by omega)]; exact hm_31
        have hm_62 : M_50 65 = some (aI G 120 (nF mk)) := by rw [hF_56 65 (by omega) (by omega) (by omega)]; exact hm_32
        have hm_63 : M_50 66 = some (aI G 120 mf) := by rw [hF_56 66 (by omega) (by omega) (by omega)]; exact hm_33
        have hm_64 : M_50 67 = some (aI G 120 mu) := by rw [hF_56 67 (by omega) (by omega) (by omega)]; exact hm_34
        have hm_65 : M_50 68 = some (aI G 121 (nF mz)) := by rw [hF_56 68 (by omega) (by omega) (by omega)]; exact hm_35
        have hm_66 : M_50 69 = some (aI G 726 (nF rr)) := by rw [hF_56 69 (by omega) (by omega) (by omega)]; exact hm_36
        have hm_67 : M_50 70 = some (aI G 726 (nF ee)) := by rw [hF_56 70 (by omega) (by omega) (by omega)]; exact hm_37
        have hm_68 : M_50 71 = some (aI G 40 (nF lst)) := by rw [hF_56 71 (by omega) (by omega) (by omega)]; exact hm_38
        have hm_69 : M_50 75 = some (aI G 12 ak) := by rw [hF_56 75 (by omega) (by omega) (by omega)]; exact hm_39
        have hm_70 : M_50 77 = some (aI G 12 (nF ap)) := by rw [hF_56 77 (by omega) (by omega) (by omega)]; exact hm_40
        have hm_71 : M_50 78 = some (aI G 48 pr) := by rw [hF_56 78 (by omega) (by omega) (by omega)]; exact hm_41
        have hm_72 : M_50 79 = some (aI G 48 pf) := by rw [hF_56 79 (by omega) (by omega) (by omega)]; exact hm_42
        have hm_73 : M_50 76 = some (aZ G 12 (bF nt)) := by rw [hF_56 76 (by omega) (by omega) (by omega)]; exact hm_45
        have hF_74 : ∀ j : Nat, j ≠ 60 → j ≠ 84 → j ≠ 82 → j ≠ 83 → M_50 j = M j := fun j q0 q1 q2 q3 => (hF_56 j q2 q3 q1).trans (hF_47 j q0 q1)
        refine lv_istore (lv' := [(4, .int r_48), (0, .ref (ad 60)), (1, .int d), (2, .int (nI q)), (3, .int (nI v))]) hx hb dX10_answer_44 hl (by decide) rfl (fun ls hl => ?_)
        rcases (hP_57.2 : (r_48 = nI (cntB (gP vr lst tr2_58 nt te ap ao) 64000) ∧ fo2_60 = upd fo 0 (-1) ∧ ∀ k, k < 64000 → gP vr lst tr2_58 nt te ap ao k = true → nI (cntB (gP vr lst tr2_58 nt te ap ao) k) ≠ nI q) ∨ (∃ k, k < 64000 ∧ gP vr lst tr2_58 nt te ap ao k = true ∧ nI (cntB (gP vr lst tr2_58 nt te ap ao) k) = nI q ∧ fo2_60 0 = nI (k / 1600) ∧ fo2_60 1 = nI (k / 40 % 40) ∧ fo2_60 2 = nI (k % 40))) with hc_75 | hc_76
        · skip
          refine lv_aload_n hx hb dX10_answer_46 rfl (lv_at hl 1 rfl) ?_
          refine h_get (C := RX10) (T := TX10) (N := 38) hx hb hts i_RX10 hown hI hm_61 rfl 34 (by decide) f_89 rfl rfl dX10_answer_47 ?_
          refine lv_iconst (v := nI 0) hx hb dX10_answer_50 (by decide) ?_
          refine h_iald (i := 0) hx hb hI hm_55 (by omega) (by decide) dX10_answer_51 ?_
          refine n_eq (show _ = (-1) from by rw [hc_75.2.1]; exact up_self _ _ _) ?_
          refine lv_if_ge (tgt := 59) hx hb dX10_answer_52 (by decide) (fun c_77 => ?_) (fun c_77 => ?_)
          · -- 52: (-1) ge
            exact absurd c_77 (by decide)
          · -- 52: (-1) lt
            refine lv_iconst (v := (-1)) hx hb dX10_answer_55 (by decide) ?_
            refine lv_goto (tgt := 65) hx hb dX10_answer_56 (by decide) ?_
            exact e_Ni hx hb hr rfl hlocks hI ⟨tr2_58, gv2_59, fo2_60, hm_61, hm_53, hm_54, hm_55, (fun j q0 q1 q2 q3 => hF_74 j q0 q3 q1 q2), ⟨hP_57.1, Or.inl ⟨no_le (by decide) hq hc_75.2.2, rfl⟩⟩⟩ dX10_answer_65
        · skip
          refine lv_aload_n hx hb dX10_answer_46 rfl (lv_at hl 1 rfl) ?_
          obtain ⟨k9, hk9, hp9, hw9, hf0, hf1, hf2⟩ := hc_76
          refine h_get (C := RX10) (T := TX10) (N := 38) hx hb hts i_RX10 hown hI hm_61 rfl 34 (by decide) f_89 rfl rfl dX10_answer_47 ?_
          refine lv_iconst (v := nI 0) hx hb dX10_answer_50 (by decide) ?_
          refine h_iald (i := 0) hx hb hI hm_55 (by omega) (by decide) dX10_answer_51 ?_
          refine n_eq (show _ = nI (k9 / 1600) from hf0) ?_
          refine lv_if_ge (tgt := 59) hx hb dX10_answer_52 (by decide) (fun c_78 => ?_) (fun c_78 => ?_)
          · -- 52: nI (k9 / 1600) ge
            have c_78 : 0 ≤ k9 / 1600 := (nI_leI (a := 0) (b := k9 / 1600) (by omega) (by omega)).mp (c_78)
            refine lv_aload_n hx hb dX10_answer_59 rfl (lv_at hl 1 rfl) ?_
            refine h_get (C := RX10) (T := TX10) (N := 38) hx hb hts i_RX10 hown hI hm_61 rfl 34 (by decide) f_89 rfl rfl dX10_answer_60 ?_
            refine lv_iload_n hx hb dX10_answer_63 rfl (lv_at hl 4 rfl) ?_
            refine h_iald (i := v) hx hb hI hm_55 (by omega) (by decide) dX10_answer_64 ?_
            refine n_eq (show _ = nI (cmp3 (k9 / 1600) (k9 / 40 % 40) (k9 % 40) v) from fo_v hv3 hf0 hf1 hf2) ?_
            exact e_Ni hx hb hr rfl hlocks hI ⟨tr2_58, gv2_59, fo2_60, hm_61, hm_53, hm_54, hm_55, (fun j q0 q1 q2 q3 => hF_74 j q0 q3 q1 q2), ⟨hP_57.1, Or.inr ⟨k9, hk9, hp9, eq_q hk9 hq hw9, rfl⟩⟩⟩ dX10_answer_65
          · -- 52: nI (k9 / 1600) lt
            have c_78 : k9 / 1600 < 0 := by have h := mt (nI_leI (a := 0) (b := k9 / 1600) (by omega) (by omega)).mpr c_78; omega
            omega
      · -- 26: nI 1 eq
        exact absurd c_26 (by decide)
