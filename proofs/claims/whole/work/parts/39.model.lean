theorem inB_t {t k : Nat} (h : t ≤ k) (hk : k < 2 ^ 31) : decide (nI 0 ≤ nI t ∧ nI t ≤ nI k) = true := decide_eq_true ⟨(nI_leI (by omega) (by omega)).mpr (by omega), (nI_leI (by omega) (by omega)).mpr h⟩
theorem nIs_toInt {n : Nat} (hn : n < 2 ^ 31) : (nI n - nI 1).toInt = (n : Int) - 1 := by
  cases n with
  | zero => decide
  | succ n => rw [pk_sub (by omega), nI_toInt (by omega)]; omega
theorem inB_f {x : Int32} {k : Nat} (h : x < 0 ∨ ¬ x < nI (k + 1)) (hk : k + 1 < 2 ^ 31) : decide (nI 0 ≤ x ∧ x ≤ nI k) = false := decide_eq_false (fun ⟨h1, h2⟩ => by
  rw [Int32.le_iff_toInt_le, nI_toInt (by omega)] at h1 h2
  rw [Int32.lt_iff_toInt_lt, Int32.lt_iff_toInt_lt, nI_toInt (by omega), show (0 : Int32).toInt = 0 from by decide] at h
  omega)
theorem inL_f {x : Int32} {n : Nat} (h : x < 0 ∨ ¬ x < nI n) (hn : n < 2 ^ 31) : decide (nI 0 ≤ x ∧ x ≤ nI n - nI 1) = false := decide_eq_false (fun ⟨h1, h2⟩ => by
  rw [Int32.le_iff_toInt_le, nI_toInt (by omega)] at h1
  rw [Int32.le_iff_toInt_le, nIs_toInt hn] at h2
  rw [Int32.lt_iff_toInt_lt, Int32.lt_iff_toInt_lt, nI_toInt hn, show (0 : Int32).toInt = 0 from by decide] at h
  omega)

/-- X10_thrown -/
abbrev rm_c_X10_thrown : Room := { frames := 0, cells := 0, slots := 0, locals := 0 }
set_option maxHeartbeats 4000000 in
set_option maxRecDepth 100000 in
theorem c_X10_thrown (l : Launch) (G : GG) (z : Nat) (ad : Nat → Nat) (M : Mem) {th : Nat} {ln : Nat} {on : Nat} {ao : Nat} {vr : Nat} {sn : Nat} {tp : Nat} {pt : Nat} {zs : Nat} {bg : Nat} {fa : Int32} (h60 : M 60 = some (cModel ad th ln on ao vr sn tp pt zs bg fa))  : Met l yX10_thrown wsX10_thrown rm_c_X10_thrown (Pr G z ad M [.ref (ad 60)]) (vp_Si (fun r : Int32 => r = nI th)) 0 0 (fun _ => False) := by
  refine Met.ofW (cc := cX10_thrown) (maxL := 1) (ret := (some .int)) (by decide) rfl ?_
  intro p e s m args below meth c s₁ B hml hv
  obtain ⟨rfl, hv⟩ := hv
  have hI := Iv.entry hv
  have hx := B.exec
  have hb := B.bytes
  have hr := B.returns
  have hts := atoms_spec (ws := wsX10_thrown) B.pre
  have hown : s.vm.findClass RX10 = some m.cls := findClass_of_methodNamed B.named
  have hlocks := B.notSynchronized
  have i_RX10 : ∀ w ∈ u_ws RX10 TX10 38, w ∈ wsX10_thrown := fun w h => List.mem_cons_of_mem _ (iu_X10 w h)
  have f_3 := hts _ (List.mem_cons_of_mem _ (lwg_of t_1013 rfl))
  have hl := lv_entry ([.ref (ad 60)]) (n := 1) (Nat.le_of_ble_eq_true rfl)
  rw [lg_entry_eq]
  generalize (lg_sl ([.ref (ad 60)]) ++ List.replicate (1 - (lg_sl ([.ref (ad 60)])).length) Slot.unset).toArray = ls at hl ⊢
  have hl : lv_has ls 1 [(0, .ref (ad 60))] := hl
  refine lv_aload_n hx hb dX10_thrown_0 rfl (lv_at hl 0 rfl) ?_
  refine h_get (C := RX10) (T := TX10) (N := 38) hx hb hts i_RX10 hown hI h60 rfl 0 (by decide) f_3 rfl rfl dX10_thrown_1 ?_
  exact e_Ri hx hb hr rfl hlocks (rfl) dX10_thrown_4

/-- X10_throwsIf -/
abbrev rm_c_X10_throwsIf_1 : Room := { frames := 0, cells := 0, slots := 0, locals := 0 }
set_option maxHeartbeats 4000000 in
set_option maxRecDepth 100000 in
theorem c_X10_throwsIf_1 (l : Launch) (G : GG) (z : Nat) (ad : Nat → Nat) (M : Mem) {th : Nat} {ln : Nat} {on : Nat} {ao : Nat} {vr : Nat} {sn : Nat} {tp : Nat} {pt : Nat} {zs : Nat} {bg : Nat} {fa : Int32} {c0 : Nat} (h60 : M 60 = some (cModel ad th ln on ao vr sn tp pt zs bg fa))  : Met l yX10_throwsIf wsX10_throwsIf rm_c_X10_throwsIf_1 (Pr G z ad M [.ref (ad 60), .int (nI 1), .int (nI c0)]) (Ni G z ad (fun (r : Int32) (M' : Mem) => r = nI 1 ∧ M' 60 = some (cModel ad c0 ln on ao vr sn tp pt zs bg fa) ∧ (∀ j : Nat, j ≠ 60 → M' j = M j))) 0 0 (fr z) := by
  refine Met.ofW (cc := cX10_throwsIf) (maxL := 3) (ret := (some .boolean)) (by decide) rfl ?_
  intro p e s m args below meth c s₁ B hml hv
  obtain ⟨rfl, hv⟩ := hv
  have hI := Iv.entry hv
  have hx := B.exec
  have hb := B.bytes
  have hr := B.returns
  have hts := atoms_spec (ws := wsX10_throwsIf) B.pre
  have hown : s.vm.findClass RX10 = some m.cls := findClass_of_methodNamed B.named
  have hlocks := B.notSynchronized
  have f_3 := hts _ (List.mem_cons_of_mem _ (lwg_of t_1013 rfl))
  have i_RX10 : ∀ w ∈ u_ws RX10 TX10 38, w ∈ wsX10_throwsIf := fun w h => List.mem_cons_of_mem _ (iu_X10 w h)
  have hl := lv_entry ([.ref (ad 60), .int (nI 1), .int (nI c0)]) (n := 3) (Nat.le_of_ble_eq_true rfl)
  rw [lg_entry_eq]
  generalize (lg_sl ([.ref (ad 60), .int (nI 1), .int (nI c0)]) ++ List.replicate (3 - (lg_sl ([.ref (ad 60), .int (nI 1), .int (nI c0)])).length) Slot.unset).toArray = ls at hl ⊢
  have hl : lv_has ls 3 [(0, .ref (ad 60)), (1, .int (nI 1)), (2, .int (nI c0))] := hl
  refine lv_iload_n hx hb dX10_throwsIf_0 rfl (lv_at hl 1 rfl) ?_
  refine lv_if_eq (tgt := 9) hx hb dX10_throwsIf_1 (by decide) (fun c_1 => ?_) (fun c_1 => ?_)
  · -- 1: nI 1 eq
    exact absurd c_1 (by decide)
  · -- 1: nI 1 ne
    refine lv_aload_n hx hb dX10_throwsIf_4 rfl (lv_at hl 0 rfl) ?_
    refine lv_iload_n hx hb dX10_throwsIf_5 rfl (lv_at hl 2 rfl) ?_
    refine h_put (C := RX10) (T := TX10) (N := 38) hx hb hts i_RX10 tyX10 tyX10_ok nmX10 hown hI h60 rfl 0 (by decide) f_3 rfl rfl rfl rfl (Nat.le_of_ble_eq_true rfl) dX10_throwsIf_6 (fun M_2 H_3 locs_4 eM_5 hI => ?_)
    have hm_6 : M_2 60 = some (cModel ad c0 ln on ao vr sn tp pt zs bg fa) := by rw [eM_5]; exact va_up_self _ _ _
    have hF_7 : ∀ j : Nat, j ≠ 60 → M_2 j = M j := fun j q0 => by rw [eM_5, va_up_ne _ _ q0]
    refine lv_iload_n hx hb dX10_throwsIf_9 rfl (lv_at hl 1 rfl) ?_
    exact e_Ni hx hb hr rfl hlocks hI ⟨rfl, hm_6, (fun j q0 => hF_7 j q0)⟩ dX10_throwsIf_10

/-- X10_throwsIf -/
abbrev rm_c_X10_throwsIf_0 : Room := { frames := 0, cells := 0, slots := 0, locals := 0 }
set_option maxHeartbeats 4000000 in
set_option maxRecDepth 100000 in
theorem c_X10_throwsIf_0 (l : Launch) (G : GG) (z : Nat) (ad : Nat → Nat) (M : Mem) {th : Nat} {ln : Nat} {on : Nat} {ao : Nat} {vr : Nat} {sn : Nat} {tp : Nat} {pt : Nat} {zs : Nat} {bg : Nat} {fa : Int32} {c0 : Nat} (h60 : M 60 = some (cModel ad th ln on ao vr sn tp pt zs bg fa))  : Met l yX10_throwsIf wsX10_throwsIf rm_c_X10_throwsIf_0 (Pr G z ad M [.ref (ad 60), .int (nI 0), .int (nI c0)]) (vp_Si (fun r : Int32 => r = nI 0)) 0 0 (fun _ => False) := by
  refine Met.ofW (cc := cX10_throwsIf) (maxL := 3) (ret := (some .boolean)) (by decide) rfl ?_
  intro p e s m args below meth c s₁ B hml hv
  obtain ⟨rfl, hv⟩ := hv
  have hI := Iv.entry hv
  have hx := B.exec
  have hb := B.bytes
  have hr := B.returns
  have hts := atoms_spec (ws := wsX10_throwsIf) B.pre
  have hown : s.vm.findClass RX10 = some m.cls := findClass_of_methodNamed B.named
  have hlocks := B.notSynchronized
  have hl := lv_entry ([.ref (ad 60), .int (nI 0), .int (nI c0)]) (n := 3) (Nat.le_of_ble_eq_true rfl)
  rw [lg_entry_eq]
  generalize (lg_sl ([.ref (ad 60), .int (nI 0), .int (nI c0)]) ++ List.replicate (3 - (lg_sl ([.ref (ad 60), .int (nI 0), .int (nI c0)])).length) Slot.unset).toArray = ls at hl ⊢
  have hl : lv_has ls 3 [(0, .ref (ad 60)), (1, .int (nI 0)), (2, .int (nI c0))] := hl
  refine lv_iload_n hx hb dX10_throwsIf_0 rfl (lv_at hl 1 rfl) ?_
  refine lv_if_eq (tgt := 9) hx hb dX10_throwsIf_1 (by decide) (fun c_1 => ?_) (fun c_1 => ?_)
  · -- 1: nI 0 eq
    refine lv_iload_n hx hb dX10_throwsIf_9 rfl (lv_at hl 1 rfl) ?_
    exact e_Ri hx hb hr rfl hlocks (rfl) dX10_throwsIf_10
  · -- 1: nI 0 ne
    exact absurd (by decide) c_1

/-- X10_in -/
abbrev rm_c_X10_in : Room := { frames := 0, cells := 0, slots := 0, locals := 0 }
set_option maxHeartbeats 4000000 in
set_option maxRecDepth 100000 in
theorem c_X10_in (l : Launch) (G : GG) (z : Nat) (ad : Nat → Nat) (M : Mem) {x : Int32} {a : Int32} {b : Int32}   : Met l yX10_in wsX10_in rm_c_X10_in (Pr G z ad M [.int x, .int a, .int b]) (vp_Si (fun r : Int32 => r = bI (decide (a ≤ x ∧ x ≤ b)))) 0 0 (fun _ => False) := by
  refine Met.ofW (cc := cX10_in) (maxL := 3) (ret := (some .boolean)) (by decide) rfl ?_
  intro p e s m args below meth c s₁ B hml hv
  obtain ⟨rfl, hv⟩ := hv
  have hI := Iv.entry hv
  have hx := B.exec
  have hb := B.bytes
  have hr := B.returns
  have hts := atoms_spec (ws := wsX10_in) B.pre
  have hown : s.vm.findClass RX10 = some m.cls := findClass_of_methodNamed B.named
  have hlocks := B.notSynchronized
  have hl := lv_entry ([.int x, .int a, .int b]) (n := 3) (Nat.le_of_ble_eq_true rfl)
  rw [lg_entry_eq]
  generalize (lg_sl ([.int x, .int a, .int b]) ++ List.replicate (3 - (lg_sl ([.int x, .int a, .int b])).length) Slot.unset).toArray = ls at hl ⊢
  have hl : lv_has ls 3 [(0, .int x), (1, .int a), (2, .int b)] := hl
  refine lv_iload_n hx hb dX10_in_0 rfl (lv_at hl 0 rfl) ?_
  refine lv_iload_n hx hb dX10_in_1 rfl (lv_at hl 1 rfl) ?_
  refine lv_icmp_lt (tgt := 14) hx hb dX10_in_2 (by decide) (fun c_1 => ?_) (fun c_1 => ?_)
  · -- 2: x lt
    refine lv_iconst (v := nI 0) hx hb dX10_in_14 (by decide) ?_
    exact e_Ri hx hb hr rfl hlocks (dec_f (fun h => by first | exact i_lnle (by assumption) h.1 | exact i_lnle (by assumption) h.2)) dX10_in_15
  · -- 2: x ge
    refine lv_iload_n hx hb dX10_in_5 rfl (lv_at hl 0 rfl) ?_
    refine lv_iload_n hx hb dX10_in_6 rfl (lv_at hl 2 rfl) ?_
    refine lv_icmp_gt (tgt := 14) hx hb dX10_in_7 (by decide) (fun c_2 => ?_) (fun c_2 => ?_)
    · -- 7: x gt
      refine lv_iconst (v := nI 0) hx hb dX10_in_14 (by decide) ?_
      exact e_Ri hx hb hr rfl hlocks (dec_f (fun h => by first | exact i_lnle (by assumption) h.1 | exact i_lnle (by assumption) h.2)) dX10_in_15
    · -- 7: x le
      refine lv_iconst (v := nI 1) hx hb dX10_in_10 (by decide) ?_
      refine lv_goto (tgt := 15) hx hb dX10_in_11 (by decide) ?_
      exact e_Ri hx hb hr rfl hlocks (dec_t (⟨i_nlt (by assumption), i_nlt (by assumption)⟩)) dX10_in_15

/-- X10_noThing -/
abbrev rm_c_X10_noThing_0 : Room := { frames := 1, cells := 0, slots := 0, locals := 22 }
set_option maxHeartbeats 4000000 in
set_option maxRecDepth 100000 in
theorem c_X10_noThing_0 (l : Launch) (G : GG) (z : Nat) (ad : Nat → Nat) (M : Mem) {t : Nat}  (ht : t < 40) : Met l yX10_noThing wsX10_noThing rm_c_X10_noThing_0 (Pr G z ad M [.int (nI t)]) (vp_Si (fun r : Int32 => r = nI 0)) 0 0 (fun _ => False) := by
  refine Met.ofW (cc := cX10_noThing) (maxL := 1) (ret := (some .boolean)) (by decide) rfl ?_
  intro p e s m args below meth c s₁ B hml hv
  obtain ⟨rfl, hv⟩ := hv
  have hI := Iv.entry hv
  have hx := B.exec
  have hb := B.bytes
  have hr := B.returns
  have hts := atoms_spec (ws := wsX10_noThing) B.pre
  have hown : s.vm.findClass RX10 = some m.cls := findClass_of_methodNamed B.named
  have hlocks := B.notSynchronized
  have hl := lv_entry ([.int (nI t)]) (n := 1) (Nat.le_of_ble_eq_true rfl)
  rw [lg_entry_eq]
  generalize (lg_sl ([.int (nI t)]) ++ List.replicate (1 - (lg_sl ([.int (nI t)])).length) Slot.unset).toArray = ls at hl ⊢
  have hl : lv_has ls 1 [(0, .int (nI t))] := hl
  refine lv_iload_n hx hb dX10_noThing_0 rfl (lv_at hl 0 rfl) ?_
  refine lv_iconst (v := nI 0) hx hb dX10_noThing_1 (by decide) ?_
  refine lv_bipush (v := nI 39) hx hb dX10_noThing_2 (by decide) ?_
  refine k_Ri (va_runS (As := [.int (nI t), .int (nI 0), .int (nI 39)]) (rest := []) ⟨hx, hb, hml, hown, hts⟩ (c_X10_in l G z ad M (x := nI t) (a := nI 0) (b := nI 39) ) (va_cwS 3 hts (gS (lwg_of t_1135 rfl) (lwg_of t_1136 rfl) (lwg_of t_13 rfl) (lwg_of t_1137 rfl)) rfl rfl rfl (by decide +kernel) ⟨Nat.le_of_ble_eq_true rfl, Nat.le_of_ble_eq_true rfl⟩) hI.preS rfl rfl hl.1 rfl (lv_room (Nat.le_of_ble_eq_true rfl)) dX10_noThing_4 ⟨Nat.le_of_ble_eq_true rfl, Nat.le_of_ble_eq_true rfl⟩) (fun _ h => h) (fun r_1 hp_2 => ?_)
  rw [hp_2]
  refine n_eq (show _ = nI 1 from by rw [inB_t (by omega) (by omega)]; rfl) ?_
  refine lv_if_ne (tgt := 14) hx hb dX10_noThing_7 (by decide) (fun c_3 => ?_) (fun c_3 => ?_)
  · -- 7: nI 1 ne
    refine lv_iconst (v := nI 0) hx hb dX10_noThing_14 (by decide) ?_
    exact e_Ri hx hb hr rfl hlocks (rfl) dX10_noThing_15
  · -- 7: nI 1 eq
    exact absurd c_3 (by decide)

/-- X10_noThing -/
abbrev rm_c_X10_noThing_1 : Room := { frames := 1, cells := 0, slots := 0, locals := 22 }
set_option maxHeartbeats 4000000 in
set_option maxRecDepth 100000 in
theorem c_X10_noThing_1 (l : Launch) (G : GG) (z : Nat) (ad : Nat → Nat) (M : Mem) {x : Int32}  (hbad : x < 0 ∨ ¬ x < nI 40) : Met l yX10_noThing wsX10_noThing rm_c_X10_noThing_1 (Pr G z ad M [.int x]) (vp_Si (fun r : Int32 => r = nI 1)) 0 0 (fun _ => False) := by
  refine Met.ofW (cc := cX10_noThing) (maxL := 1) (ret := (some .boolean)) (by decide) rfl ?_
  intro p e s m args below meth c s₁ B hml hv
  obtain ⟨rfl, hv⟩ := hv
  have hI := Iv.entry hv
  have hx := B.exec
  have hb := B.bytes
  have hr := B.returns
  have hts := atoms_spec (ws := wsX10_noThing) B.pre
  have hown : s.vm.findClass RX10 = some m.cls := findClass_of_methodNamed B.named
  have hlocks := B.notSynchronized
  have hl := lv_entry ([.int x]) (n := 1) (Nat.le_of_ble_eq_true rfl)
  rw [lg_entry_eq]
  generalize (lg_sl ([.int x]) ++ List.replicate (1 - (lg_sl ([.int x])).length) Slot.unset).toArray = ls at hl ⊢
  have hl : lv_has ls 1 [(0, .int x)] := hl
  refine lv_iload_n hx hb dX10_noThing_0 rfl (lv_at hl 0 rfl) ?_
  refine lv_iconst (v := nI 0) hx hb dX10_noThing_1 (by decide) ?_
  refine lv_bipush (v := nI 39) hx hb dX10_noThing_2 (by decide) ?_
  refine k_Ri (va_runS (As := [.int x, .int (nI 0), .int (nI 39)]) (rest := []) ⟨hx, hb, hml, hown, hts⟩ (c_X10_in l G z ad M (x := x) (a := nI 0) (b := nI 39) ) (va_cwS 3 hts (gS (lwg_of t_1135 rfl) (lwg_of t_1136 rfl) (lwg_of t_13 rfl) (lwg_of t_1137 rfl)) rfl rfl rfl (by decide +kernel) ⟨Nat.le_of_ble_eq_true rfl, Nat.le_of_ble_eq_true rfl⟩) hI.preS rfl rfl hl.1 rfl (lv_room (Nat.le_of_ble_eq_true rfl)) dX10_noThing_4 ⟨Nat.le_of_ble_eq_true rfl, Nat.le_of_ble_eq_true rfl⟩) (fun _ h => h) (fun r_1 hp_2 => ?_)
  rw [hp_2]
  refine n_eq (show _ = nI 0 from by rw [inB_f (k := 39) hbad (by decide)]; rfl) ?_
  refine lv_if_ne (tgt := 14) hx hb dX10_noThing_7 (by decide) (fun c_3 => ?_) (fun c_3 => ?_)
  · -- 7: nI 0 ne
    exact absurd (by decide) c_3
  · -- 7: nI 0 eq
    refine lv_iconst (v := nI 1) hx hb dX10_noThing_10 (by decide) ?_
    refine lv_goto (tgt := 15) hx hb dX10_noThing_11 (by decide) ?_
    exact e_Ri hx hb hr rfl hlocks (rfl) dX10_noThing_15

/-- X10_noRole -/
abbrev rm_c_X10_noRole_0 : Room := { frames := 1, cells := 0, slots := 0, locals := 22 }
set_option maxHeartbeats 4000000 in
set_option maxRecDepth 100000 in
theorem c_X10_noRole_0 (l : Launch) (G : GG) (z : Nat) (ad : Nat → Nat) (M : Mem) {t : Nat}  (ht : t < 6) : Met l yX10_noRole wsX10_noRole rm_c_X10_noRole_0 (Pr G z ad M [.int (nI t)]) (vp_Si (fun r : Int32 => r = nI 0)) 0 0 (fun _ => False) := by
  refine Met.ofW (cc := cX10_noRole) (maxL := 1) (ret := (some .boolean)) (by decide) rfl ?_
  intro p e s m args below meth c s₁ B hml hv
  obtain ⟨rfl, hv⟩ := hv
  have hI := Iv.entry hv
  have hx := B.exec
  have hb := B.bytes
  have hr := B.returns
  have hts := atoms_spec (ws := wsX10_noRole) B.pre
  have hown : s.vm.findClass RX10 = some m.cls := findClass_of_methodNamed B.named
  have hlocks := B.notSynchronized
  have hl := lv_entry ([.int (nI t)]) (n := 1) (Nat.le_of_ble_eq_true rfl)
  rw [lg_entry_eq]
  generalize (lg_sl ([.int (nI t)]) ++ List.replicate (1 - (lg_sl ([.int (nI t)])).length) Slot.unset).toArray = ls at hl ⊢
  have hl : lv_has ls 1 [(0, .int (nI t))] := hl
  refine lv_iload_n hx hb dX10_noRole_0 rfl (lv_at hl 0 rfl) ?_
  refine lv_iconst (v := nI 0) hx hb dX10_noRole_1 (by decide) ?_
  refine lv_iconst (v := nI 5) hx hb dX10_noRole_2 (by decide) ?_
  refine k_Ri (va_runS (As := [.int (nI t), .int (nI 0), .int (nI 5)]) (rest := []) ⟨hx, hb, hml, hown, hts⟩ (c_X10_in l G z ad M (x := nI t) (a := nI 0) (b := nI 5) ) (va_cwS 3 hts (gS (lwg_of t_1135 rfl) (lwg_of t_1136 rfl) (lwg_of t_13 rfl) (lwg_of t_1137 rfl)) rfl rfl rfl (by decide +kernel) ⟨Nat.le_of_ble_eq_true rfl, Nat.le_of_ble_eq_true rfl⟩) hI.preS rfl rfl hl.1 rfl (lv_room (Nat.le_of_ble_eq_true rfl)) dX10_noRole_3 ⟨Nat.le_of_ble_eq_true rfl, Nat.le_of_ble_eq_true rfl⟩) (fun _ h => h) (fun r_1 hp_2 => ?_)
  rw [hp_2]
  refine n_eq (show _ = nI 1 from by rw [inB_t (by omega) (by omega)]; rfl) ?_
  refine lv_if_ne (tgt := 13) hx hb dX10_noRole_6 (by decide) (fun c_3 => ?_) (fun c_3 => ?_)
  · -- 6: nI 1 ne
    refine lv_iconst (v := nI 0) hx hb dX10_noRole_13 (by decide) ?_
    exact e_Ri hx hb hr rfl hlocks (rfl) dX10_noRole_14
  · -- 6: nI 1 eq
    exact absurd c_3 (by decide)

/-- X10_noRole -/
abbrev rm_c_X10_noRole_1 : Room := { frames := 1, cells := 0, slots := 0, locals := 22 }
set_option maxHeartbeats 4000000 in
set_option maxRecDepth 100000 in
theorem c_X10_noRole_1 (l : Launch) (G : GG) (z : Nat) (ad : Nat → Nat) (M : Mem) {x : Int32}  (hbad : x < 0 ∨ ¬ x < nI 6) : Met l yX10_noRole wsX10_noRole rm_c_X10_noRole_1 (Pr G z ad M [.int x]) (vp_Si (fun r : Int32 => r = nI 1)) 0 0 (fun _ => False) := by
  refine Met.ofW (cc := cX10_noRole) (maxL := 1) (ret := (some .boolean)) (by decide) rfl ?_
  intro p e s m args below meth c s₁ B hml hv
  obtain ⟨rfl, hv⟩ := hv
  have hI := Iv.entry hv
  have hx := B.exec
  have hb := B.bytes
  have hr := B.returns
  have hts := atoms_spec (ws := wsX10_noRole) B.pre
  have hown : s.vm.findClass RX10 = some m.cls := findClass_of_methodNamed B.named
  have hlocks := B.notSynchronized
  have hl := lv_entry ([.int x]) (n := 1) (Nat.le_of_ble_eq_true rfl)
  rw [lg_entry_eq]
  generalize (lg_sl ([.int x]) ++ List.replicate (1 - (lg_sl ([.int x])).length) Slot.unset).toArray = ls at hl ⊢
  have hl : lv_has ls 1 [(0, .int x)] := hl
  refine lv_iload_n hx hb dX10_noRole_0 rfl (lv_at hl 0 rfl) ?_
  refine lv_iconst (v := nI 0) hx hb dX10_noRole_1 (by decide) ?_
  refine lv_iconst (v := nI 5) hx hb dX10_noRole_2 (by decide) ?_
  refine k_Ri (va_runS (As := [.int x, .int (nI 0), .int (nI 5)]) (rest := []) ⟨hx, hb, hml, hown, hts⟩ (c_X10_in l G z ad M (x := x) (a := nI 0) (b := nI 5) ) (va_cwS 3 hts (gS (lwg_of t_1135 rfl) (lwg_of t_1136 rfl) (lwg_of t_13 rfl) (lwg_of t_1137 rfl)) rfl rfl rfl (by decide +kernel) ⟨Nat.le_of_ble_eq_true rfl, Nat.le_of_ble_eq_true rfl⟩) hI.preS rfl rfl hl.1 rfl (lv_room (Nat.le_of_ble_eq_true rfl)) dX10_noRole_3 ⟨Nat.le_of_ble_eq_true rfl, Nat.le_of_ble_eq_true rfl⟩) (fun _ h => h) (fun r_1 hp_2 => ?_)
  rw [hp_2]
  refine n_eq (show _ = nI 0 from by rw [inB_f (k := 5) hbad (by decide)]; rfl) ?_
  refine lv_if_ne (tgt := 13) hx hb dX10_noRole_6 (by decide) (fun c_3 => ?_) (fun c_3 => ?_)
  · -- 6: nI 0 ne
    exact absurd (by decide) c_3
  · -- 6: nI 0 eq
    refine lv_iconst (v := nI 1) hx hb dX10_noRole_9 (by decide) ?_
    refine lv_goto (tgt := 14) hx hb dX10_noRole_10 (by decide) ?_
    exact e_Ri hx hb hr rfl hlocks (rfl) dX10_noRole_14

/-- X10_noKind -/
abbrev rm_c_X10_noKind_0 : Room := { frames := 1, cells := 0, slots := 0, locals := 22 }
set_option maxHeartbeats 4000000 in
set_option maxRecDepth 100000 in
theorem c_X10_noKind_0 (l : Launch) (G : GG) (z : Nat) (ad : Nat → Nat) (M : Mem) {t : Nat}  (ht : t < 6) : Met l yX10_noKind wsX10_noKind rm_c_X10_noKind_0 (Pr G z ad M [.int (nI t)]) (vp_Si (fun r : Int32 => r = nI 0)) 0 0 (fun _ => False) := by
  refine Met.ofW (cc := cX10_noKind) (maxL := 1) (ret := (some .boolean)) (by decide) rfl ?_
  intro p e s m args below meth c s₁ B hml hv
  obtain ⟨rfl, hv⟩ := hv
  have hI := Iv.entry hv
  have hx := B.exec
  have hb := B.bytes
  have hr := B.returns
  have hts := atoms_spec (ws := wsX10_noKind) B.pre
  have hown : s.vm.findClass RX10 = some m.cls := findClass_of_methodNamed B.named
  have hlocks := B.notSynchronized
  have hl := lv_entry ([.int (nI t)]) (n := 1) (Nat.le_of_ble_eq_true rfl)
  rw [lg_entry_eq]
  generalize (lg_sl ([.int (nI t)]) ++ List.replicate (1 - (lg_sl ([.int (nI t)])).length) Slot.unset).toArray = ls at hl ⊢
  have hl : lv_has ls 1 [(0, .int (nI t))] := hl
  refine lv_iload_n hx hb dX10_noKind_0 rfl (lv_at hl 0 rfl) ?_
  refine lv_iconst (v := nI 0) hx hb dX10_noKind_1 (by decide) ?_
  refine lv_iconst (v := nI 5) hx hb dX10_noKind_2 (by decide) ?_
  refine k_Ri (va_runS (As := [.int (nI t), .int (nI 0), .int (nI 5)]) (rest := []) ⟨hx, hb, hml, hown, hts⟩ (c_X10_in l G z ad M (x := nI t) (a := nI 0) (b := nI 5) ) (va_cwS 3 hts (gS (lwg_of t_1135 rfl) (lwg_of t_1136 rfl) (lwg_of t_13 rfl) (lwg_of t_1137 rfl)) rfl rfl rfl (by decide +kernel) ⟨Nat.le_of_ble_eq_true rfl, Nat.le_of_ble_eq_true rfl⟩) hI.preS rfl rfl hl.1 rfl (lv_room (Nat.le_of_ble_eq_true rfl)) dX10_noKind_3 ⟨Nat.le_of_ble_eq_true rfl, Nat.le_of_ble_eq_true rfl⟩) (fun _ h => h) (fun r_1 hp_2 => ?_)
  rw [hp_2]
  refine n_eq (show _ = nI 1 from by rw [inB_t (by omega) (by omega)]; rfl) ?_
  refine lv_if_ne (tgt := 13) hx hb dX10_noKind_6 (by decide) (fun c_3 => ?_) (fun c_3 => ?_)
  · -- 6: nI 1 ne
    refine lv_iconst (v := nI 0) hx hb dX10_noKind_13 (by decide) ?_
    exact e_Ri hx hb hr rfl hlocks (rfl) dX10_noKind_14
  · -- 6: nI 1 eq
    exact absurd c_3 (by decide)

/-- X10_noKind -/
abbrev rm_c_X10_noKind_1 : Room := { frames := 1, cells := 0, slots := 0, locals := 22 }
set_option maxHeartbeats 4000000 in
set_option maxRecDepth 100000 in
theorem c_X10_noKind_1 (l : Launch) (G : GG) (z : Nat) (ad : Nat → Nat) (M : Mem) {x : Int32}  (hbad : x < 0 ∨ ¬ x < nI 6) : Met l yX10_noKind wsX10_noKind rm_c_X10_noKind_1 (Pr G z ad M [.int x]) (vp_Si (fun r : Int32 => r = nI 1)) 0 0 (fun _ => False) := by
  refine Met.ofW (cc := cX10_noKind) (maxL := 1) (ret := (some .boolean)) (by decide) rfl ?_
  intro p e s m args below meth c s₁ B hml hv
  obtain ⟨rfl, hv⟩ := hv
  have hI := Iv.entry hv
  have hx := B.exec
  have hb := B.bytes
  have hr := B.returns
  have hts := atoms_spec (ws := wsX10_noKind) B.pre
  have hown : s.vm.findClass RX10 = some m.cls := findClass_of_methodNamed B.named
  have hlocks := B.notSynchronized
  have hl := lv_entry ([.int x]) (n := 1) (Nat.le_of_ble_eq_true rfl)
  rw [lg_entry_eq]
  generalize (lg_sl ([.int x]) ++ List.replicate (1 - (lg_sl ([.int x])).length) Slot.unset).toArray = ls at hl ⊢
  have hl : lv_has ls 1 [(0, .int x)] := hl
  refine lv_iload_n hx hb dX10_noKind_0 rfl (lv_at hl 0 rfl) ?_
  refine lv_iconst (v := nI 0) hx hb dX10_noKind_1 (by decide) ?_
  refine lv_iconst (v := nI 5) hx hb dX10_noKind_2 (by decide) ?_
  refine k_Ri (va_runS (As := [.int x, .int (nI 0), .int (nI 5)]) (rest := []) ⟨hx, hb, hml, hown, hts⟩ (c_X10_in l G z ad M (x := x) (a := nI 0) (b := nI 5) ) (va_cwS 3 hts (gS (lwg_of t_1135 rfl) (lwg_of t_1136 rfl) (lwg_of t_13 rfl) (lwg_of t_1137 rfl)) rfl rfl rfl (by decide +kernel) ⟨Nat.le_of_ble_eq_true rfl, Nat.le_of_ble_eq_true rfl⟩) hI.preS rfl rfl hl.1 rfl (lv_room (Nat.le_of_ble_eq_true rfl)) dX10_noKind_3 ⟨Nat.le_of_ble_eq_true rfl, Nat.le_of_ble_eq_true rfl⟩) (fun _ h => h) (fun r_1 hp_2 => ?_)
  rw [hp_2]
  refine n_eq (show _ = nI 0 from by rw [inB_f (k := 5) hbad (by decide)]; rfl) ?_
  refine lv_if_ne (tgt := 13) hx hb dX10_noKind_6 (by decide) (fun c_3 => ?_) (fun c_3 => ?_)
  · -- 6: nI 0 ne
    exact absurd (by decide) c_3
  · -- 6: nI 0 eq
    refine lv_iconst (v := nI 1) hx hb dX10_noKind_9 (by decide) ?_
    refine lv_goto (tgt := 14) hx hb dX10_noKind_10 (by decide) ?_
    exact e_Ri hx hb hr rfl hlocks (rfl) dX10_noKind_14

/-- X10_noLine -/
abbrev rm_c_X10_noLine_0 : Room := { frames := 1, cells := 0, slots := 0, locals := 22 }
set_option maxHeartbeats 4000000 in
set_option maxRecDepth 100000 in
theorem c_X10_noLine_0 (l : Launch) (G : GG) (z : Nat) (ad : Nat → Nat) (M : Mem) {th : Nat} {ln : Nat} {on : Nat} {ao : Nat} {vr : Nat} {sn : Nat} {tp : Nat} {pt : Nat} {zs : Nat} {bg : Nat} {fa : Int32} {t : Nat} (h60 : M 60 = some (cModel ad th ln on ao vr sn tp pt zs bg fa)) (ht : t < ln) (hln : ln ≤ 120) : Met l yX10_noLine wsX10_noLine rm_c_X10_noLine_0 (Pr G z ad M [.ref (ad 60), .int (nI t)]) (vp_Si (fun r : Int32 => r = nI 0)) 0 0 (fun _ => False) := by
  refine Met.ofW (cc := cX10_noLine) (maxL := 2) (ret := (some .boolean)) (by decide) rfl ?_
  intro p e s m args below meth c s₁ B hml hv
  obtain ⟨rfl, hv⟩ := hv
  have hI := Iv.entry hv
  have hx := B.exec
  have hb := B.bytes
  have hr := B.returns
  have hts := atoms_spec (ws := wsX10_noLine) B.pre
  have hown : s.vm.findClass RX10 = some m.cls := findClass_of_methodNamed B.named
  have hlocks := B.notSynchronized
  have i_RX10 : ∀ w ∈ u_ws RX10 TX10 38, w ∈ wsX10_noLine := fun w h => List.mem_cons_of_mem _ (iu_X10 w h)
  have f_108 := hts _ (List.mem_cons_of_mem _ (lwg_of t_1024 rfl))
  have hl := lv_entry ([.ref (ad 60), .int (nI t)]) (n := 2) (Nat.le_of_ble_eq_true rfl)
  rw [lg_entry_eq]
  generalize (lg_sl ([.ref (ad 60), .int (nI t)]) ++ List.replicate (2 - (lg_sl ([.ref (ad 60), .int (nI t)])).length) Slot.unset).toArray = ls at hl ⊢
  have hl : lv_has ls 2 [(0, .ref (ad 60)), (1, .int (nI t))] := hl
  refine lv_iload_n hx hb dX10_noLine_0 rfl (lv_at hl 1 rfl) ?_
  refine lv_iconst (v := nI 0) hx hb dX10_noLine_1 (by decide) ?_
  refine lv_aload_n hx hb dX10_noLine_2 rfl (lv_at hl 0 rfl) ?_
  refine h_get (C := RX10) (T := TX10) (N := 38) hx hb hts i_RX10 hown hI h60 rfl 11 (by decide) f_108 rfl rfl dX10_noLine_3 ?_
  refine lv_iconst (v := nI 1) hx hb dX10_noLine_6 (by decide) ?_
  refine lv_isub hx hb dX10_noLine_7 ?_
  refine n_eq (pk_sub (a := ln) (b := 1) (by omega)) ?_
  refine k_Ri (va_runS (As := [.int (nI t), .int (nI 0), .int (nI (ln - 1))]) (rest := []) ⟨hx, hb, hml, hown, hts⟩ (c_X10_in l G z ad M (x := nI t) (a := nI 0) (b := nI (ln - 1)) ) (va_cwS 3 hts (gS (lwg_of t_1135 rfl) (lwg_of t_1136 rfl) (lwg_of t_13 rfl) (lwg_of t_1137 rfl)) rfl rfl rfl (by decide +kernel) ⟨Nat.le_of_ble_eq_true rfl, Nat.le_of_ble_eq_true rfl⟩) hI.preS rfl rfl hl.1 rfl (lv_room (Nat.le_of_ble_eq_true rfl)) dX10_noLine_8 ⟨Nat.le_of_ble_eq_true rfl, Nat.le_of_ble_eq_true rfl⟩) (fun _ h => h) (fun r_1 hp_2 => ?_)
  rw [hp_2]
  refine n_eq (show _ = nI 1 from by rw [inB_t (by omega) (by omega)]; rfl) ?_
  refine lv_if_ne (tgt := 18) hx hb dX10_noLine_11 (by decide) (fun c_3 => ?_) (fun c_3 => ?_)
  · -- 11: nI 1 ne
    refine lv_iconst (v := nI 0) hx hb dX10_noLine_18 (by decide) ?_
    exact e_Ri hx hb hr rfl hlocks (rfl) dX10_noLine_19
  · -- 11: nI 1 eq
    exact absurd c_3 (by decide)

/-- X10_noLine -/
abbrev rm_c_X10_noLine_1 : Room := { frames := 1, cells := 0, slots := 0, locals := 22 }
set_option maxHeartbeats 4000000 in
set_option maxRecDepth 100000 in
theorem c_X10_noLine_1 (l : Launch) (G : GG) (z : Nat) (ad : Nat → Nat) (M : Mem) {th : Nat} {ln : Nat} {on : Nat} {ao : Nat} {vr : Nat} {sn : Nat} {tp : Nat} {pt : Nat} {zs : Nat} {bg : Nat} {fa : Int32} {x : Int32} (h60 : M 60 = some (cModel ad th ln on ao vr sn tp pt zs bg fa)) (hbad : x < 0 ∨ ¬ x < nI ln) (hln : ln ≤ 120) : Met l yX10_noLine wsX10_noLine rm_c_X10_noLine_1 (Pr G z ad M [.ref (ad 60), .int x]) (vp_Si (fun r : Int32 => r = nI 1)) 0 0 (fun _ => False) := by
  refine Met.ofW (cc := cX10_noLine) (maxL := 2) (ret := (some .boolean)) (by decide) rfl ?_
  intro p e s m args below meth c s₁ B hml hv
  obtain ⟨rfl, hv⟩ := hv
  have hI := Iv.entry hv
  have hx := B.exec
  have hb := B.bytes
  have hr := B.returns
  have hts := atoms_spec (ws := wsX10_noLine) B.pre
  have hown : s.vm.findClass RX10 = some m.cls := findClass_of_methodNamed B.named
  have hlocks := B.notSynchronized
  have i_RX10 : ∀ w ∈ u_ws RX10 TX10 38, w ∈ wsX10_noLine := fun w h => List.mem_cons_of_mem _ (iu_X10 w h)
  have f_108 := hts _ (List.mem_cons_of_mem _ (lwg_of t_1024 rfl))
  have hl := lv_entry ([.ref (ad 60), .int x]) (n := 2) (Nat.le_of_ble_eq_true rfl)
  rw [lg_entry_eq]
  generalize (lg_sl ([.ref (ad 60), .int x]) ++ List.replicate (2 - (lg_sl ([.ref (ad 60), .int x])).length) Slot.unset).toArray = ls at hl ⊢
  have hl : lv_has ls 2 [(0, .ref (ad 60)), (1, .int x)] := hl
  refine lv_iload_n hx hb dX10_noLine_0 rfl (lv_at hl 1 rfl) ?_
  refine lv_iconst (v := nI 0) hx hb dX10_noLine_1 (by decide) ?_
  refine lv_aload_n hx hb dX10_noLine_2 rfl (lv_at hl 0 rfl) ?_
  refine h_get (C := RX10) (T := TX10) (N := 38) hx hb hts i_RX10 hown hI h60 rfl 11 (by decide) f_108 rfl rfl dX10_noLine_3 ?_
  refine lv_iconst (v := nI 1) hx hb dX10_noLine_6 (by decide) ?_
  refine lv_isub hx hb dX10_noLine_7 ?_
  refine n_eq (show _ = nI ln - nI 1 from rfl) ?_
  refine k_Ri (va_runS (As := [.int x, .int (nI 0), .int (nI ln - nI 1)]) (rest := []) ⟨hx, hb, hml, hown, hts⟩ (c_X10_in l G z ad M (x := x) (a := nI 0) (b := nI ln - nI 1) ) (va_cwS 3 hts (gS (lwg_of t_1135 rfl) (lwg_of t_1136 rfl) (lwg_of t_13 rfl) (lwg_of t_1137 rfl)) rfl rfl rfl (by decide +kernel) ⟨Nat.le_of_ble_eq_true rfl, Nat.le_of_ble_eq_true rfl⟩) hI.preS rfl rfl hl.1 rfl (lv_room (Nat.le_of_ble_eq_true rfl)) dX10_noLine_8 ⟨Nat.le_of_ble_eq_true rfl, Nat.le_of_ble_eq_true rfl⟩) (fun _ h => h) (fun r_1 hp_2 => ?_)
  rw [hp_2]
  refine n_eq (show _ = nI 0 from by rw [inL_f hbad (by omega)]; rfl) ?_
  refine lv_if_ne (tgt := 18) hx hb dX10_noLine_11 (by decide) (fun c_3 => ?_) (fun c_3 => ?_)
  · -- 11: nI 0 ne
    exact absurd (by decide) c_3
  · -- 11: nI 0 eq
    refine lv_iconst (v := nI 1) hx hb dX10_noLine_14 (by decide) ?_
    refine lv_goto (tgt := 19) hx hb dX10_noLine_15 (by decide) ?_
    exact e_Ri hx hb hr rfl hlocks (rfl) dX10_noLine_19

/-- X10_ends -/
abbrev rm_c_X10_ends : Room := { frames := 2, cells := 0, slots := 0, locals := 42 }
set_option maxHeartbeats 4000000 in
set_option maxRecDepth 100000 in
theorem c_X10_ends (l : Launch) (G : GG) (z : Nat) (ad : Nat → Nat) (M : Mem) {th : Nat} {ln : Nat} {on : Nat} {ao : Nat} {vr : Nat} {sn : Nat} {tp : Nat} {pt : Nat} {zs : Nat} {bg : Nat} {fa : Int32} {le : Nat → Nat} {mo : Nat → Nat} {kd : Nat} {x : Nat} {a : Nat} {b : Nat} (h60 : M 60 = some (cModel ad th ln on ao vr sn tp pt zs bg fa)) (h61 : M 61 = some (aI G 36 (nF le))) (h62 : M 62 = some (aI G 36 (nF mo))) (hkd : kd < 6) (hx6 : x < 6) (hab : a ≤ b ∧ b ≤ 6) : Met l yX10_ends wsX10_ends rm_c_X10_ends (Pr G z ad M [.ref (ad 60), .int (nI kd), .int (nI x), .int (nI a), .int (nI b)]) (Nv G z ad (fun (M' : Mem) => M' 60 = some (cModel ad 0 ln on ao vr sn tp pt zs bg fa) ∧ M' 61 = some (aI G 36 (nF (va_up le (6 * kd + x) a))) ∧ M' 62 = some (aI G 36 (nF (va_up mo (6 * kd + x) b))) ∧ (∀ j : Nat, j ≠ 60 → j ≠ 61 → j ≠ 62 → M' j = M j))) 0 0 (fr z) := by
  refine Met.ofW (cc := cX10_ends) (maxL := 5) (ret := none) (by decide) rfl ?_
  intro p e s m args below meth c s₁ B hml hv
  obtain ⟨rfl, hv⟩ := hv
  have hI := Iv.entry hv
  have hx := B.exec
  have hb := B.bytes
  have hr := B.returns
  have hts := atoms_spec (ws := wsX10_ends) B.pre
  have hown : s.vm.findClass RX10 = some m.cls := findClass_of_methodNamed B.named
  have hlocks := B.notSynchronized
  have f_3 := hts _ (List.mem_cons_of_mem _ (lwg_of t_1013 rfl))
  have i_RX10 : ∀ w ∈ u_ws RX10 TX10 38, w ∈ wsX10_ends := fun w h => List.mem_cons_of_mem _ (iu_X10 w h)
  have f_13 := hts _ (List.mem_cons_of_mem _ (lwg_of t_1014 rfl))
  have f_17 := hts _ (List.mem_cons_of_mem _ (lwg_of t_1015 rfl))
  have hl := lv_entry ([.ref (ad 60), .int (nI kd), .int (nI x), .int (nI a), .int (nI b)]) (n := 5) (Nat.le_of_ble_eq_true rfl)
  rw [lg_entry_eq]
  generalize (lg_sl ([.ref (ad 60), .int (nI kd), .int (nI x), .int (nI a), .int (nI b)]) ++ List.replicate (5 - (lg_sl ([.ref (ad 60), .int (nI kd), .int (nI x), .int (nI a), .int (nI b)])).length) Slot.unset).toArray = ls at hl ⊢
  have hl : lv_has ls 5 [(0, .ref (ad 60)), (1, .int (nI kd)), (2, .int (nI x)), (3, .int (nI a)), (4, .int (nI b))] := hl
  refine lv_aload_n hx hb dX10_ends_0 rfl (lv_at hl 0 rfl) ?_
  refine lv_iconst (v := nI 0) hx hb dX10_ends_1 (by decide) ?_
  refine h_put (C := RX10) (T := TX10) (N := 38) hx hb hts i_RX10 tyX10 tyX10_ok nmX10 hown hI h60 rfl 0 (by decide) f_3 rfl rfl rfl rfl (Nat.le_of_ble_eq_true rfl) dX10_ends_2 (fun M_1 H_2 locs_3 eM_4 hI => ?_)
  have hm_5 : M_1 60 = some (cModel ad 0 ln on ao vr sn tp pt zs bg fa) := by rw [eM_4]; exact va_up_self _ _ _
  have hm_6 : M_1 61 = some (aI G 36 (nF le)) := by rw [eM_4, va_up_ne _ _ (by decide)]; exact h61
  have hm_7 : M_1 62 = some (aI G 36 (nF mo)) := by rw [eM_4, va_up_ne _ _ (by decide)]; exact h62
  have hF_8 : ∀ j : Nat, j ≠ 60 → M_1 j = M j := fun j q0 => by rw [eM_4, va_up_ne _ _ q0]
  refine lv_aload_n hx hb dX10_ends_5 rfl (lv_at hl 0 rfl) ?_
  refine lv_iload_n hx hb dX10_ends_6 rfl (lv_at hl 1 rfl) ?_
  refine k_Ri (va_runS (As := [.int (nI kd)]) (rest := [.ref (ad 60)]) ⟨hx, hb, hml, hown, hts⟩ (c_X10_noKind_0 l G z ad M_1 (t := kd) (by omega)) (va_cwS 1 hts (gS (lwg_of t_1132 rfl) (lwg_of t_1133 rfl) (lwg_of t_13 rfl) (lwg_of t_1134 rfl)) rfl rfl rfl (by decide +kernel) ⟨Nat.le_of_ble_eq_true rfl, Nat.le_of_ble_eq_true rfl⟩) hI.preS rfl rfl hl.1 rfl (lv_room (Nat.le_of_ble_eq_true rfl)) dX10_ends_7 ⟨Nat.le_of_ble_eq_true rfl, Nat.le_of_ble_eq_true rfl⟩) (fun _ h => h) (fun r_9 hp_10 => ?_)
  rw [hp_10]
  refine lv_if_ne (tgt := 20) hx hb dX10_ends_10 (by decide) (fun c_11 => ?_) (fun c_11 => ?_)
  · -- 10: nI 0 ne
    exact absurd (by decide) c_11
  · -- 10: nI 0 eq
    refine lv_iload_n hx hb dX10_ends_13 rfl (lv_at hl 2 rfl) ?_
    refine k_Ri (va_runS (As := [.int (nI x)]) (rest := [.ref (ad 60)]) ⟨hx, hb, hml, hown, hts⟩ (c_X10_noRole_0 l G z ad M_1 (t := x) (by omega)) (va_cwS 1 hts (gS (lwg_of t_1138 rfl) (lwg_of t_1139 rfl) (lwg_of t_13 rfl) (lwg_of t_1140 rfl)) rfl rfl rfl (by decide +kernel) ⟨Nat.le_of_ble_eq_true rfl, Nat.le_of_ble_eq_true rfl⟩) hI.preS rfl rfl hl.1 rfl (lv_room (Nat.le_of_ble_eq_true rfl)) dX10_ends_14 ⟨Nat.le_of_ble_eq_true rfl, Nat.le_of_ble_eq_true rfl⟩) (fun _ h => h) (fun r_12 hp_13 => ?_)
    rw [hp_13]
    refine lv_if_eq (tgt := 24) hx hb dX10_ends_17 (by decide) (fun c_14 => ?_) (fun c_14 => ?_)
    · -- 17: nI 0 eq
      refine lv_iconst (v := nI 0) hx hb dX10_ends_24 (by decide) ?_
      refine lv_iconst (v := nI 1) hx hb dX10_ends_25 (by decide) ?_
      refine k_Ri (va_runV (As := [.int (nI 0), .int (nI 1)]) (rest := []) ⟨hx, hb, hml, hown, hts⟩ (c_X10_throwsIf_0 l G z ad M_1 (th := 0) (ln := ln) (on := on) (ao := ao) (vr := vr) (sn := sn) (tp := tp) (pt := pt) (zs := zs) (bg := bg) (fa := fa) (c0 := 1) hm_5) (cwV 2 hts (gV (lwg_of t_1141 rfl) (lwg_of t_1143 rfl) (lwg_of ts_23 rfl) (lwg_of t_13 rfl) (lwg_of t_1144 rfl)) rfl rfl rfl (by decide +kernel) ⟨Nat.le_of_ble_eq_true rfl, Nat.le_of_ble_eq_true rfl⟩) (hI.preV hm_5 rfl) rfl rfl hl.1 rfl (lv_room (Nat.le_of_ble_eq_true rfl)) dX10_ends_26 ⟨Nat.le_of_ble_eq_true rfl, Nat.le_of_ble_eq_true rfl⟩) (fun _ h => h) (fun r_15 hp_16 => ?_)
      rw [hp_16]
      refine lv_if_ne (tgt := 62) hx hb dX10_ends_29 (by decide) (fun c_17 => ?_) (fun c_17 => ?_)
      · -- 29: nI 0 ne
        exact absurd (by decide) c_17
      · -- 29: nI 0 eq
        refine lv_aload_n hx hb dX10_ends_32 rfl (lv_at hl 0 rfl) ?_
        refine lv_iload_n hx hb dX10_ends_33 rfl (lv_at hl 3 rfl) ?_
        refine lv_if_lt (tgt := 50) hx hb dX10_ends_34 (by decide) (fun c_18 => ?_) (fun c_18 => ?_)
        · -- 34: nI a lt
          have c_18 : a < 0 := (nI_ltI (a := a) (b := 0) (by omega) (by omega)).mp (c_18)
          omega
        · -- 34: nI a ge
          have c_18 : 0 ≤ a := by have h := mt (nI_ltI (a := a) (b := 0) (by omega) (by omega)).mpr c_18; omega
          refine lv_iload hx hb dX10_ends_37 (lv_at hl 4 rfl) ?_
          refine lv_iload_n hx hb dX10_ends_39 rfl (lv_at hl 3 rfl) ?_
          refine lv_icmp_lt (tgt := 50) hx hb dX10_ends_40 (by decide) (fun c_19 => ?_) (fun c_19 => ?_)
          · -- 40: nI b lt
            have c_19 : b < a := (nI_ltI (a := b) (b := a) (by omega) (by omega)).mp (c_19)
            omega
          · -- 40: nI b ge
            have c_19 : a ≤ b := by have h := mt (nI_ltI (a := b) (b := a) (by omega) (by omega)).mpr c_19; omega
            refine lv_iload hx hb dX10_ends_43 (lv_at hl 4 rfl) ?_
            refine lv_bipush (v := nI 6) hx hb dX10_ends_45 (by decide) ?_
            refine lv_icmp_le (tgt := 54) hx hb dX10_ends_47 (by decide) (fun c_20 => ?_) (fun c_20 => ?_)
            · -- 47: nI b le
              have c_20 : b ≤ 6 := (nI_leI (a := b) (b := 6) (by omega) (by omega)).mp (c_20)
              refine lv_iconst (v := nI 0) hx hb dX10_ends_54 (by decide) ?_
              refine lv_iconst (v := nI 2) hx hb dX10_ends_55 (by decide) ?_
              refine k_Ri (va_runV (As := [.int (nI 0), .int (nI 2)]) (rest := []) ⟨hx, hb, hml, hown, hts⟩ (c_X10_throwsIf_0 l G z ad M_1 (th := 0) (ln := ln) (on := on) (ao := ao) (vr := vr) (sn := sn) (tp := tp) (pt := pt) (zs := zs) (bg := bg) (fa := fa) (c0 := 2) hm_5) (cwV 2 hts (gV (lwg_of t_1141 rfl) (lwg_of t_1143 rfl) (lwg_of ts_23 rfl) (lwg_of t_13 rfl) (lwg_of t_1144 rfl)) rfl rfl rfl (by decide +kernel) ⟨Nat.le_of_ble_eq_true rfl, Nat.le_of_ble_eq_true rfl⟩) (hI.preV hm_5 rfl) rfl rfl hl.1 rfl (lv_room (Nat.le_of_ble_eq_true rfl)) dX10_ends_56 ⟨Nat.le_of_ble_eq_true rfl, Nat.le_of_ble_eq_true rfl⟩) (fun _ h => h) (fun r_21 hp_22 => ?_)
              rw [hp_22]
              refine lv_if_eq (tgt := 63) hx hb dX10_ends_59 (by decide) (fun c_23 => ?_) (fun c_23 => ?_)
              · -- 59: nI 0 eq
                refine lv_aload_n hx hb dX10_ends_63 rfl (lv_at hl 0 rfl) ?_
                refine h_get (C := RX10) (T := TX10) (N := 38) hx hb hts i_RX10 hown hI hm_5 rfl 1 (by decide) f_13 rfl rfl dX10_ends_64 ?_
                refine lv_bipush (v := nI 6) hx hb dX10_ends_67 (by decide) ?_
                refine lv_iload_n hx hb dX10_ends_69 rfl (lv_at hl 1 rfl) ?_
                refine lv_imul hx hb dX10_ends_70 ?_
                refine n_eq (pk_mul 6 kd) ?_
                refine lv_iload_n hx hb dX10_ends_71 rfl (lv_at hl 2 rfl) ?_
                refine lv_iadd hx hb dX10_ends_72 ?_
                refine n_eq (nI_add (6 * kd) x) ?_
                refine lv_iload_n hx hb dX10_ends_73 rfl (lv_at hl 3 rfl) ?_
                refine h_iast (i := (6 * kd) + x) (x := nI a) hx hb hI hm_6 (by omega) (by decide) dX10_ends_74 (fun M_24 H_25 locs_26 eM_27 hI => ?_)
                rw [upd_nF] at eM_27
                have hm_28 : M_24 60 = some (cModel ad 0 ln on ao vr sn tp pt zs bg fa) := by rw [eM_27, va_up_ne _ _ (by decide)]; exact hm_5
                have hm_29 : M_24 61 = some (aI G 36 (nF (va_up le ((6 * kd) + x) a))) := by rw [eM_27]; exact va_up_self _ _ _
                have hm_30 : M_24 62 = some (aI G 36 (nF mo)) := by rw [eM_27, va_up_ne _ _ (by decide)]; exact hm_7
                have hF_31 : ∀ j : Nat, j ≠ 60 → j ≠ 61 → M_24 j = M j := fun j q0 q1 => by rw [eM_27, va_up_ne _ _ q1]; exact hF_8 j q0
                refine lv_aload_n hx hb dX10_ends_75 rfl (lv_at hl 0 rfl) ?_
                refine h_get (C := RX10) (T := TX10) (N := 38) hx hb hts i_RX10 hown hI hm_28 rfl 2 (by decide) f_17 rfl rfl dX10_ends_76 ?_
                refine lv_bipush (v := nI 6) hx hb dX10_ends_79 (by decide) ?_
                refine lv_iload_n hx hb dX10_ends_81 rfl (lv_at hl 1 rfl) ?_
                refine lv_imul hx hb dX10_ends_82 ?_
                refine n_eq (pk_mul 6 kd) ?_
                refine lv_iload_n hx hb dX10_ends_83 rfl (lv_at hl 2 rfl) ?_
                refine lv_iadd hx hb dX10_ends_84 ?_
                refine n_eq (nI_add (6 * kd) x) ?_
                refine lv_iload hx hb dX10_ends_85 (lv_at hl 4 rfl) ?_
                refine h_iast (i := (6 * kd) + x) (x := nI b) hx hb hI hm_30 (by omega) (by decide) dX10_ends_87 (fun M_32 H_33 locs_34 eM_35 hI => ?_)
                rw [upd_nF] at eM_35
                have hm_36 : M_32 60 = some (cModel ad 0 ln on ao vr sn tp pt zs bg fa) := by rw [eM_35, va_up_ne _ _ (by decide)]; exact hm_28
                have hm_37 : M_32 61 = some (aI G 36 (nF (va_up le ((6 * kd) + x) a))) := by rw [eM_35, va_up_ne _ _ (by decide)]; exact hm_29
                have hm_38 : M_32 62 = some (aI G 36 (nF (va_up mo ((6 * kd) + x) b))) := by rw [eM_35]; exact va_up_self _ _ _
                have hF_39 : ∀ j : Nat, j ≠ 60 → j ≠ 61 → j ≠ 62 → M_32 j = M j := fun j q0 q1 q2 => by rw [eM_35, va_up_ne _ _ q2]; exact hF_31 j q0 q1
                exact e_Nv hx hb hr hlocks hI ⟨hm_36, hm_37, hm_38, (fun j q0 q1 q2 => hF_39 j q0 q1 q2)⟩ dX10_ends_88
              · -- 59: nI 0 ne
                exact absurd (by decide) c_23
            · -- 47: nI b gt
              have c_20 : 6 < b := by have h := mt (nI_leI (a := b) (b := 6) (by omega) (by omega)).mpr c_20; omega
              omega
    · -- 17: nI 0 ne
      exact absurd (by decide) c_14

/-- X10_ends -/
abbrev rm_c_X10_ends_a : Room := { frames := 2, cells := 0, slots := 0, locals := 42 }
set_option maxHeartbeats 4000000 in
set_option maxRecDepth 100000 in
theorem c_X10_ends_a (l : Launch) (G : GG) (z : Nat) (ad : Nat → Nat) (M : Mem) {th : Nat} {ln : Nat} {on : Nat} {ao : Nat} {vr : Nat} {sn : Nat} {tp : Nat} {pt : Nat} {zs : Nat} {bg : Nat} {fa : Int32} {x0 : Int32} {x1 : Int32} {x2 : Int32} {x3 : Int32} (h60 : M 60 = some (cModel ad th ln on ao vr sn tp pt zs bg fa)) (hbad : x0 < 0 ∨ ¬ x0 < nI 6) : Met l yX10_ends wsX10_ends rm_c_X10_ends_a (Pr G z ad M [.ref (ad 60), .int x0, .int x1, .int x2, .int x3]) (Nv G z ad (fun (M' : Mem) => M' 60 = some (cModel ad 1 ln on ao vr sn tp pt zs bg fa) ∧ (∀ j : Nat, j ≠ 60 → M' j = M j))) 0 0 (fr z) := by
  refine Met.ofW (cc := cX10_ends) (maxL := 5) (ret := none) (by decide) rfl ?_
  intro p e s m args below meth c s₁ B hml hv
  obtain ⟨rfl, hv⟩ := hv
  have hI := Iv.entry hv
  have hx := B.exec
  have hb := B.bytes
  have hr := B.returns
  have hts := atoms_spec (ws := wsX10_ends) B.pre
  have hown : s.vm.findClass RX10 = some m.cls := findClass_of_methodNamed B.named
  have hlocks := B.notSynchronized
  have f_3 := hts _ (List.mem_cons_of_mem _ (lwg_of t_1013 rfl))
  have i_RX10 : ∀ w ∈ u_ws RX10 TX10 38, w ∈ wsX10_ends := fun w h => List.mem_cons_of_mem _ (iu_X10 w h)
  have hl := lv_entry ([.ref (ad 60), .int x0, .int x1, .int x2, .int x3]) (n := 5) (Nat.le_of_ble_eq_true rfl)
  rw [lg_entry_eq]
  generalize (lg_sl ([.ref (ad 60), .int x0, .int x1, .int x2, .int x3]) ++ List.replicate (5 - (lg_sl ([.ref (ad 60), .int x0, .int x1, .int x2, .int x3])).length) Slot.unset).toArray = ls at hl ⊢
  have hl : lv_has ls 5 [(0, .ref (ad 60)), (1, .int x0), (2, .int x1), (3, .int x2), (4, .int x3)] := hl
  refine lv_aload_n hx hb dX10_ends_0 rfl (lv_at hl 0 rfl) ?_
  refine lv_iconst (v := nI 0) hx hb dX10_ends_1 (by decide) ?_
  refine h_put (C := RX10) (T := TX10) (N := 38) hx hb hts i_RX10 tyX10 tyX10_ok nmX10 hown hI h60 rfl 0 (by decide) f_3 rfl rfl rfl rfl (Nat.le_of_ble_eq_true rfl) dX10_ends_2 (fun M_1 H_2 locs_3 eM_4 hI => ?_)
  have hm_5 : M_1 60 = some (cModel ad 0 ln on ao vr sn tp pt zs bg fa) := by rw [eM_4]; exact va_up_self _ _ _
  have hF_6 : ∀ j : Nat, j ≠ 60 → M_1 j = M j := fun j q0 => by rw [eM_4, va_up_ne _ _ q0]
  refine lv_aload_n hx hb dX10_ends_5 rfl (lv_at hl 0 rfl) ?_
  refine lv_iload_n hx hb dX10_ends_6 rfl (lv_at hl 1 rfl) ?_
  refine k_Ri (va_runS (As := [.int x0]) (rest := [.ref (ad 60)]) ⟨hx, hb, hml, hown, hts⟩ (c_X10_noKind_1 l G z ad M_1 (x := x0) hbad) (va_cwS 1 hts (gS (lwg_of t_1132 rfl) (lwg_of t_1133 rfl) (lwg_of t_13 rfl) (lwg_of t_1134 rfl)) rfl rfl rfl (by decide +kernel) ⟨Nat.le_of_ble_eq_true rfl, Nat.le_of_ble_eq_true rfl⟩) hI.preS rfl rfl hl.1 rfl (lv_room (Nat.le_of_ble_eq_true rfl)) dX10_ends_7 ⟨Nat.le_of_ble_eq_true rfl, Nat.le_of_ble_eq_true rfl⟩) (fun _ h => h) (fun r_7 hp_8 => ?_)
  rw [hp_8]
  refine lv_if_ne (tgt := 20) hx hb dX10_ends_10 (by decide) (fun c_9 => ?_) (fun c_9 => ?_)
  · -- 10: nI 1 ne
    refine lv_iconst (v := nI 1) hx hb dX10_ends_20 (by decide) ?_
    refine lv_goto (tgt := 25) hx hb dX10_ends_21 (by decide) ?_
    refine lv_iconst (v := nI 1) hx hb dX10_ends_25 (by decide) ?_
    refine k_Ni (va_runV (As := [.int (nI 1), .int (nI 1)]) (rest := []) ⟨hx, hb, hml, hown, hts⟩ (c_X10_throwsIf_1 l G z ad M_1 (th := 0) (ln := ln) (on := on) (ao := ao) (vr := vr) (sn := sn) (tp := tp) (pt := pt) (zs := zs) (bg := bg) (fa := fa) (c0 := 1) hm_5) (cwV 2 hts (gV (lwg_of t_1141 rfl) (lwg_of t_1143 rfl) (lwg_of ts_23 rfl) (lwg_of t_13 rfl) (lwg_of t_1144 rfl)) rfl rfl rfl (by decide +kernel) ⟨Nat.le_of_ble_eq_true rfl, Nat.le_of_ble_eq_true rfl⟩) (hI.preV hm_5 rfl) rfl rfl hl.1 rfl (lv_room (Nat.le_of_ble_eq_true rfl)) dX10_ends_26 ⟨Nat.le_of_ble_eq_true rfl, Nat.le_of_ble_eq_true rfl⟩) hI (fun r_10 M_12 H_13 locs_14 hp_11 hI => ?_)
    obtain ⟨hr_15, hm_16, hF_17⟩ := hp_11
    have hF_18 : ∀ j : Nat, j ≠ 60 → M_12 j = M j := fun j q0 => (hF_17 j q0).trans (hF_6 j q0)
    rw [hr_15]
    refine lv_if_ne (tgt := 62) hx hb dX10_ends_29 (by decide) (fun c_19 => ?_) (fun c_19 => ?_)
    · -- 29: nI 1 ne
      exact e_Nv hx hb hr hlocks hI ⟨hm_16, (fun j q0 => hF_18 j q0)⟩ dX10_ends_62
    · -- 29: nI 1 eq
      exact absurd c_19 (by decide)
  · -- 10: nI 1 eq
    exact absurd c_9 (by decide)

/-- X10_ends -/
abbrev rm_c_X10_ends_b : Room := { frames := 2, cells := 0, slots := 0, locals := 42 }
set_option maxHeartbeats 4000000 in
set_option maxRecDepth 100000 in
theorem c_X10_ends_b (l : Launch) (G : GG) (z : Nat) (ad : Nat → Nat) (M : Mem) {th : Nat} {ln : Nat} {on : Nat} {ao : Nat} {vr : Nat} {sn : Nat} {tp : Nat} {pt : Nat} {zs : Nat} {bg : Nat} {fa : Int32} {kd : Nat} {x1 : Int32} {x2 : Int32} {x3 : Int32} (h60 : M 60 = some (cModel ad th ln on ao vr sn tp pt zs bg fa)) (hkd : kd < 6) (hbad : x1 < 0 ∨ ¬ x1 < nI 6) : Met l yX10_ends wsX10_ends rm_c_X10_ends_b (Pr G z ad M [.ref (ad 60), .int (nI kd), .int x1, .int x2, .int x3]) (Nv G z ad (fun (M' : Mem) => M' 60 = some (cModel ad 1 ln on ao vr sn tp pt zs bg fa) ∧ (∀ j : Nat, j ≠ 60 → M' j = M j))) 0 0 (fr z) := by
  refine Met.ofW (cc := cX10_ends) (maxL := 5) (ret := none) (by decide) rfl ?_
  intro p e s m args below meth c s₁ B hml hv
  obtain ⟨rfl, hv⟩ := hv
  have hI := Iv.entry hv
  have hx := B.exec
  have hb := B.bytes
  have hr := B.returns
  have hts := atoms_spec (ws := wsX10_ends) B.pre
  have hown : s.vm.findClass RX10 = some m.cls := findClass_of_methodNamed B.named
  have hlocks := B.notSynchronized
  have f_3 := hts _ (List.mem_cons_of_mem _ (lwg_of t_1013 rfl))
  have i_RX10 : ∀ w ∈ u_ws RX10 TX10 38, w ∈ wsX10_ends := fun w h => List.mem_cons_of_mem _ (iu_X10 w h)
  have hl := lv_entry ([.ref (ad 60), .int (nI kd), .int x1, .int x2, .int x3]) (n := 5) (Nat.le_of_ble_eq_true rfl)
  rw [lg_entry_eq]
  generalize (lg_sl ([.ref (ad 60), .int (nI kd), .int x1, .int x2, .int x3]) ++ List.replicate (5 - (lg_sl ([.ref (ad 60), .int (nI kd), .int x1, .int x2, .int x3])).length) Slot.unset).toArray = ls at hl ⊢
  have hl : lv_has ls 5 [(0, .ref (ad 60)), (1, .int (nI kd)), (2, .int x1), (3, .int x2), (4, .int x3)] := hl
  refine lv_aload_n hx hb dX10_ends_0 rfl (lv_at hl 0 rfl) ?_
  refine lv_iconst (v := nI 0) hx hb dX10_ends_1 (by decide) ?_
  refine h_put (C := RX10) (T := TX10) (N := 38) hx hb hts i_RX10 tyX10 tyX10_ok nmX10 hown hI h60 rfl 0 (by decide) f_3 rfl rfl rfl rfl (Nat.le_of_ble_eq_true rfl) dX10_ends_2 (fun M_1 H_2 locs_3 eM_4 hI => ?_)
  have hm_5 : M_1 60 = some (cModel ad 0 ln on ao vr sn tp pt zs bg fa) := by rw [eM_4]; exact va_up_self _ _ _
  have hF_6 : ∀ j : Nat, j ≠ 60 → M_1 j = M j := fun j q0 => by rw [eM_4, va_up_ne _ _ q0]
  refine lv_aload_n hx hb dX10_ends_5 rfl (lv_at hl 0 rfl) ?_
  refine lv_iload_n hx hb dX10_ends_6 rfl (lv_at hl 1 rfl) ?_
  refine k_Ri (va_runS (As := [.int (nI kd)]) (rest := [.ref (ad 60)]) ⟨hx, hb, hml, hown, hts⟩ (c_X10_noKind_0 l G z ad M_1 (t := kd) (by omega)) (va_cwS 1 hts (gS (lwg_of t_1132 rfl) (lwg_of t_1133 rfl) (lwg_of t_13 rfl) (lwg_of t_1134 rfl)) rfl rfl rfl (by decide +kernel) ⟨Nat.le_of_ble_eq_true rfl, Nat.le_of_ble_eq_true rfl⟩) hI.preS rfl rfl hl.1 rfl (lv_room (Nat.le_of_ble_eq_true rfl)) dX10_ends_7 ⟨Nat.le_of_ble_eq_true rfl, Nat.le_of_ble_eq_true rfl⟩) (fun _ h => h) (fun r_7 hp_8 => ?_)
  rw [hp_8]
  refine lv_if_ne (tgt := 20) hx hb dX10_ends_10 (by decide) (fun c_9 => ?_) (fun c_9 => ?_)
  · -- 10: nI 0 ne
    exact absurd (by decide) c_9
  · -- 10: nI 0 eq
    refine lv_iload_n hx hb dX10_ends_13 rfl (lv_at hl 2 rfl) ?_
    refine k_Ri (va_runS (As := [.int x1]) (rest := [.ref (ad 60)]) ⟨hx, hb, hml, hown, hts⟩ (c_X10_noRole_1 l G z ad M_1 (x := x1) hbad) (va_cwS 1 hts (gS (lwg_of t_1138 rfl) (lwg_of t_1139 rfl) (lwg_of t_13 rfl) (lwg_of t_1140 rfl)) rfl rfl rfl (by decide +kernel) ⟨Nat.le_of_ble_eq_true rfl, Nat.le_of_ble_eq_true rfl⟩) hI.preS rfl rfl hl.1 rfl (lv_room (Nat.le_of_ble_eq_true rfl)) dX10_ends_14 ⟨Nat.le_of_ble_eq_true rfl, Nat.le_of_ble_eq_true rfl⟩) (fun _ h => h) (fun r_10 hp_11 => ?_)
    rw [hp_11]
    refine lv_if_eq (tgt := 24) hx hb dX10_ends_17 (by decide) (fun c_12 => ?_) (fun c_12 => ?_)
    · -- 17: nI 1 eq
      exact absurd c_12 (by decide)
    · -- 17: nI 1 ne
      refine lv_iconst (v := nI 1) hx hb dX10_ends_20 (by decide) ?_
      refine lv_goto (tgt := 25) hx hb dX10_ends_21 (by decide) ?_
      refine lv_iconst (v := nI 1) hx hb dX10_ends_25 (by decide) ?_
      refine k_Ni (va_runV (As := [.int (nI 1), .int (nI 1)]) (rest := []) ⟨hx, hb, hml, hown, hts⟩ (c_X10_throwsIf_1 l G z ad M_1 (th := 0) (ln := ln) (on := on) (ao := ao) (vr := vr) (sn := sn) (tp := tp) (pt := pt) (zs := zs) (bg := bg) (fa := fa) (c0 := 1) hm_5) (cwV 2 hts (gV (lwg_of t_1141 rfl) (lwg_of t_1143 rfl) (lwg_of ts_23 rfl) (lwg_of t_13 rfl) (lwg_of t_1144 rfl)) rfl rfl rfl (by decide +kernel) ⟨Nat.le_of_ble_eq_true rfl, Nat.le_of_ble_eq_true rfl⟩) (hI.preV hm_5 rfl) rfl rfl hl.1 rfl (lv_room (Nat.le_of_ble_eq_true rfl)) dX10_ends_26 ⟨Nat.le_of_ble_eq_true rfl, Nat.le_of_ble_eq_true rfl⟩) hI (fun r_13 M_15 H_16 locs_17 hp_14 hI => ?_)
      obtain ⟨hr_18, hm_19, hF_20⟩ := hp_14
      have hF_21 : ∀ j : Nat, j ≠ 60 → M_15 j = M j := fun j q0 => (hF_20 j q0).trans (hF_6 j q0)
      rw [hr_18]
      refine lv_if_ne (tgt := 62) hx hb dX10_ends_29 (by decide) (fun c_22 => ?_) (fun c_22 => ?_)
      · -- 29: nI 1 ne
        exact e_Nv hx hb hr hlocks hI ⟨hm_19, (fun j q0 => hF_21 j q0)⟩ dX10_ends_62
      · -- 29: nI 1 eq
        exact absurd c_22 (by decide)

/-- X10_ends -/
abbrev rm_c_X10_ends_c : Room := { frames := 2, cells := 0, slots := 0, locals := 42 }
set_option maxHeartbeats 4000000 in
set_option maxRecDepth 100000 in
theorem c_X10_ends_c (l : Launch) (G : GG) (z : Nat) (ad : Nat → Nat) (M : Mem) {th : Nat} {ln : Nat} {on : Nat} {ao : Nat} {vr : Nat} {sn : Nat} {tp : Nat} {pt : Nat} {zs : Nat} {bg : Nat} {fa : Int32} {kd : Nat} {ro : Nat} {x2 : Int32} {x3 : Int32} (h60 : M 60 = some (cModel ad th ln on ao vr sn tp pt zs bg fa)) (hkd : kd < 6) (hro : ro < 6) (hbad : x2 < 0 ∨ x3 < x2 ∨ nI 6 < x3) : Met l yX10_ends wsX10_ends rm_c_X10_ends_c (Pr G z ad M [.ref (ad 60), .int (nI kd), .int (nI ro), .int x2, .int x3]) (Nv G z ad (fun (M' : Mem) => M' 60 = some (cModel ad 2 ln on ao vr sn tp pt zs bg fa) ∧ (∀ j : Nat, j ≠ 60 → M' j = M j))) 0 0 (fr z) := by
  refine Met.ofW (cc := cX10_ends) (maxL := 5) (ret := none) (by decide) rfl ?_
  intro p e s m args below meth c s₁ B hml hv
  obtain ⟨rfl, hv⟩ := hv
  have hI := Iv.entry hv
  have hx := B.exec
  have hb := B.bytes
  have hr := B.returns
  have hts := atoms_spec (ws := wsX10_ends) B.pre
  have hown : s.vm.findClass RX10 = some m.cls := findClass_of_methodNamed B.named
  have hlocks := B.notSynchronized
  have f_3 := hts _ (List.mem_cons_of_mem _ (lwg_of t_1013 rfl))
  have i_RX10 : ∀ w ∈ u_ws RX10 TX10 38, w ∈ wsX10_ends := fun w h => List.mem_cons_of_mem _ (iu_X10 w h)
  have hl := lv_entry ([.ref (ad 60), .int (nI kd), .int (nI ro), .int x2, .int x3]) (n := 5) (Nat.le_of_ble_eq_true rfl)
  rw [lg_entry_eq]
  generalize (lg_sl ([.ref (ad 60), .int (nI kd), .int (nI ro), .int x2, .int x3]) ++ List.replicate (5 - (lg_sl ([.ref (ad 60), .int (nI kd), .int (nI ro), .int x2, .int x3])).length) Slot.unset).toArray = ls at hl ⊢
  have hl : lv_has ls 5 [(0, .ref (ad 60)), (1, .int (nI kd)), (2, .int (nI ro)), (3, .int x2), (4, .int x3)] := hl
  refine lv_aload_n hx hb dX10_ends_0 rfl (lv_at hl 0 rfl) ?_
  refine lv_iconst (v := nI 0) hx hb dX10_ends_1 (by decide) ?_
  refine h_put (C := RX10) (T := TX10) (N := 38) hx hb hts i_RX10 tyX10 tyX10_ok nmX10 hown hI h60 rfl 0 (by decide) f_3 rfl rfl rfl rfl (Nat.le_of_ble_eq_true rfl) dX10_ends_2 (fun M_1 H_2 locs_3 eM_4 hI => ?_)
  have hm_5 : M_1 60 = some (cModel ad 0 ln on ao vr sn tp pt zs bg fa) := by rw [eM_4]; exact va_up_self _ _ _
  have hF_6 : ∀ j : Nat, j ≠ 60 → M_1 j = M j := fun j q0 => by rw [eM_4, va_up_ne _ _ q0]
  refine lv_aload_n hx hb dX10_ends_5 rfl (lv_at hl 0 rfl) ?_
  refine lv_iload_n hx hb dX10_ends_6 rfl (lv_at hl 1 rfl) ?_
  refine k_Ri (va_runS (As := [.int (nI kd)]) (rest := [.ref (ad 60)]) ⟨hx, hb, hml, hown, hts⟩ (c_X10_noKind_0 l G z ad M_1 (t := kd) (by omega)) (va_cwS 1 hts (gS (lwg_of t_1132 rfl) (lwg_of t_1133 rfl) (lwg_of t_13 rfl) (lwg_of t_1134 rfl)) rfl rfl rfl (by decide +kernel) ⟨Nat.le_of_ble_eq_true rfl, Nat.le_of_ble_eq_true rfl⟩) hI.preS rfl rfl hl.1 rfl (lv_room (Nat.le_of_ble_eq_true rfl)) dX10_ends_7 ⟨Nat.le_of_ble_eq_true rfl, Nat.le_of_ble_eq_true rfl⟩) (fun _ h => h) (fun r_7 hp_8 => ?_)
  rw [hp_8]
  refine lv_if_ne (tgt := 20) hx hb dX10_ends_10 (by decide) (fun c_9 => ?_) (fun c_9 => ?_)
  · -- 10: nI 0 ne
    exact absurd (by decide) c_9
  · -- 10: nI 0 eq
    refine lv_iload_n hx hb dX10_ends_13 rfl (lv_at hl 2 rfl) ?_
    refine k_Ri (va_runS (As := [.int (nI ro)]) (rest := [.ref (ad 60)]) ⟨hx, hb, hml, hown, hts⟩ (c_X10_noRole_0 l G z ad M_1 (t := ro) (by omega)) (va_cwS 1 hts (gS (lwg_of t_1138 rfl) (lwg_of t_1139 rfl) (lwg_of t_13 rfl) (lwg_of t_1140 rfl)) rfl rfl rfl (by decide +kernel) ⟨Nat.le_of_ble_eq_true rfl, Nat.le_of_ble_eq_true rfl⟩) hI.preS rfl rfl hl.1 rfl (lv_room (Nat.le_of_ble_eq_true rfl)) dX10_ends_14 ⟨Nat.le_of_ble_eq_true rfl, Nat.le_of_ble_eq_true rfl⟩) (fun _ h => h) (fun r_10 hp_11 => ?_)
    rw [hp_11]
    refine lv_if_eq (tgt := 24) hx hb dX10_ends_17 (by decide) (fun c_12 => ?_) (fun c_12 => ?_)
    · -- 17: nI 0 eq
      refine lv_iconst (v := nI 0) hx hb dX10_ends_24 (by decide) ?_
      refine lv_iconst (v := nI 1) hx hb dX10_ends_25 (by decide) ?_
      refine k_Ri (va_runV (As := [.int (nI 0), .int (nI 1)]) (rest := []) ⟨hx, hb, hml, hown, hts⟩ (c_X10_throwsIf_0 l G z ad M_1 (th := 0) (ln := ln) (on := on) (ao := ao) (vr := vr) (sn := sn) (tp := tp) (pt := pt) (zs := zs) (bg := bg) (fa := fa) (c0 := 1) hm_5) (cwV 2 hts (gV (lwg_of t_1141 rfl) (lwg_of t_1143 rfl) (lwg_of ts_23 rfl) (lwg_of t_13 rfl) (lwg_of t_1144 rfl)) rfl rfl rfl (by decide +kernel) ⟨Nat.le_of_ble_eq_true rfl, Nat.le_of_ble_eq_true rfl⟩) (hI.preV hm_5 rfl) rfl rfl hl.1 rfl (lv_room (Nat.le_of_ble_eq_true rfl)) dX10_ends_26 ⟨Nat.le_of_ble_eq_true rfl, Nat.le_of_ble_eq_true rfl⟩) (fun _ h => h) (fun r_13 hp_14 => ?_)
      rw [hp_14]
      refine lv_if_ne (tgt := 62) hx hb dX10_ends_29 (by decide) (fun c_15 => ?_) (fun c_15 => ?_)
      · -- 29: nI 0 ne
        exact absurd (by decide) c_15
      · -- 29: nI 0 eq
        refine lv_aload_n hx hb dX10_ends_32 rfl (lv_at hl 0 rfl) ?_
        refine lv_iload_n hx hb dX10_ends_33 rfl (lv_at hl 3 rfl) ?_
        refine lv_if_lt (tgt := 50) hx hb dX10_ends_34 (by decide) (fun c_16 => ?_) (fun c_16 => ?_)
        · -- 34: x2 lt
          refine lv_iconst (v := nI 1) hx hb dX10_ends_50 (by decide) ?_
          refine lv_goto (tgt := 55) hx hb dX10_ends_51 (by decide) ?_
          refine lv_iconst (v := nI 2) hx hb dX10_ends_55 (by decide) ?_
          refine k_Ni (va_runV (As := [.int (nI 1), .int (nI 2)]) (rest := []) ⟨hx, hb, hml, hown, hts⟩ (c_X10_throwsIf_1 l G z ad M_1 (th := 0) (ln := ln) (on := on) (ao := ao) (vr := vr) (sn := sn) (tp := tp) (pt := pt) (zs := zs) (bg := bg) (fa := fa) (c0 := 2) hm_5) (cwV 2 hts (gV (lwg_of t_1141 rfl) (lwg_of t_1143 rfl) (lwg_of ts_23 rfl) (lwg_of t_13 rfl) (lwg_of t_1144 rfl)) rfl rfl rfl (by decide +kernel) ⟨Nat.le_of_ble_eq_true rfl, Nat.le_of_ble_eq_true rfl⟩) (hI.preV hm_5 rfl) rfl rfl hl.1 rfl (lv_room (Nat.le_of_ble_eq_true rfl)) dX10_ends_56 ⟨Nat.le_of_ble_eq_true rfl, Nat.le_of_ble_eq_true rfl⟩) hI (fun r_17 M_19 H_20 locs_21 hp_18 hI => ?_)
          obtain ⟨hr_22, hm_23, hF_24⟩ := hp_18
          have hF_25 : ∀ j : Nat, j ≠ 60 → M_19 j = M j := fun j q0 => (hF_24 j q0).trans (hF_6 j q0)
          rw [hr_22]
          refine lv_if_eq (tgt := 63) hx hb dX10_ends_59 (by decide) (fun c_26 => ?_) (fun c_26 => ?_)
          · -- 59: nI 1 eq
            exact absurd c_26 (by decide)
          · -- 59: nI 1 ne
            exact e_Nv hx hb hr hlocks hI ⟨hm_23, (fun j q0 => hF_25 j q0)⟩ dX10_ends_62
        · -- 34: x2 ge
          refine lv_iload hx hb dX10_ends_37 (lv_at hl 4 rfl) ?_
          refine lv_iload_n hx hb dX10_ends_39 rfl (lv_at hl 3 rfl) ?_
          refine lv_icmp_lt (tgt := 50) hx hb dX10_ends_40 (by decide) (fun c_27 => ?_) (fun c_27 => ?_)
          · -- 40: x3 lt
            refine lv_iconst (v := nI 1) hx hb dX10_ends_50 (by decide) ?_
            refine lv_goto (tgt := 55) hx hb dX10_ends_51 (by decide) ?_
            refine lv_iconst (v := nI 2) hx hb dX10_ends_55 (by decide) ?_
            refine k_Ni (va_runV (As := [.int (nI 1), .int (nI 2)]) (rest := []) ⟨hx, hb, hml, hown, hts⟩ (c_X10_throwsIf_1 l G z ad M_1 (th := 0) (ln := ln) (on := on) (ao := ao) (vr := vr) (sn := sn) (tp := tp) (pt := pt) (zs := zs) (bg := bg) (fa := fa) (c0 := 2) hm_5) (cwV 2 hts (gV (lwg_of t_1141 rfl) (lwg_of t_1143 rfl) (lwg_of ts_23 rfl) (lwg_of t_13 rfl) (lwg_of t_1144 rfl)) rfl rfl rfl (by decide +kernel) ⟨Nat.le_of_ble_eq_true rfl, Nat.le_of_ble_eq_true rfl⟩) (hI.preV hm_5 rfl) rfl rfl hl.1 rfl (lv_room (Nat.le_of_ble_eq_true rfl)) dX10_ends_56 ⟨Nat.le_of_ble_eq_true rfl, Nat.le_of_ble_eq_true rfl⟩) hI (fun r_28 M_30 H_31 locs_32 hp_29 hI => ?_)
            obtain ⟨hr_33, hm_34, hF_35⟩ := hp_29
            have hF_36 : ∀ j : Nat, j ≠ 60 → M_30 j = M j := fun j q0 => (hF_35 j q0).trans (hF_6 j q0)
            rw [hr_33]
            refine lv_if_eq (tgt := 63) hx hb dX10_ends_59 (by decide) (fun c_37 => ?_) (fun c_37 => ?_)
            · -- 59: nI 1 eq
              exact absurd c_37 (by decide)
            · -- 59: nI 1 ne
              exact e_Nv hx hb hr hlocks hI ⟨hm_34, (fun j q0 => hF_36 j q0)⟩ dX10_ends_62
          · -- 40: x3 ge
            refine lv_iload hx hb dX10_ends_43 (lv_at hl 4 rfl) ?_
            refine lv_bipush (v := nI 6) hx hb dX10_ends_45 (by decide) ?_
            refine lv_icmp_le (tgt := 54) hx hb dX10_ends_47 (by decide) (fun c_38 => ?_) (fun c_38 => ?_)
            · -- 47: x3 le
              rcases hbad with h9 | h9 | h9 <;> first | contradiction | exact absurd h9 (Int32.not_lt.mpr (by assumption))
            · -- 47: x3 gt
              refine lv_iconst (v := nI 1) hx hb dX10_ends_50 (by decide) ?_
              refine lv_goto (tgt := 55) hx hb dX10_ends_51 (by decide) ?_
              refine lv_iconst (v := nI 2) hx hb dX10_ends_55 (by decide) ?_
              refine k_Ni (va_runV (As := [.int (nI 1), .int (nI 2)]) (rest := []) ⟨hx, hb, hml, hown, hts⟩ (c_X10_throwsIf_1 l G z ad M_1 (th := 0) (ln := ln) (on := on) (ao := ao) (vr := vr) (sn := sn) (tp := tp) (pt := pt) (zs := zs) (bg := bg) (fa := fa) (c0 := 2) hm_5) (cwV 2 hts (gV (lwg_of t_1141 rfl) (lwg_of t_1143 rfl) (lwg_of ts_23 rfl) (lwg_of t_13 rfl) (lwg_of t_1144 rfl)) rfl rfl rfl (by decide +kernel) ⟨Nat.le_of_ble_eq_true rfl, Nat.le_of_ble_eq_true rfl⟩) (hI.preV hm_5 rfl) rfl rfl hl.1 rfl (lv_room (Nat.le_of_ble_eq_true rfl)) dX10_ends_56 ⟨Nat.le_of_ble_eq_true rfl, Nat.le_of_ble_eq_true rfl⟩) hI (fun r_39 M_41 H_42 locs_43 hp_40 hI => ?_)
              obtain ⟨hr_44, hm_45, hF_46⟩ := hp_40
              have hF_47 : ∀ j : Nat, j ≠ 60 → M_41 j = M j := fun j q0 => (hF_46 j q0).trans (hF_6 j q0)
              rw [hr_44]
              refine lv_if_eq (tgt := 63) hx hb dX10_ends_59 (by decide) (fun c_48 => ?_) (fun c_48 => ?_)
              · -- 59: nI 1 eq
                exact absurd c_48 (by decide)
              · -- 59: nI 1 ne
                exact e_Nv hx hb hr hlocks hI ⟨hm_45, (fun j q0 => hF_47 j q0)⟩ dX10_ends_62
    · -- 17: nI 0 ne
      exact absurd (by decide) c_12

/-- X10_alone -/
abbrev rm_c_X10_alone : Room := { frames := 2, cells := 0, slots := 0, locals := 42 }
set_option maxHeartbeats 4000000 in
set_option maxRecDepth 100000 in
theorem c_X10_alone (l : Launch) (G : GG) (z : Nat) (ad : Nat → Nat) (M : Mem) {th : Nat} {ln : Nat} {on : Nat} {ao : Nat} {vr : Nat} {sn : Nat} {tp : Nat} {pt : Nat} {zs : Nat} {bg : Nat} {fa : Int32} {al : Nat → Nat} {kd : Nat} {x : Nat} {a : Nat} (h60 : M 60 = some (cModel ad th ln on ao vr sn tp pt zs bg fa)) (h63 : M 63 = some (aI G 36 (nF al))) (hkd : kd < 6) (hx6 : x < 6) (ha : a ≤ 100) : Met l yX10_alone wsX10_alone rm_c_X10_alone (Pr G z ad M [.ref (ad 60), .int (nI kd), .int (nI x), .int (nI a)]) (Nv G z ad (fun (M' : Mem) => M' 60 = some (cModel ad 0 ln on ao vr sn tp pt zs bg fa) ∧ M' 63 = some (aI G 36 (nF (va_up al (6 * kd + x) a))) ∧ (∀ j : Nat, j ≠ 60 → j ≠ 63 → M' j = M j))) 0 0 (fr z) := by
  refine Met.ofW (cc := cX10_alone) (maxL := 4) (ret := none) (by decide) rfl ?_
  intro p e s m args below meth c s₁ B hml hv
  obtain ⟨rfl, hv⟩ := hv
  have hI := Iv.entry hv
  have hx := B.exec
  have hb := B.bytes
  have hr := B.returns
  have hts := atoms_spec (ws := wsX10_alone) B.pre
  have hown : s.vm.findClass RX10 = some m.cls := findClass_of_methodNamed B.named
  have hlocks := B.notSynchronized
  have f_3 := hts _ (List.mem_cons_of_mem _ (lwg_of t_1013 rfl))
  have i_RX10 : ∀ w ∈ u_ws RX10 TX10 38, w ∈ wsX10_alone := fun w h => List.mem_cons_of_mem _ (iu_X10 w h)
  have f_20 := hts _ (List.mem_cons_of_mem _ (lwg_of t_1016 rfl))
  have hl := lv_entry ([.ref (ad 60), .int (nI kd), .int (nI x), .int (nI a)]) (n := 4) (Nat.le_of_ble_eq_true rfl)
  rw [lg_entry_eq]
  generalize (lg_sl ([.ref (ad 60), .int (nI kd), .int (nI x), .int (nI a)]) ++ List.replicate (4 - (lg_sl ([.ref (ad 60), .int (nI kd), .int (nI x), .int (nI a)])).length) Slot.unset).toArray = ls at hl ⊢
  have hl : lv_has ls 4 [(0, .ref (ad 60)), (1, .int (nI kd)), (2, .int (nI x)), (3, .int (nI a))] := hl
  refine lv_aload_n hx hb dX10_alone_0 rfl (lv_at hl 0 rfl) ?_
  refine lv_iconst (v := nI 0) hx hb dX10_alone_1 (by decide) ?_
  refine h_put (C := RX10) (T := TX10) (N := 38) hx hb hts i_RX10 tyX10 tyX10_ok nmX10 hown hI h60 rfl 0 (by decide) f_3 rfl rfl rfl rfl (Nat.le_of_ble_eq_true rfl) dX10_alone_2 (fun M_1 H_2 locs_3 eM_4 hI => ?_)
  have hm_5 : M_1 60 = some (cModel ad 0 ln on ao vr sn tp pt zs bg fa) := by rw [eM_4]; exact va_up_self _ _ _
  have hm_6 : M_1 63 = some (aI G 36 (nF al)) := by rw [eM_4, va_up_ne _ _ (by decide)]; exact h63
  have hF_7 : ∀ j : Nat, j ≠ 60 → M_1 j = M j := fun j q0 => by rw [eM_4, va_up_ne _ _ q0]
  refine lv_aload_n hx hb dX10_alone_5 rfl (lv_at hl 0 rfl) ?_
  refine lv_iload_n hx hb dX10_alone_6 rfl (lv_at hl 1 rfl) ?_
  refine k_Ri (va_runS (As := [.int (nI kd)]) (rest := [.ref (ad 60)]) ⟨hx, hb, hml, hown, hts⟩ (c_X10_noKind_0 l G z ad M_1 (t := kd) (by omega)) (va_cwS 1 hts (gS (lwg_of t_1132 rfl) (lwg_of t_1133 rfl) (lwg_of t_13 rfl) (lwg_of t_1134 rfl)) rfl rfl rfl (by decide +kernel) ⟨Nat.le_of_ble_eq_true rfl, Nat.le_of_ble_eq_true rfl⟩) hI.preS rfl rfl hl.1 rfl (lv_room (Nat.le_of_ble_eq_true rfl)) dX10_alone_7 ⟨Nat.le_of_ble_eq_true rfl, Nat.le_of_ble_eq_true rfl⟩) (fun _ h => h) (fun r_8 hp_9 => ?_)
  rw [hp_9]
  refine lv_if_ne (tgt := 20) hx hb dX10_alone_10 (by decide) (fun c_10 => ?_) (fun c_10 => ?_)
  · -- 10: nI 0 ne
    exact absurd (by decide) c_10
  · -- 10: nI 0 eq
    refine lv_iload_n hx hb dX10_alone_13 rfl (lv_at hl 2 rfl) ?_
    refine k_Ri (va_runS (As := [.int (nI x)]) (rest := [.ref (ad 60)]) ⟨hx, hb, hml, hown, hts⟩ (c_X10_noRole_0 l G z ad M_1 (t := x) (by omega)) (va_cwS 1 hts (gS (lwg_of t_1138 rfl) (lwg_of t_1139 rfl) (lwg_of t_13 rfl) (lwg_of t_1140 rfl)) rfl rfl rfl (by decide +kernel) ⟨Nat.le_of_ble_eq_true rfl, Nat.le_of_ble_eq_true rfl⟩) hI.preS rfl rfl hl.1 rfl (lv_room (Nat.le_of_ble_eq_true rfl)) dX10_alone_14 ⟨Nat.le_of_ble_eq_true rfl, Nat.le_of_ble_eq_true rfl⟩) (fun _ h => h) (fun r_11 hp_12 => ?_)
    rw [hp_12]
    refine lv_if_eq (tgt := 24) hx hb dX10_alone_17 (by decide) (fun c_13 => ?_) (fun c_13 => ?_)
    · -- 17: nI 0 eq
      refine lv_iconst (v := nI 0) hx hb dX10_alone_24 (by decide) ?_
      refine lv_iconst (v := nI 1) hx hb dX10_alone_25 (by decide) ?_
      refine k_Ri (va_runV (As := [.int (nI 0), .int (nI 1)]) (rest := []) ⟨hx, hb, hml, hown, hts⟩ (c_X10_throwsIf_0 l G z ad M_1 (th := 0) (ln := ln) (on := on) (ao := ao) (vr := vr) (sn := sn) (tp := tp) (pt := pt) (zs := zs) (bg := bg) (fa := fa) (c0 := 1) hm_5) (cwV 2 hts (gV (lwg_of t_1141 rfl) (lwg_of t_1143 rfl) (lwg_of ts_23 rfl) (lwg_of t_13 rfl) (lwg_of t_1144 rfl)) rfl rfl rfl (by decide +kernel) ⟨Nat.le_of_ble_eq_true rfl, Nat.le_of_ble_eq_true rfl⟩) (hI.preV hm_5 rfl) rfl rfl hl.1 rfl (lv_room (Nat.le_of_ble_eq_true rfl)) dX10_alone_26 ⟨Nat.le_of_ble_eq_true rfl, Nat.le_of_ble_eq_true rfl⟩) (fun _ h => h) (fun r_14 hp_15 => ?_)
      rw [hp_15]
      refine lv_if_ne (tgt := 55) hx hb dX10_alone_29 (by decide) (fun c_16 => ?_) (fun c_16 => ?_)
      · -- 29: nI 0 ne
        exact absurd (by decide) c_16
      · -- 29: nI 0 eq
        refine lv_aload_n hx hb dX10_alone_32 rfl (lv_at hl 0 rfl) ?_
        refine lv_iload_n hx hb dX10_alone_33 rfl (lv_at hl 3 rfl) ?_
        refine lv_iconst (v := nI 0) hx hb dX10_alone_34 (by decide) ?_
        refine lv_bipush (v := nI 100) hx hb dX10_alone_35 (by decide) ?_
        refine k_Ri (va_runS (As := [.int (nI a), .int (nI 0), .int (nI 100)]) (rest := [.ref (ad 60)]) ⟨hx, hb, hml, hown, hts⟩ (c_X10_in l G z ad M_1 (x := nI a) (a := nI 0) (b := nI 100) ) (va_cwS 3 hts (gS (lwg_of t_1135 rfl) (lwg_of t_1136 rfl) (lwg_of t_13 rfl) (lwg_of t_1137 rfl)) rfl rfl rfl (by decide +kernel) ⟨Nat.le_of_ble_eq_true rfl, Nat.le_of_ble_eq_true rfl⟩) hI.preS rfl rfl hl.1 rfl (lv_room (Nat.le_of_ble_eq_true rfl)) dX10_alone_37 ⟨Nat.le_of_ble_eq_true rfl, Nat.le_of_ble_eq_true rfl⟩) (fun _ h => h) (fun r_17 hp_18 => ?_)
        rw [hp_18]
        refine n_eq (show _ = nI 1 from by rw [inB_t (by omega) (by omega)]; rfl) ?_
        refine lv_if_ne (tgt := 47) hx hb dX10_alone_40 (by decide) (fun c_19 => ?_) (fun c_19 => ?_)
        · -- 40: nI 1 ne
          refine lv_iconst (v := nI 0) hx hb dX10_alone_47 (by decide) ?_
          refine lv_iconst (v := nI 2) hx hb dX10_alone_48 (by decide) ?_
          refine k_Ri (va_runV (As := [.int (nI 0), .int (nI 2)]) (rest := []) ⟨hx, hb, hml, hown, hts⟩ (c_X10_throwsIf_0 l G z ad M_1 (th := 0) (ln := ln) (on := on) (ao := ao) (vr := vr) (sn := sn) (tp := tp) (pt := pt) (zs := zs) (bg := bg) (fa := fa) (c0 := 2) hm_5) (cwV 2 hts (gV (lwg_of t_1141 rfl) (lwg_of t_1143 rfl) (lwg_of ts_23 rfl) (lwg_of t_13 rfl) (lwg_of t_1144 rfl)) rfl rfl rfl (by decide +kernel) ⟨Nat.le_of_ble_eq_true rfl, Nat.le_of_ble_eq_true rfl⟩) (hI.preV hm_5 rfl) rfl rfl hl.1 rfl (lv_room (Nat.le_of_ble_eq_true rfl)) dX10_alone_49 ⟨Nat.le_of_ble_eq_true rfl, Nat.le_of_ble_eq_true rfl⟩) (fun _ h => h) (fun r_20 hp_21 => ?_)
          rw [hp_21]
          refine lv_if_eq (tgt := 56) hx hb dX10_alone_52 (by decide) (fun c_22 => ?_) (fun c_22 => ?_)
          · -- 52: nI 0 eq
            refine lv_aload_n hx hb dX10_alone_56 rfl (lv_at hl 0 rfl) ?_
            refine h_get (C := RX10) (T := TX10) (N := 38) hx hb hts i_RX10 hown hI hm_5 rfl 3 (by decide) f_20 rfl rfl dX10_alone_57 ?_
            refine lv_bipush (v := nI 6) hx hb dX10_alone_60 (by decide) ?_
            refine lv_iload_n hx hb dX10_alone_62 rfl (lv_at hl 1 rfl) ?_
            refine lv_imul hx hb dX10_alone_63 ?_
            refine n_eq (pk_mul 6 kd) ?_
            refine lv_iload_n hx hb dX10_alone_64 rfl (lv_at hl 2 rfl) ?_
            refine lv_iadd hx hb dX10_alone_65 ?_
            refine n_eq (nI_add (6 * kd) x) ?_
            refine lv_iload_n hx hb dX10_alone_66 rfl (lv_at hl 3 rfl) ?_
            refine h_iast (i := (6 * kd) + x) (x := nI a) hx hb hI hm_6 (by omega) (by decide) dX10_alone_67 (fun M_23 H_24 locs_25 eM_26 hI => ?_)
            rw [upd_nF] at eM_26
            have hm_27 : M_23 60 = some (cModel ad 0 ln on ao vr sn tp pt zs bg fa) := by rw [eM_26, va_up_ne _ _ (by decide)]; exact hm_5
            have hm_28 : M_23 63 = some (aI G 36 (nF (va_up al ((6 * kd) + x) a))) := by rw [eM_26]; exact va_up_self _ _ _
            have hF_29 : ∀ j : Nat, j ≠ 60 → j ≠ 63 → M_23 j = M j := fun j q0 q1 => by rw [eM_26, va_up_ne _ _ q1]; exact hF_7 j q0
            exact e_Nv hx hb hr hlocks hI ⟨hm_27, hm_28, (fun j q0 q1 => hF_29 j q0 q1)⟩ dX10_alone_68
          · -- 52: nI 0 ne
            exact absurd (by decide) c_22
        · -- 40: nI 1 eq
          exact absurd c_19 (by decide)
    · -- 17: nI 0 ne
      exact absurd (by decide) c_13

/-- X10_alone -/
abbrev rm_c_X10_alone_a : Room := { frames := 2, cells := 0, slots := 0, locals := 42 }
set_option maxHeartbeats 4000000 in
set_option maxRecDepth 100000 in
theorem c_X10_alone_a (l : Launch) (G : GG) (z : Nat) (ad : Nat → Nat) (M : Mem) {th : Nat} {ln : Nat} {on : Nat} {ao : Nat} {vr : Nat} {sn : Nat} {tp : Nat} {pt : Nat} {zs : Nat} {bg : Nat} {fa : Int32} {x0 : Int32} {x1 : Int32} {x2 : Int32} (h60 : M 60 = some (cModel ad th ln on ao vr sn tp pt zs bg fa)) (hbad : x0 < 0 ∨ ¬ x0 < nI 6) : Met l yX10_alone wsX10_alone rm_c_X10_alone_a (Pr G z ad M [.ref (ad 60), .int x0, .int x1, .int x2]) (Nv G z ad (fun (M' : Mem) => M' 60 = some (cModel ad 1 ln on ao vr sn tp pt zs bg fa) ∧ (∀ j : Nat, j ≠ 60 → M' j = M j))) 0 0 (fr z) := by
  refine Met.ofW (cc := cX10_alone) (maxL := 4) (ret := none) (by decide) rfl ?_
  intro p e s m args below meth c s₁ B hml hv
  obtain ⟨rfl, hv⟩ := hv
  have hI := Iv.entry hv
  have hx := B.exec
  have hb := B.bytes
  have hr := B.returns
  have hts := atoms_spec (ws := wsX10_alone) B.pre
  have hown : s.vm.findClass RX10 = some m.cls := findClass_of_methodNamed B.named
  have hlocks := B.notSynchronized
  have f_3 := hts _ (List.mem_cons_of_mem _ (lwg_of t_1013 rfl))
  have i_RX10 : ∀ w ∈ u_ws RX10 TX10 38, w ∈ wsX10_alone := fun w h => List.mem_cons_of_mem _ (iu_X10 w h)
  have hl := lv_entry ([.ref (ad 60), .int x0, .int x1, .int x2]) (n := 4) (Nat.le_of_ble_eq_true rfl)
  rw [lg_entry_eq]
  generalize (lg_sl ([.ref (ad 60), .int x0, .int x1, .int x2]) ++ List.replicate (4 - (lg_sl ([.ref (ad 60), .int x0, .int x1, .int x2])).length) Slot.unset).toArray = ls at hl ⊢
  have hl : lv_has ls 4 [(0, .ref (ad 60)), (1, .int x0), (2, .int x1), (3, .int x2)] := hl
  refine lv_aload_n hx hb dX10_alone_0 rfl (lv_at hl 0 rfl) ?_
  refine lv_iconst (v := nI 0) hx hb dX10_alone_1 (by decide) ?_
  refine h_put (C := RX10) (T := TX10) (N := 38) hx hb hts i_RX10 tyX10 tyX10_ok nmX10 hown hI h60 rfl 0 (by decide) f_3 rfl rfl rfl rfl (Nat.le_of_ble_eq_true rfl) dX10_alone_2 (fun M_1 H_2 locs_3 eM_4 hI => ?_)
  have hm_5 : M_1 60 = some (cModel ad 0 ln on ao vr sn tp pt zs bg fa) := by rw [eM_4]; exact va_up_self _ _ _
  have hF_6 : ∀ j : Nat, j ≠ 60 → M_1 j = M j := fun j q0 => by rw [eM_4, va_up_ne _ _ q0]
  refine lv_aload_n hx hb dX10_alone_5 rfl (lv_at hl 0 rfl) ?_
  refine lv_iload_n hx hb dX10_alone_6 rfl (lv_at hl 1 rfl) ?_
  refine k_Ri (va_runS (As := [.int x0]) (rest := [.ref (ad 60)]) ⟨hx, hb, hml, hown, hts⟩ (c_X10_noKind_1 l G z ad M_1 (x := x0) hbad) (va_cwS 1 hts (gS (lwg_of t_1132 rfl) (lwg_of t_1133 rfl) (lwg_of t_13 rfl) (lwg_of t_1134 rfl)) rfl rfl rfl (by decide +kernel) ⟨Nat.le_of_ble_eq_true rfl, Nat.le_of_ble_eq_true rfl⟩) hI.preS rfl rfl hl.1 rfl (lv_room (Nat.le_of_ble_eq_true rfl)) dX10_alone_7 ⟨Nat.le_of_ble_eq_true rfl, Nat.le_of_ble_eq_true rfl⟩) (fun _ h => h) (fun r_7 hp_8 => ?_)
  rw [hp_8]
  refine lv_if_ne (tgt := 20) hx hb dX10_alone_10 (by decide) (fun c_9 => ?_) (fun c_9 => ?_)
  · -- 10: nI 1 ne
    refine lv_iconst (v := nI 1) hx hb dX10_alone_20 (by decide) ?_
    refine lv_goto (tgt := 25) hx hb dX10_alone_21 (by decide) ?_
    refine lv_iconst (v := nI 1) hx hb dX10_alone_25 (by decide) ?_
    refine k_Ni (va_runV (As := [.int (nI 1), .int (nI 1)]) (rest := []) ⟨hx, hb, hml, hown, hts⟩ (c_X10_throwsIf_1 l G z ad M_1 (th := 0) (ln := ln) (on := on) (ao := ao) (vr := vr) (sn := sn) (tp := tp) (pt := pt) (zs := zs) (bg := bg) (fa := fa) (c0 := 1) hm_5) (cwV 2 hts (gV (lwg_of t_1141 rfl) (lwg_of t_1143 rfl) (lwg_of ts_23 rfl) (lwg_of t_13 rfl) (lwg_of t_1144 rfl)) rfl rfl rfl (by decide +kernel) ⟨Nat.le_of_ble_eq_true rfl, Nat.le_of_ble_eq_true rfl⟩) (hI.preV hm_5 rfl) rfl rfl hl.1 rfl (lv_room (Nat.le_of_ble_eq_true rfl)) dX10_alone_26 ⟨Nat.le_of_ble_eq_true rfl, Nat.le_of_ble_eq_true rfl⟩) hI (fun r_10 M_12 H_13 locs_14 hp_11 hI => ?_)
    obtain ⟨hr_15, hm_16, hF_17⟩ := hp_11
    have hF_18 : ∀ j : Nat, j ≠ 60 → M_12 j = M j := fun j q0 => (hF_17 j q0).trans (hF_6 j q0)
    rw [hr_15]
    refine lv_if_ne (tgt := 55) hx hb dX10_alone_29 (by decide) (fun c_19 => ?_) (fun c_19 => ?_)
    · -- 29: nI 1 ne
      exact e_Nv hx hb hr hlocks hI ⟨hm_16, (fun j q0 => hF_18 j q0)⟩ dX10_alone_55
    · -- 29: nI 1 eq
      exact absurd c_19 (by decide)
  · -- 10: nI 1 eq
    exact absurd c_9 (by decide)

/-- X10_alone -/
abbrev rm_c_X10_alone_b : Room := { frames := 2, cells := 0, slots := 0, locals := 42 }
set_option maxHeartbeats 4000000 in
set_option maxRecDepth 100000 in
theorem c_X10_alone_b (l : Launch) (G : GG) (z : Nat) (ad : Nat → Nat) (M : Mem) {th : Nat} {ln : Nat} {on : Nat} {ao : Nat} {vr : Nat} {sn : Nat} {tp : Nat} {pt : Nat} {zs : Nat} {bg : Nat} {fa : Int32} {kd : Nat} {x1 : Int32} {x2 : Int32} (h60 : M 60 = some (cModel ad th ln on ao vr sn tp pt zs bg fa)) (hkd : kd < 6) (hbad : x1 < 0 ∨ ¬ x1 < nI 6) : Met l yX10_alone wsX10_alone rm_c_X10_alone_b (Pr G z ad M [.ref (ad 60), .int (nI kd), .int x1, .int x2]) (Nv G z ad (fun (M' : Mem) => M' 60 = some (cModel ad 1 ln on ao vr sn tp pt zs bg fa) ∧ (∀ j : Nat, j ≠ 60 → M' j = M j))) 0 0 (fr z) := by
  refine Met.ofW (cc := cX10_alone) (maxL := 4) (ret := none) (by decide) rfl ?_
  intro p e s m args below meth c s₁ B hml hv
  obtain ⟨rfl, hv⟩ := hv
  have hI := Iv.entry hv
  have hx := B.exec
  have hb := B.bytes
  have hr := B.returns
  have hts := atoms_spec (ws := wsX10_alone) B.pre
  have hown : s.vm.findClass RX10 = some m.cls := findClass_of_methodNamed B.named
  have hlocks := B.notSynchronized
  have f_3 := hts _ (List.mem_cons_of_mem _ (lwg_of t_1013 rfl))
  have i_RX10 : ∀ w ∈ u_ws RX10 TX10 38, w ∈ wsX10_alone := fun w h => List.mem_cons_of_mem _ (iu_X10 w h)
  have hl := lv_entry ([.ref (ad 60), .int (nI kd), .int x1, .int x2]) (n := 4) (Nat.le_of_ble_eq_true rfl)
  rw [lg_entry_eq]
  generalize (lg_sl ([.ref (ad 60), .int (nI kd), .int x1, .int x2]) ++ List.replicate (4 - (lg_sl ([.ref (ad 60), .int (nI kd), .int x1, .int x2])).length) Slot.unset).toArray = ls at hl ⊢
  have hl : lv_has ls 4 [(0, .ref (ad 60)), (1, .int (nI kd)), (2, .int x1), (3, .int x2)] := hl
  refine lv_aload_n hx hb dX10_alone_0 rfl (lv_at hl 0 rfl) ?_
  refine lv_iconst (v := nI 0) hx hb dX10_alone_1 (by decide) ?_
  refine h_put (C := RX10) (T := TX10) (N := 38) hx hb hts i_RX10 tyX10 tyX10_ok nmX10 hown hI h60 rfl 0 (by decide) f_3 rfl rfl rfl rfl (Nat.le_of_ble_eq_true rfl) dX10_alone_2 (fun M_1 H_2 locs_3 eM_4 hI => ?_)
  have hm_5 : M_1 60 = some (cModel ad 0 ln on ao vr sn tp pt zs bg fa) := by rw [eM_4]; exact va_up_self _ _ _
  have hF_6 : ∀ j : Nat, j ≠ 60 → M_1 j = M j := fun j q0 => by rw [eM_4, va_up_ne _ _ q0]
  refine lv_aload_n hx hb dX10_alone_5 rfl (lv_at hl 0 rfl) ?_
  refine lv_iload_n hx hb dX10_alone_6 rfl (lv_at hl 1 rfl) ?_
  refine k_Ri (va_runS (As := [.int (nI kd)]) (rest := [.ref (ad 60)]) ⟨hx, hb, hml, hown, hts⟩ (c_X10_noKind_0 l G z ad M_1 (t := kd) (by omega)) (va_cwS 1 hts (gS (lwg_of t_1132 rfl) (lwg_of t_1133 rfl) (lwg_of t_13 rfl) (lwg_of t_1134 rfl)) rfl rfl rfl (by decide +kernel) ⟨Nat.le_of_ble_eq_true rfl, Nat.le_of_ble_eq_true rfl⟩) hI.preS rfl rfl hl.1 rfl (lv_room (Nat.le_of_ble_eq_true rfl)) dX10_alone_7 ⟨Nat.le_of_ble_eq_true rfl, Nat.le_of_ble_eq_true rfl⟩) (fun _ h => h) (fun r_7 hp_8 => ?_)
  rw [hp_8]
  refine lv_if_ne (tgt := 20) hx hb dX10_alone_10 (by decide) (fun c_9 => ?_) (fun c_9 => ?_)
  · -- 10: nI 0 ne
    exact absurd (by decide) c_9
  · -- 10: nI 0 eq
    refine lv_iload_n hx hb dX10_alone_13 rfl (lv_at hl 2 rfl) ?_
    refine k_Ri (va_runS (As := [.int x1]) (rest := [.ref (ad 60)]) ⟨hx, hb, hml, hown, hts⟩ (c_X10_noRole_1 l G z ad M_1 (x := x1) hbad) (va_cwS 1 hts (gS (lwg_of t_1138 rfl) (lwg_of t_1139 rfl) (lwg_of t_13 rfl) (lwg_of t_1140 rfl)) rfl rfl rfl (by decide +kernel) ⟨Nat.le_of_ble_eq_true rfl, Nat.le_of_ble_eq_true rfl⟩) hI.preS rfl rfl hl.1 rfl (lv_room (Nat.le_of_ble_eq_true rfl)) dX10_alone_14 ⟨Nat.le_of_ble_eq_true rfl, Nat.le_of_ble_eq_true rfl⟩) (fun _ h => h) (fun r_10 hp_11 => ?_)
    rw [hp_11]
    refine lv_if_eq (tgt := 24) hx hb dX10_alone_17 (by decide) (fun c_12 => ?_) (fun c_12 => ?_)
    · -- 17: nI 1 eq
      exact absurd c_12 (by decide)
    · -- 17: nI 1 ne
      refine lv_iconst (v := nI 1) hx hb dX10_alone_20 (by decide) ?_
      refine lv_goto (tgt := 25) hx hb dX10_alone_21 (by decide) ?_
      refine lv_iconst (v := nI 1) hx hb dX10_alone_25 (by decide) ?_
      refine k_Ni (va_runV (As := [.int (nI 1), .int (nI 1)]) (rest := []) ⟨hx, hb, hml, hown, hts⟩ (c_X10_throwsIf_1 l G z ad M_1 (th := 0) (ln := ln) (on := on) (ao := ao) (vr := vr) (sn := sn) (tp := tp) (pt := pt) (zs := zs) (bg := bg) (fa := fa) (c0 := 1) hm_5) (cwV 2 hts (gV (lwg_of t_1141 rfl) (lwg_of t_1143 rfl) (lwg_of ts_23 rfl) (lwg_of t_13 rfl) (lwg_of t_1144 rfl)) rfl rfl rfl (by decide +kernel) ⟨Nat.le_of_ble_eq_true rfl, Nat.le_of_ble_eq_true rfl⟩) (hI.preV hm_5 rfl) rfl rfl hl.1 rfl (lv_room (Nat.le_of_ble_eq_true rfl)) dX10_alone_26 ⟨Nat.le_of_ble_eq_true rfl, Nat.le_of_ble_eq_true rfl⟩) hI (fun r_13 M_15 H_16 locs_17 hp_14 hI => ?_)
      obtain ⟨hr_18, hm_19, hF_20⟩ := hp_14
      have hF_21 : ∀ j : Nat, j ≠ 60 → M_15 j = M j := fun j q0 => (hF_20 j q0).trans (hF_6 j q0)
      rw [hr_18]
      refine lv_if_ne (tgt := 55) hx hb dX10_alone_29 (by decide) (fun c_22 => ?_) (fun c_22 => ?_)
      · -- 29: nI 1 ne
        exact e_Nv hx hb hr hlocks hI ⟨hm_19, (fun j q0 => hF_21 j q0)⟩ dX10_alone_55
      · -- 29: nI 1 eq
        exact absurd c_22 (by decide)

/-- X10_alone -/
abbrev rm_c_X10_alone_c : Room := { frames := 2, cells := 0, slots := 0, locals := 42 }
set_option maxHeartbeats 4000000 in
set_option maxRecDepth 100000 in
theorem c_X10_alone_c (l : Launch) (G : GG) (z : Nat) (ad : Nat → Nat) (M : Mem) {th : Nat} {ln : Nat} {on : Nat} {ao : Nat} {vr : Nat} {sn : Nat} {tp : Nat} {pt : Nat} {zs : Nat} {bg : Nat} {fa : Int32} {kd : Nat} {ro : Nat} {x2 : Int32} (h60 : M 60 = some (cModel ad th ln on ao vr sn tp pt zs bg fa)) (hkd : kd < 6) (hro : ro < 6) (hbad : x2 < 0 ∨ ¬ x2 < nI 101) : Met l yX10_alone wsX10_alone rm_c_X10_alone_c (Pr G z ad M [.ref (ad 60), .int (nI kd), .int (nI ro), .int x2]) (Nv G z ad (fun (M' : Mem) => M' 60 = some (cModel ad 2 ln on ao vr sn tp pt zs bg fa) ∧ (∀ j : Nat, j ≠ 60 → M' j = M j))) 0 0 (fr z) := by
  refine Met.ofW (cc := cX10_alone) (maxL := 4) (ret := none) (by decide) rfl ?_
  intro p e s m args below meth c s₁ B hml hv
  obtain ⟨rfl, hv⟩ := hv
  have hI := Iv.entry hv
  have hx := B.exec
  have hb := B.bytes
  have hr := B.returns
  have hts := atoms_spec (ws := wsX10_alone) B.pre
  have hown : s.vm.findClass RX10 = some m.cls := findClass_of_methodNamed B.named
  have hlocks := B.notSynchronized
  have f_3 := hts _ (List.mem_cons_of_mem _ (lwg_of t_1013 rfl))
  have i_RX10 : ∀ w ∈ u_ws RX10 TX10 38, w ∈ wsX10_alone := fun w h => List.mem_cons_of_mem _ (iu_X10 w h)
  have hl := lv_entry ([.ref (ad 60), .int (nI kd), .int (nI ro), .int x2]) (n := 4) (Nat.le_of_ble_eq_true rfl)
  rw [lg_entry_eq]
  generalize (lg_sl ([.ref (ad 60), .int (nI kd), .int (nI ro), .int x2]) ++ List.replicate (4 - (lg_sl ([.ref (ad 60), .int (nI kd), .int (nI ro), .int x2])).length) Slot.unset).toArray = ls at hl ⊢
  have hl : lv_has ls 4 [(0, .ref (ad 60)), (1, .int (nI kd)), (2, .int (nI ro)), (3, .int x2)] := hl
  refine lv_aload_n hx hb dX10_alone_0 rfl (lv_at hl 0 rfl) ?_
  refine lv_iconst (v := nI 0) hx hb dX10_alone_1 (by decide) ?_
  refine h_put (C := RX10) (T := TX10) (N := 38) hx hb hts i_RX10 tyX10 tyX10_ok nmX10 hown hI h60 rfl 0 (by decide) f_3 rfl rfl rfl rfl (Nat.le_of_ble_eq_true rfl) dX10_alone_2 (fun M_1 H_2 locs_3 eM_4 hI => ?_)
  have hm_5 : M_1 60 = some (cModel ad 0 ln on ao vr sn tp pt zs bg fa) := by rw [eM_4]; exact va_up_self _ _ _
  have hF_6 : ∀ j : Nat, j ≠ 60 → M_1 j = M j := fun j q0 => by rw [eM_4, va_up_ne _ _ q0]
  refine lv_aload_n hx hb dX10_alone_5 rfl (lv_at hl 0 rfl) ?_
  refine lv_iload_n hx hb dX10_alone_6 rfl (lv_at hl 1 rfl) ?_
  refine k_Ri (va_runS (As := [.int (nI kd)]) (rest := [.ref (ad 60)]) ⟨hx, hb, hml, hown, hts⟩ (c_X10_noKind_0 l G z ad M_1 (t := kd) (by omega)) (va_cwS 1 hts (gS (lwg_of t_1132 rfl) (lwg_of t_1133 rfl) (lwg_of t_13 rfl) (lwg_of t_1134 rfl)) rfl rfl rfl (by decide +kernel) ⟨Nat.le_of_ble_eq_true rfl, Nat.le_of_ble_eq_true rfl⟩) hI.preS rfl rfl hl.1 rfl (lv_room (Nat.le_of_ble_eq_true rfl)) dX10_alone_7 ⟨Nat.le_of_ble_eq_true rfl, Nat.le_of_ble_eq_true rfl⟩) (fun _ h => h) (fun r_7 hp_8 => ?_)
  rw [hp_8]
  refine lv_if_ne (tgt := 20) hx hb dX10_alone_10 (by decide) (fun c_9 => ?_) (fun c_9 => ?_)
  · -- 10: nI 0 ne
    exact absurd (by decide) c_9
  · -- 10: nI 0 eq
    refine lv_iload_n hx hb dX10_alone_13 rfl (lv_at hl 2 rfl) ?_
    refine k_Ri (va_runS (As := [.int (nI ro)]) (rest := [.ref (ad 60)]) ⟨hx, hb, hml, hown, hts⟩ (c_X10_noRole_0 l G z ad M_1 (t := ro) (by omega)) (va_cwS 1 hts (gS (lwg_of t_1138 rfl) (lwg_of t_1139 rfl) (lwg_of t_13 rfl) (lwg_of t_1140 rfl)) rfl rfl rfl (by decide +kernel) ⟨Nat.le_of_ble_eq_true rfl, Nat.le_of_ble_eq_true rfl⟩) hI.preS rfl rfl hl.1 rfl (lv_room (Nat.le_of_ble_eq_true rfl)) dX10_alone_14 ⟨Nat.le_of_ble_eq_true rfl, Nat.le_of_ble_eq_true rfl⟩) (fun _ h => h) (fun r_10 hp_11 => ?_)
    rw [hp_11]
    refine lv_if_eq (tgt := 24) hx hb dX10_alone_17 (by decide) (fun c_12 => ?_) (fun c_12 => ?_)
    · -- 17: nI 0 eq
      refine lv_iconst (v := nI 0) hx hb dX10_alone_24 (by decide) ?_
      refine lv_iconst (v := nI 1) hx hb dX10_alone_25 (by decide) ?_
      refine k_Ri (va_runV (As := [.int (nI 0), .int (nI 1)]) (rest := []) ⟨hx, hb, hml, hown, hts⟩ (c_X10_throwsIf_0 l G z ad M_1 (th := 0) (ln := ln) (on := on) (ao := ao) (vr := vr) (sn := sn) (tp := tp) (pt := pt) (zs := zs) (bg := bg) (fa := fa) (c0 := 1) hm_5) (cwV 2 hts (gV (lwg_of t_1141 rfl) (lwg_of t_1143 rfl) (lwg_of ts_23 rfl) (lwg_of t_13 rfl) (lwg_of t_1144 rfl)) rfl rfl rfl (by decide +kernel) ⟨Nat.le_of_ble_eq_true rfl, Nat.le_of_ble_eq_true rfl⟩) (hI.preV hm_5 rfl) rfl rfl hl.1 rfl (lv_room (Nat.le_of_ble_eq_true rfl)) dX10_alone_26 ⟨Nat.le_of_ble_eq_true rfl, Nat.le_of_ble_eq_true rfl⟩) (fun _ h => h) (fun r_13 hp_14 => ?_)
      rw [hp_14]
      refine lv_if_ne (tgt := 55) hx hb dX10_alone_29 (by decide) (fun c_15 => ?_) (fun c_15 => ?_)
      · -- 29: nI 0 ne
        exact absurd (by decide) c_15
      · -- 29: nI 0 eq
        refine lv_aload_n hx hb dX10_alone_32 rfl (lv_at hl 0 rfl) ?_
        refine lv_iload_n hx hb dX10_alone_33 rfl (lv_at hl 3 rfl) ?_
        refine lv_iconst (v := nI 0) hx hb dX10_alone_34 (by decide) ?_
        refine lv_bipush (v := nI 100) hx hb dX10_alone_35 (by decide) ?_
        refine k_Ri (va_runS (As := [.int x2, .int (nI 0), .int (nI 100)]) (rest := [.ref (ad 60)]) ⟨hx, hb, hml, hown, hts⟩ (c_X10_in l G z ad M_1 (x := x2) (a := nI 0) (b := nI 100) ) (va_cwS 3 hts (gS (lwg_of t_1135 rfl) (lwg_of t_1136 rfl) (lwg_of t_13 rfl) (lwg_of t_1137 rfl)) rfl rfl rfl (by decide +kernel) ⟨Nat.le_of_ble_eq_true rfl, Nat.le_of_ble_eq_true rfl⟩) hI.preS rfl rfl hl.1 rfl (lv_room (Nat.le_of_ble_eq_true rfl)) dX10_alone_37 ⟨Nat.le_of_ble_eq_true rfl, Nat.le_of_ble_eq_true rfl⟩) (fun _ h => h) (fun r_16 hp_17 => ?_)
        rw [hp_17]
        refine n_eq (show _ = nI 0 from by rw [inB_f (k := 100) hbad (by decide)]; rfl) ?_
        refine lv_if_ne (tgt := 47) hx hb dX10_alone_40 (by decide) (fun c_18 => ?_) (fun c_18 => ?_)
        · -- 40: nI 0 ne
          exact absurd (by decide) c_18
        · -- 40: nI 0 eq
          refine lv_iconst (v := nI 1) hx hb dX10_alone_43 (by decide) ?_
          refine lv_goto (tgt := 48) hx hb dX10_alone_44 (by decide) ?_
          refine lv_iconst (v := nI 2) hx hb dX10_alone_48 (by decide) ?_
          refine k_Ni (va_runV (As := [.int (nI 1), .int (nI 2)]) (rest := []) ⟨hx, hb, hml, hown, hts⟩ (c_X10_throwsIf_1 l G z ad M_1 (th := 0) (ln := ln) (on := on) (ao := ao) (vr := vr) (sn := sn) (tp := tp) (pt := pt) (zs := zs) (bg := bg) (fa := fa) (c0 := 2) hm_5) (cwV 2 hts (gV (lwg_of t_1141 rfl) (lwg_of t_1143 rfl) (lwg_of ts_23 rfl) (lwg_of t_13 rfl) (lwg_of t_1144 rfl)) rfl rfl rfl (by decide +kernel) ⟨Nat.le_of_ble_eq_true rfl, Nat.le_of_ble_eq_true rfl⟩) (hI.preV hm_5 rfl) rfl rfl hl.1 rfl (lv_room (Nat.le_of_ble_eq_true rfl)) dX10_alone_49 ⟨Nat.le_of_ble_eq_true rfl, Nat.le_of_ble_eq_true rfl⟩) hI (fun r_19 M_21 H_22 locs_23 hp_20 hI => ?_)
          obtain ⟨hr_24, hm_25, hF_26⟩ := hp_20
          have hF_27 : ∀ j : Nat, j ≠ 60 → M_21 j = M j := fun j q0 => (hF_26 j q0).trans (hF_6 j q0)
          rw [hr_24]
          refine lv_if_eq (tgt := 56) hx hb dX10_alone_52 (by decide) (fun c_28 => ?_) (fun c_28 => ?_)
          · -- 52: nI 1 eq
            exact absurd c_28 (by decide)
          · -- 52: nI 1 ne
            exact e_Nv hx hb hr hlocks hI ⟨hm_25, (fun j q0 => hF_27 j q0)⟩ dX10_alone_55
    · -- 17: nI 0 ne
      exact absurd (by decide) c_12

/-- X10_holds -/
abbrev rm_c_X10_holds : Room := { frames := 2, cells := 0, slots := 0, locals := 42 }
set_option maxHeartbeats 4000000 in
set_option maxRecDepth 100000 in
theorem c_X10_holds (l : Launch) (G : GG) (z : Nat) (ad : Nat → Nat) (M : Mem) {th : Nat} {ln : Nat} {on : Nat} {ao : Nat} {vr : Nat} {sn : Nat} {tp : Nat} {pt : Nat} {zs : Nat} {bg : Nat} {fa : Int32} {ho : Nat → Bool} {kd : Nat} {b : Bool} (h60 : M 60 = some (cModel ad th ln on ao vr sn tp pt zs bg fa)) (h64 : M 64 = some (aZ G 6 (bF ho))) (hkd : kd < 6) : Met l yX10_holds wsX10_holds rm_c_X10_holds (Pr G z ad M [.ref (ad 60), .int (nI kd), .int (bI b)]) (Ni G z ad (fun (r : Int32) (M' : Mem) => r = bI (decide (ho kd ≠ b)) ∧ M' 60 = some (cModel ad 0 ln on ao vr sn tp pt zs bg fa) ∧ M' 64 = some (aZ G 6 (bF (va_up ho kd b))) ∧ (∀ j : Nat, j ≠ 60 → j ≠ 64 → M' j = M j))) 0 0 (fr z) := by
  refine Met.ofW (cc := cX10_holds) (maxL := 4) (ret := (some .boolean)) (by decide) rfl ?_
  intro p e s m args below meth c s₁ B hml hv
  obtain ⟨rfl, hv⟩ := hv
  have hI := Iv.entry hv
  have hx := B.exec
  have hb := B.bytes
  have hr := B.returns
  have hts := atoms_spec (ws := wsX10_holds) B.pre
  have hown : s.vm.findClass RX10 = some m.cls := findClass_of_methodNamed B.named
  have hlocks := B.notSynchronized
  have f_3 := hts _ (List.mem_cons_of_mem _ (lwg_of t_1013 rfl))
  have i_RX10 : ∀ w ∈ u_ws RX10 TX10 38, w ∈ wsX10_holds := fun w h => List.mem_cons_of_mem _ (iu_X10 w h)
  have f_23 := hts _ (List.mem_cons_of_mem _ (lwg_of t_1017 rfl))
  have hl := lv_entry ([.ref (ad 60), .int (nI kd), .int (bI b)]) (n := 4) (Nat.le_of_ble_eq_true rfl)
  rw [lg_entry_eq]
  generalize (lg_sl ([.ref (ad 60), .int (nI kd), .int (bI b)]) ++ List.replicate (4 - (lg_sl ([.ref (ad 60), .int (nI kd), .int (bI b)])).length) Slot.unset).toArray = ls at hl ⊢
  have hl : lv_has ls 4 [(0, .ref (ad 60)), (1, .int (nI kd)), (2, .int (bI b))] := hl
  refine lv_aload_n hx hb dX10_holds_0 rfl (lv_at hl 0 rfl) ?_
  refine lv_iconst (v := nI 0) hx hb dX10_holds_1 (by decide) ?_
  refine h_put (C := RX10) (T := TX10) (N := 38) hx hb hts i_RX10 tyX10 tyX10_ok nmX10 hown hI h60 rfl 0 (by decide) f_3 rfl rfl rfl rfl (Nat.le_of_ble_eq_true rfl) dX10_holds_2 (fun M_1 H_2 locs_3 eM_4 hI => ?_)
  have hm_5 : M_1 60 = some (cModel ad 0 ln on ao vr sn tp pt zs bg fa) := by rw [eM_4]; exact va_up_self _ _ _
  have hm_6 : M_1 64 = some (aZ G 6 (bF ho)) := by rw [eM_4, va_up_ne _ _ (by decide)]; exact h64
  have hF_7 : ∀ j : Nat, j ≠ 60 → M_1 j = M j := fun j q0 => by rw [eM_4, va_up_ne _ _ q0]
  refine lv_aload_n hx hb dX10_holds_5 rfl (lv_at hl 0 rfl) ?_
  refine lv_iload_n hx hb dX10_holds_6 rfl (lv_at hl 1 rfl) ?_
  refine k_Ri (va_runS (As := [.int (nI kd)]) (rest := [.ref (ad 60)]) ⟨hx, hb, hml, hown, hts⟩ (c_X10_noKind_0 l G z ad M_1 (t := kd) (by omega)) (va_cwS 1 hts (gS (lwg_of t_1132 rfl) (lwg_of t_1133 rfl) (lwg_of t_13 rfl) (lwg_of t_1134 rfl)) rfl rfl rfl (by decide +kernel) ⟨Nat.le_of_ble_eq_true rfl, Nat.le_of_ble_eq_true rfl⟩) hI.preS rfl rfl hl.1 rfl (lv_room (Nat.le_of_ble_eq_true rfl)) dX10_holds_7 ⟨Nat.le_of_ble_eq_true rfl, Nat.le_of_ble_eq_true rfl⟩) (fun _ h => h) (fun r_8 hp_9 => ?_)
  rw [hp_9]
  refine lv_iconst (v := nI 1) hx hb dX10_holds_10 (by decide) ?_
  refine k_Ri (va_runV (As := [.int (nI 0), .int (nI 1)]) (rest := []) ⟨hx, hb, hml, hown, hts⟩ (c_X10_throwsIf_0 l G z ad M_1 (th := 0) (ln := ln) (on := on) (ao := ao) (vr := vr) (sn := sn) (tp := tp) (pt := pt) (zs := zs) (bg := bg) (fa := fa) (c0 := 1) hm_5) (cwV 2 hts (gV (lwg_of t_1141 rfl) (lwg_of t_1143 rfl) (lwg_of ts_23 rfl) (lwg_of t_13 rfl) (lwg_of t_1144 rfl)) rfl rfl rfl (by decide +kernel) ⟨Nat.le_of_ble_eq_true rfl, Nat.le_of_ble_eq_true rfl⟩) (hI.preV hm_5 rfl) rfl rfl hl.1 rfl (lv_room (Nat.le_of_ble_eq_true rfl)) dX10_holds_11 ⟨Nat.le_of_ble_eq_true rfl, Nat.le_of_ble_eq_true rfl⟩) (fun _ h => h) (fun r_10 hp_11 => ?_)
  rw [hp_11]
  refine lv_if_eq (tgt := 19) hx hb dX10_holds_14 (by decide) (fun c_12 => ?_) (fun c_12 => ?_)
  · -- 14: nI 0 eq
    refine lv_aload_n hx hb dX10_holds_19 rfl (lv_at hl 0 rfl) ?_
    refine h_get (C := RX10) (T := TX10) (N := 38) hx hb hts i_RX10 hown hI hm_5 rfl 4 (by decide) f_23 rfl rfl dX10_holds_20 ?_
    refine lv_iload_n hx hb dX10_holds_23 rfl (lv_at hl 1 rfl) ?_
    refine h_zald (i := kd) hx hb hI hm_6 (by omega) (by decide) dX10_holds_24 ?_
    refine lv_istore_n (lv' := [(3, .int (bI (ho kd))), (0, .ref (ad 60)), (1, .int (nI kd)), (2, .int (bI b))]) hx hb dX10_holds_25 rfl hl (by decide) rfl (fun ls hl => ?_)
    refine lv_aload_n hx hb dX10_holds_26 rfl (lv_at hl 1 rfl) ?_
    refine h_get (C := RX10) (T := TX10) (N := 38) hx hb hts i_RX10 hown hI hm_5 rfl 4 (by decide) f_23 rfl rfl dX10_holds_27 ?_
    refine lv_iload_n hx hb dX10_holds_30 rfl (lv_at hl 2 rfl) ?_
    refine lv_iload_n hx hb dX10_holds_31 rfl (lv_at hl 3 rfl) ?_
    refine h_zast (i := kd) (x := bI b) hx hb hI hm_6 (by omega) (by decide) (bI_vnar _) dX10_holds_32 (fun M_13 H_14 locs_15 eM_16 hI => ?_)
    rw [upd_bF] at eM_16
    have hm_17 : M_13 60 = some (cModel ad 0 ln on ao vr sn tp pt zs bg fa) := by rw [eM_16, va_up_ne _ _ (by decide)]; exact hm_5
    have hm_18 : M_13 64 = some (aZ G 6 (bF (va_up ho kd b))) := by rw [eM_16]; exact va_up_self _ _ _
    have hF_19 : ∀ j : Nat, j ≠ 60 → j ≠ 64 → M_13 j = M j := fun j q0 q1 => by rw [eM_16, va_up_ne _ _ q1]; exact hF_7 j q0
    refine lv_iload_n hx hb dX10_holds_33 rfl (lv_at hl 0 rfl) ?_
    refine lv_iload_n hx hb dX10_holds_34 rfl (lv_at hl 3 rfl) ?_
    refine lv_icmp_eq (tgt := 42) hx hb dX10_holds_35 (by decide) (fun c_20 => ?_) (fun c_20 => ?_)
    · -- 35: bI (ho kd) eq
      have c_20 : ho kd = b := bI_inj c_20
      refine lv_iconst (v := nI 0) hx hb dX10_holds_42 (by decide) ?_
      exact e_Ni hx hb hr rfl hlocks hI ⟨dec_f (Decidable.not_not.mpr (by assumption)), hm_17, hm_18, (fun j q0 q1 => hF_19 j q0 q1)⟩ dX10_holds_43
    · -- 35: bI (ho kd) ne
      have c_20 : ho kd ≠ b := (fun h => c_20 (congrArg bI h))
      refine lv_iconst (v := nI 1) hx hb dX10_holds_38 (by decide) ?_
      refine lv_goto (tgt := 43) hx hb dX10_holds_39 (by decide) ?_
      exact e_Ni hx hb hr rfl hlocks hI ⟨dec_t (by assumption), hm_17, hm_18, (fun j q0 q1 => hF_19 j q0 q1)⟩ dX10_holds_43
  · -- 14: nI 0 ne
    exact absurd (by decide) c_12

/-- X10_holds -/
abbrev rm_c_X10_holds_a : Room := { frames := 2, cells := 0, slots := 0, locals := 42 }
set_option maxHeartbeats 4000000 in
set_option maxRecDepth 100000 in
theorem c_X10_holds_a (l : Launch) (G : GG) (z : Nat) (ad : Nat → Nat) (M : Mem) {th : Nat} {ln : Nat} {on : Nat} {ao : Nat} {vr : Nat} {sn : Nat} {tp : Nat} {pt : Nat} {zs : Nat} {bg : Nat} {fa : Int32} {x0 : Int32} {b : Bool} (h60 : M 60 = some (cModel ad th ln on ao vr sn tp pt zs bg fa)) (hbad : x0 < 0 ∨ ¬ x0 < nI 6) : Met l yX10_holds wsX10_holds rm_c_X10_holds_a (Pr G z ad M [.ref (ad 60), .int x0, .int (bI b)]) (Ni G z ad (fun (r : Int32) (M' : Mem) => r = nI 0 ∧ M' 60 = some (cModel ad 1 ln on ao vr sn tp pt zs bg fa) ∧ (∀ j : Nat, j ≠ 60 → M' j = M j))) 0 0 (fr z) := by
  refine Met.ofW (cc := cX10_holds) (maxL := 4) (ret := (some .boolean)) (by decide) rfl ?_
  intro p e s m args below meth c s₁ B hml hv
  obtain ⟨rfl, hv⟩ := hv
  have hI := Iv.entry hv
  have hx := B.exec
  have hb := B.bytes
  have hr := B.returns
  have hts := atoms_spec (ws := wsX10_holds) B.pre
  have hown : s.vm.findClass RX10 = some m.cls := findClass_of_methodNamed B.named
  have hlocks := B.notSynchronized
  have f_3 := hts _ (List.mem_cons_of_mem _ (lwg_of t_1013 rfl))
  have i_RX10 : ∀ w ∈ u_ws RX10 TX10 38, w ∈ wsX10_holds := fun w h => List.mem_cons_of_mem _ (iu_X10 w h)
  have hl := lv_entry ([.ref (ad 60), .int x0, .int (bI b)]) (n := 4) (Nat.le_of_ble_eq_true rfl)
  rw [lg_entry_eq]
  generalize (lg_sl ([.ref (ad 60), .int x0, .int (bI b)]) ++ List.replicate (4 - (lg_sl ([.ref (ad 60), .int x0, .int (bI b)])).length) Slot.unset).toArray = ls at hl ⊢
  have hl : lv_has ls 4 [(0, .ref (ad 60)), (1, .int x0), (2, .int (bI b))] := hl
  refine lv_aload_n hx hb dX10_holds_0 rfl (lv_at hl 0 rfl) ?_
  refine lv_iconst (v := nI 0) hx hb dX10_holds_1 (by decide) ?_
  refine h_put (C := RX10) (T := TX10) (N := 38) hx hb hts i_RX10 tyX10 tyX10_ok nmX10 hown hI h60 rfl 0 (by decide) f_3 rfl rfl rfl rfl (Nat.le_of_ble_eq_true rfl) dX10_holds_2 (fun M_1 H_2 locs_3 eM_4 hI => ?_)
  have hm_5 : M_1 60 = some (cModel ad 0 ln on ao vr sn tp pt zs bg fa) := by rw [eM_4]; exact va_up_self _ _ _
  have hF_6 : ∀ j : Nat, j ≠ 60 → M_1 j = M j := fun j q0 => by rw [eM_4, va_up_ne _ _ q0]
  refine lv_aload_n hx hb dX10_holds_5 rfl (lv_at hl 0 rfl) ?_
  refine lv_iload_n hx hb dX10_holds_6 rfl (lv_at hl 1 rfl) ?_
  refine k_Ri (va_runS (As := [.int x0]) (rest := [.ref (ad 60)]) ⟨hx, hb, hml, hown, hts⟩ (c_X10_noKind_1 l G z ad M_1 (x := x0) hbad) (va_cwS 1 hts (gS (lwg_of t_1132 rfl) (lwg_of t_1133 rfl) (lwg_of t_13 rfl) (lwg_of t_1134 rfl)) rfl rfl rfl (by decide +kernel) ⟨Nat.le_of_ble_eq_true rfl, Nat.le_of_ble_eq_true rfl⟩) hI.preS rfl rfl hl.1 rfl (lv_room (Nat.le_of_ble_eq_true rfl)) dX10_holds_7 ⟨Nat.le_of_ble_eq_true rfl, Nat.le_of_ble_eq_true rfl⟩) (fun _ h => h) (fun r_7 hp_8 => ?_)
  rw [hp_8]
  refine lv_iconst (v := nI 1) hx hb dX10_holds_10 (by decide) ?_
  refine k_Ni (va_runV (As := [.int (nI 1), .int (nI 1)]) (rest := []) ⟨hx, hb, hml, hown, hts⟩ (c_X10_throwsIf_1 l G z ad M_1 (th := 0) (ln := ln) (on := on) (ao := ao) (vr := vr) (sn := sn) (tp := tp) (pt := pt) (zs := zs) (bg := bg) (fa := fa) (c0 := 1) hm_5) (cwV 2 hts (gV (lwg_of t_1141 rfl) (lwg_of t_1143 rfl) (lwg_of ts_23 rfl) (lwg_of t_13 rfl) (lwg_of t_1144 rfl)) rfl rfl rfl (by decide +kernel) ⟨Nat.le_of_ble_eq_true rfl, Nat.le_of_ble_eq_true rfl⟩) (hI.preV hm_5 rfl) rfl rfl hl.1 rfl (lv_room (Nat.le_of_ble_eq_true rfl)) dX10_holds_11 ⟨Nat.le_of_ble_eq_true rfl, Nat.le_of_ble_eq_true rfl⟩) hI (fun r_9 M_11 H_12 locs_13 hp_10 hI => ?_)
  obtain ⟨hr_14, hm_15, hF_16⟩ := hp_10
  have hF_17 : ∀ j : Nat, j ≠ 60 → M_11 j = M j := fun j q0 => (hF_16 j q0).trans (hF_6 j q0)
  rw [hr_14]
  refine lv_if_eq (tgt := 19) hx hb dX10_holds_14 (by decide) (fun c_18 => ?_) (fun c_18 => ?_)
  · -- 14: nI 1 eq
    exact absurd c_18 (by decide)
  · -- 14: nI 1 ne
    refine lv_iconst (v := nI 0) hx hb dX10_holds_17 (by decide) ?_
    exact e_Ni hx hb hr rfl hlocks hI ⟨rfl, hm_15, (fun j q0 => hF_17 j q0)⟩ dX10_holds_18
