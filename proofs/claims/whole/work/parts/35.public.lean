/-- four bytes more on the tape -/
def ad4 (tb : Nat → Nat) (len : Nat) (x : Int32) : Nat → Nat := va_up (va_up (va_up (va_up tb len (by8 x 24)) (len + 1) (by8 x 16)) (len + 2) (by8 x 8)) (len + 3) (by8 x 0)
def ad20 (tb : Nat → Nat) (len : Nat) (a b c d e : Int32) : Nat → Nat := ad4 (ad4 (ad4 (ad4 (ad4 tb len a) (len + 4) b) (len + 8) c) (len + 12) d) (len + 16) e

/-- X9_feed -/
abbrev rm_c_X9_feed_full : Room := { frames := 1, cells := 0, slots := 0, locals := 21 }
set_option maxHeartbeats 4000000 in
set_option maxRecDepth 100000 in
theorem c_X9_feed_full (l : Launch) (G : GG) (z : Nat) (ad : Nat → Nat) (M : Mem) {qa : Nat} {qs : Nat} {fw : Int32} {len : Nat} {x1 : Int32} {x2 : Int32} {x3 : Int32} {x4 : Int32} {x5 : Int32} (h0 : M 0 = some (cStore ad qa qs fw)) (h1 : M 1 = some (cTape ad len)) (hl4 : len ≤ 400) (hfu : 400 < len + 20) : Met l yX9_feed wsX9_feed rm_c_X9_feed_full (Pr G z ad M [.ref (ad 0), .int x1, .int x2, .int x3, .int x4, .int x5]) (vp_Si (fun r : Int32 => r = (-1))) 0 0 (fun _ => False) := by
  refine Met.ofW (cc := cX9_feed) (maxL := 6) (ret := (some .int)) (by decide) rfl ?_
  intro p e s m args below meth c s₁ B hml hv
  obtain ⟨rfl, hv⟩ := hv
  have hI := Iv.entry hv
  have hx := B.exec
  have hb := B.bytes
  have hr := B.returns
  have hts := atoms_spec (ws := wsX9_feed) B.pre
  have hown : s.vm.findClass RX9 = some m.cls := findClass_of_methodNamed B.named
  have hlocks := B.notSynchronized
  have i_RX9 : ∀ w ∈ u_ws RX9 TX9 10, w ∈ wsX9_feed := fun w h => List.mem_cons_of_mem _ (iu_X9 w h)
  have f_12 := hts _ (List.mem_cons_of_mem _ (lwg_of t_239 rfl))
  have hl := lv_entry ([.ref (ad 0), .int x1, .int x2, .int x3, .int x4, .int x5]) (n := 6) (Nat.le_of_ble_eq_true rfl)
  rw [lg_entry_eq]
  generalize (lg_sl ([.ref (ad 0), .int x1, .int x2, .int x3, .int x4, .int x5]) ++ List.replicate (6 - (lg_sl ([.ref (ad 0), .int x1, .int x2, .int x3, .int x4, .int x5])).length) Slot.unset).toArray = ls at hl ⊢
  have hl : lv_has ls 6 [(0, .ref (ad 0)), (1, .int x1), (2, .int x2), (3, .int x3), (4, .int x4), (5, .int x5)] := hl
  refine lv_aload_n hx hb dX9_feed_0 rfl (lv_at hl 0 rfl) ?_
  refine h_get (C := RX9) (T := TX9) (N := 10) hx hb hts i_RX9 hown hI h0 rfl 0 (by decide) f_12 rfl rfl dX9_feed_1 ?_
  refine lv_bipush (v := nI 20) hx hb dX9_feed_4 (by decide) ?_
  refine k_Ri (va_runV (As := [.int (nI 20)]) (rest := []) ⟨hx, hb, hml, hown, hts⟩ (c_X8_hasRoom l G z ad M (len := len) (n := 20) h1 (by omega) (by omega)) (cwV 1 hts (gV (lwg_of t_274 rfl) (lwg_of t_275 rfl) (lwg_of t_276 rfl) (lwg_of t_2 rfl) (lwg_of t_277 rfl)) rfl rfl rfl (by decide +kernel) ⟨Nat.le_of_ble_eq_true rfl, Nat.le_of_ble_eq_true rfl⟩) (hI.preV h1 rfl) rfl rfl hl.1 rfl (lv_room (Nat.le_of_ble_eq_true rfl)) dX9_feed_6 ⟨Nat.le_of_ble_eq_true rfl, Nat.le_of_ble_eq_true rfl⟩) (fun _ h => h) (fun r_1 hp_2 => ?_)
  rw [hp_2]
  refine lv_if_ne (tgt := 14) hx hb dX9_feed_9 (by decide) (fun c_3 => ?_) (fun c_3 => ?_)
  · -- 9: bI (decide (len + 20 ≤ 400)) ne
    have c_3 : decide (len + 20 ≤ 400) = true := bI_t (c_3)
    exact absurd (of_decide_eq_true (by assumption : decide (len + 20 ≤ 400) = true)) (by omega)
  · -- 9: bI (decide (len + 20 ≤ 400)) eq
    have c_3 : decide (len + 20 ≤ 400) = false := bI_f (c_3)
    refine lv_iconst (v := (-1)) hx hb dX9_feed_12 (by decide) ?_
    exact e_Ri hx hb hr rfl hlocks (rfl) dX9_feed_13

/-- X9_feed -/
abbrev rm_c_X9_feed : Room := { frames := 2, cells := 0, slots := 0, locals := 43 }
set_option maxHeartbeats 4000000 in
set_option maxRecDepth 100000 in
theorem c_X9_feed (l : Launch) (G : GG) (z : Nat) (ad : Nat → Nat) (M : Mem) {qa : Nat} {qs : Nat} {fw : Int32} {len : Nat} {tb : Nat → Nat} {x1 : Int32} {x2 : Int32} {x3 : Int32} {x4 : Int32} {x5 : Int32} (h0 : M 0 = some (cStore ad qa qs fw)) (h1 : M 1 = some (cTape ad len)) (h2 : M 2 = some (aI G 400 (nF tb))) (hl4 : len + 20 ≤ 400) : Met l yX9_feed wsX9_feed rm_c_X9_feed (Pr G z ad M [.ref (ad 0), .int x1, .int x2, .int x3, .int x4, .int x5]) (Ni G z ad (fun (r : Int32) (M' : Mem) => r = nI (len + 4 + 4 + 4 + 4 + 4) ∧ M' 1 = some (cTape ad (len + 4 + 4 + 4 + 4 + 4)) ∧ M' 2 = some (aI G 400 (nF (ad20 tb len x1 x2 x3 x4 x5))) ∧ (∀ j : Nat, j ≠ 1 → j ≠ 2 → M' j = M j))) 0 0 (fr z) := by
  refine Met.ofW (cc := cX9_feed) (maxL := 6) (ret := (some .int)) (by decide) rfl ?_
  intro p e s m args below meth c s₁ B hml hv
  obtain ⟨rfl, hv⟩ := hv
  have hI := Iv.entry hv
  have hx := B.exec
  have hb := B.bytes
  have hr := B.returns
  have hts := atoms_spec (ws := wsX9_feed) B.pre
  have hown : s.vm.findClass RX9 = some m.cls := findClass_of_methodNamed B.named
  have hlocks := B.notSynchronized
  have i_RX9 : ∀ w ∈ u_ws RX9 TX9 10, w ∈ wsX9_feed := fun w h => List.mem_cons_of_mem _ (iu_X9 w h)
  have f_12 := hts _ (List.mem_cons_of_mem _ (lwg_of t_239 rfl))
  have hl := lv_entry ([.ref (ad 0), .int x1, .int x2, .int x3, .int x4, .int x5]) (n := 6) (Nat.le_of_ble_eq_true rfl)
  rw [lg_entry_eq]
  generalize (lg_sl ([.ref (ad 0), .int x1, .int x2, .int x3, .int x4, .int x5]) ++ List.replicate (6 - (lg_sl ([.ref (ad 0), .int x1, .int x2, .int x3, .int x4, .int x5])).length) Slot.unset).toArray = ls at hl ⊢
  have hl : lv_has ls 6 [(0, .ref (ad 0)), (1, .int x1), (2, .int x2), (3, .int x3), (4, .int x4), (5, .int x5)] := hl
  refine lv_aload_n hx hb dX9_feed_0 rfl (lv_at hl 0 rfl) ?_
  refine h_get (C := RX9) (T := TX9) (N := 10) hx hb hts i_RX9 hown hI h0 rfl 0 (by decide) f_12 rfl rfl dX9_feed_1 ?_
  refine lv_bipush (v := nI 20) hx hb dX9_feed_4 (by decide) ?_
  refine k_Ri (va_runV (As := [.int (nI 20)]) (rest := []) ⟨hx, hb, hml, hown, hts⟩ (c_X8_hasRoom l G z ad M (len := len) (n := 20) h1 (by omega) (by omega)) (cwV 1 hts (gV (lwg_of t_274 rfl) (lwg_of t_275 rfl) (lwg_of t_276 rfl) (lwg_of t_2 rfl) (lwg_of t_277 rfl)) rfl rfl rfl (by decide +kernel) ⟨Nat.le_of_ble_eq_true rfl, Nat.le_of_ble_eq_true rfl⟩) (hI.preV h1 rfl) rfl rfl hl.1 rfl (lv_room (Nat.le_of_ble_eq_true rfl)) dX9_feed_6 ⟨Nat.le_of_ble_eq_true rfl, Nat.le_of_ble_eq_true rfl⟩) (fun _ h => h) (fun r_1 hp_2 => ?_)
  rw [hp_2]
  refine lv_if_ne (tgt := 14) hx hb dX9_feed_9 (by decide) (fun c_3 => ?_) (fun c_3 => ?_)
  · -- 9: bI (decide (len + 20 ≤ 400)) ne
    have c_3 : decide (len + 20 ≤ 400) = true := bI_t (c_3)
    refine lv_aload_n hx hb dX9_feed_14 rfl (lv_at hl 0 rfl) ?_
    refine h_get (C := RX9) (T := TX9) (N := 10) hx hb hts i_RX9 hown hI h0 rfl 0 (by decide) f_12 rfl rfl dX9_feed_15 ?_
    refine lv_iload_n hx hb dX9_feed_18 rfl (lv_at hl 1 rfl) ?_
    refine k_Nv (va_runV (As := [.int x1]) (rest := []) ⟨hx, hb, hml, hown, hts⟩ (c_X8_add l G z ad M (len := len) (tb := tb) (x := x1) h1 h2 (by omega)) (cwV 1 hts (gV (lwg_of t_278 rfl) (lwg_of t_279 rfl) (lwg_of t_280 rfl) (lwg_of t_2 rfl) (lwg_of t_281 rfl)) rfl rfl rfl (by decide +kernel) ⟨Nat.le_of_ble_eq_true rfl, Nat.le_of_ble_eq_true rfl⟩) (hI.preV h1 rfl) rfl rfl hl.1 rfl (lv_room (Nat.le_of_ble_eq_true rfl)) dX9_feed_19 ⟨Nat.le_of_ble_eq_true rfl, Nat.le_of_ble_eq_true rfl⟩) hI (fun M_6 H_7 locs_8 hp_5 hI => ?_)
    obtain ⟨hm_9, hm_10, hF_11⟩ := hp_5
    have hm_12 : M_6 0 = some (cStore ad qa qs fw) := by rw [hF_11 0 (by omega) (by omega)]; exact h0
    have hF_13 : ∀ j : Nat, j ≠ 1 → j ≠ 2 → M_6 j = M j := fun j q0 q1 => (hF_11 j q0 q1)
    refine lv_aload_n hx hb dX9_feed_22 rfl (lv_at hl 0 rfl) ?_
    refine h_get (C := RX9) (T := TX9) (N := 10) hx hb hts i_RX9 hown hI hm_12 rfl 0 (by decide) f_12 rfl rfl dX9_feed_23 ?_
    refine lv_iload_n hx hb dX9_feed_26 rfl (lv_at hl 2 rfl) ?_
    refine k_Nv (va_runV (As := [.int x2]) (rest := []) ⟨hx, hb, hml, hown, hts⟩ (c_X8_add l G z ad M_6 (len := len + 4) (tb := (va_up (va_up (va_up (va_up tb len (by8 x1 24)) (len + 1) (by8 x1 16)) (len + 2) (by8 x1 8)) (len + 3) (by8 x1 0))) (x := x2) hm_9 hm_10 (by omega)) (cwV 1 hts (gV (lwg_of t_278 rfl) (lwg_of t_279 rfl) (lwg_of t_280 rfl) (lwg_of t_2 rfl) (lwg_of t_281 rfl)) rfl rfl rfl (by decide +kernel) ⟨Nat.le_of_ble_eq_true rfl, Nat.le_of_ble_eq_true rfl⟩) (hI.preV hm_9 rfl) rfl rfl hl.1 rfl (lv_room (Nat.le_of_ble_eq_true rfl)) dX9_feed_27 ⟨Nat.le_of_ble_eq_true rfl, Nat.le_of_ble_eq_true rfl⟩) hI (fun M_16 H_17 locs_18 hp_15 hI => ?_)
    obtain ⟨hm_19, hm_20, hF_21⟩ := hp_15
    have hm_22 : M_16 0 = some (cStore ad qa qs fw) := by rw [hF_21 0 (by omega) (by omega)]; exact hm_12
    have hF_23 : ∀ j : Nat, j ≠ 1 → j ≠ 2 → M_16 j = M j := fun j q0 q1 => (hF_21 j q0 q1).trans (hF_13 j q0 q1)
    refine lv_aload_n hx hb dX9_feed_30 rfl (lv_at hl 0 rfl) ?_
    refine h_get (C := RX9) (T := TX9) (N := 10) hx hb hts i_RX9 hown hI hm_22 rfl 0 (by decide) f_12 rfl rfl dX9_feed_31 ?_
    refine lv_iload_n hx hb dX9_feed_34 rfl (lv_at hl 3 rfl) ?_
    refine k_Nv (va_runV (As := [.int x3]) (rest := []) ⟨hx, hb, hml, hown, hts⟩ (c_X8_add l G z ad M_16 (len := (len + 4) + 4) (tb := (va_up (va_up (va_up (va_up (va_up (va_up (va_up (va_up tb len (by8 x1 24)) (len + 1) (by8 x1 16)) (len + 2) (by8 x1 8)) (len + 3) (by8 x1 0)) (len + 4) (by8 x2 24)) ((len + 4) + 1) (by8 x2 16)) ((len + 4) + 2) (by8 x2 8)) ((len + 4) + 3) (by8 x2 0))) (x := x3) hm_19 hm_20 (by omega)) (cwV 1 hts (gV (lwg_of t_278 rfl) (lwg_of t_279 rfl) (lwg_of t_280 rfl) (lwg_of t_2 rfl) (lwg_of t_281 rfl)) rfl rfl rfl (by decide +kernel) ⟨Nat.le_of_ble_eq_true rfl, Nat.le_of_ble_eq_true rfl⟩) (hI.preV hm_19 rfl) rfl rfl hl.1 rfl (lv_room (Nat.le_of_ble_eq_true rfl)) dX9_feed_35 ⟨Nat.le_of_ble_eq_true rfl, Nat.le_of_ble_eq_true rfl⟩) hI (fun M_26 H_27 locs_28 hp_25 hI => ?_)
    obtain ⟨hm_29, hm_30, hF_31⟩ := hp_25
    have hm_32 : M_26 0 = some (cStore ad qa qs fw) := by rw [hF_31 0 (by omega) (by omega)]; exact hm_22
    have hF_33 : ∀ j : Nat, j ≠ 1 → j ≠ 2 → M_26 j = M j := fun j q0 q1 => (hF_31 j q0 q1).trans (hF_23 j q0 q1)
    refine lv_aload_n hx hb dX9_feed_38 rfl (lv_at hl 0 rfl) ?_
    refine h_get (C := RX9) (T := TX9) (N := 10) hx hb hts i_RX9 hown hI hm_32 rfl 0 (by decide) f_12 rfl rfl dX9_feed_39 ?_
    refine lv_iload hx hb dX9_feed_42 (lv_at hl 4 rfl) ?_
    refine k_Nv (va_runV (As := [.int x4]) (rest := []) ⟨hx, hb, hml, hown, hts⟩ (c_X8_add l G z ad M_26 (len := ((len + 4) + 4) + 4) (tb := (va_up (va_up (va_up (va_up (va_up (va_up (va_up (va_up (va_up (va_up (va_up (va_up tb len (by8 x1 24)) (len + 1) (by8 x1 16)) (len + 2) (by8 x1 8)) (len + 3) (by8 x1 0)) (len + 4) (by8 x2 24)) ((len + 4) + 1) (by8 x2 16)) ((len + 4) + 2) (by8 x2 8)) ((len + 4) + 3) (by8 x2 0)) ((len + 4) + 4) (by8 x3 24)) (((len + 4) + 4) + 1) (by8 x3 16)) (((len + 4) + 4) + 2) (by8 x3 8)) (((len + 4) + 4) + 3) (by8 x3 0))) (x := x4) hm_29 hm_30 (by omega)) (cwV 1 hts (gV (lwg_of t_278 rfl) (lwg_of t_279 rfl) (lwg_of t_280 rfl) (lwg_of t_2 rfl) (lwg_of t_281 rfl)) rfl rfl rfl (by decide +kernel) ⟨Nat.le_of_ble_eq_true rfl, Nat.le_of_ble_eq_true rfl⟩) (hI.preV hm_29 rfl) rfl rfl hl.1 rfl (lv_room (Nat.le_of_ble_eq_true rfl)) dX9_feed_44 ⟨Nat.le_of_ble_eq_true rfl, Nat.le_of_ble_eq_true rfl⟩) hI (fun M_36 H_37 locs_38 hp_35 hI => ?_)
    obtain ⟨hm_39, hm_40, hF_41⟩ := hp_35
    have hm_42 : M_36 0 = some (cStore ad qa qs fw) := by rw [hF_41 0 (by omega) (by omega)]; exact hm_32
    have hF_43 : ∀ j : Nat, j ≠ 1 → j ≠ 2 → M_36 j = M j := fun j q0 q1 => (hF_41 j q0 q1).trans (hF_33 j q0 q1)
    refine lv_aload_n hx hb dX9_feed_47 rfl (lv_at hl 0 rfl) ?_
    refine h_get (C := RX9) (T := TX9) (N := 10) hx hb hts i_RX9 hown hI hm_42 rfl 0 (by decide) f_12 rfl rfl dX9_feed_48 ?_
    refine lv_iload hx hb dX9_feed_51 (lv_at hl 5 rfl) ?_
    refine k_Nv (va_runV (As := [.int x5]) (rest := []) ⟨hx, hb, hml, hown, hts⟩ (c_X8_add l G z ad M_36 (len := (((len + 4) + 4) + 4) + 4) (tb := (va_up (va_up (va_up (va_up (va_up (va_up (va_up (va_up (va_up (va_up (va_up (va_up (va_up (va_up (va_up (va_up tb len (by8 x1 24)) (len + 1) (by8 x1 16)) (len + 2) (by8 x1 8)) (len + 3) (by8 x1 0)) (len + 4) (by8 x2 24)) ((len + 4) + 1) (by8 x2 16)) ((len + 4) + 2) (by8 x2 8)) ((len + 4) + 3) (by8 x2 0)) ((len + 4) + 4) (by8 x3 24)) (((len + 4) + 4) + 1) (by8 x3 16)) (((len + 4) + 4) + 2) (by8 x3 8)) (((len + 4) + 4) + 3) (by8 x3 0)) (((len + 4) + 4) + 4) (by8 x4 24)) ((((len + 4) + 4) + 4) + 1) (by8 x4 16)) ((((len + 4) + 4) + 4) + 2) (by8 x4 8)) ((((len + 4) + 4) + 4) + 3) (by8 x4 0))) (x := x5) hm_39 hm_40 (by omega)) (cwV 1 hts (gV (lwg_of t_278 rfl) (lwg_of t_279 rfl) (lwg_of t_280 rfl) (lwg_of t_2 rfl) (lwg_of t_281 rfl)) rfl rfl rfl (by decide +kernel) ⟨Nat.le_of_ble_eq_true rfl, Nat.le_of_ble_eq_true rfl⟩) (hI.preV hm_39 rfl) rfl rfl hl.1 rfl (lv_room (Nat.le_of_ble_eq_true rfl)) dX9_feed_53 ⟨Nat.le_of_ble_eq_true rfl, Nat.le_of_ble_eq_true rfl⟩) hI (fun M_46 H_47 locs_48 hp_45 hI => ?_)
    obtain ⟨hm_49, hm_50, hF_51⟩ := hp_45
    have hm_52 : M_46 0 = some (cStore ad qa qs fw) := by rw [hF_51 0 (by omega) (by omega)]; exact hm_42
    have hF_53 : ∀ j : Nat, j ≠ 1 → j ≠ 2 → M_46 j = M j := fun j q0 q1 => (hF_51 j q0 q1).trans (hF_43 j q0 q1)
    refine lv_aload_n hx hb dX9_feed_56 rfl (lv_at hl 0 rfl) ?_
    refine h_get (C := RX9) (T := TX9) (N := 10) hx hb hts i_RX9 hown hI hm_52 rfl 0 (by decide) f_12 rfl rfl dX9_feed_57 ?_
    refine k_Ri (va_runV (As := []) (rest := []) ⟨hx, hb, hml, hown, hts⟩ (c_X8_length l G z ad M_46 (len := ((((len + 4) + 4) + 4) + 4) + 4) hm_49) (cwV 0 hts (gV (lwg_of t_283 rfl) (lwg_of t_284 rfl) (lwg_of t_285 rfl) (lwg_of t_2 rfl) (lwg_of t_286 rfl)) rfl rfl rfl (by decide +kernel) ⟨Nat.le_of_ble_eq_true rfl, Nat.le_of_ble_eq_true rfl⟩) (hI.preV hm_49 rfl) rfl rfl hl.1 rfl (lv_room (Nat.le_of_ble_eq_true rfl)) dX9_feed_60 ⟨Nat.le_of_ble_eq_true rfl, Nat.le_of_ble_eq_true rfl⟩) (fun _ h => h) (fun r_54 hp_55 => ?_)
    rw [hp_55]
    exact e_Ni hx hb hr rfl hlocks hI ⟨rfl, hm_49, hm_50, (fun j q0 q1 => hF_53 j q0 q1)⟩ dX9_feed_63
  · -- 9: bI (decide (len + 20 ≤ 400)) eq
    have c_3 : decide (len + 20 ≤ 400) = false := bI_f (c_3)
    exact absurd (decide_eq_true (by omega : len + 20 ≤ 400)) (by simp_all)

/-- X9_end -/
abbrev rm_c_X9_end : Room := { frames := 1, cells := 0, slots := 0, locals := 21 }
set_option maxHeartbeats 4000000 in
set_option maxRecDepth 100000 in
theorem c_X9_end (l : Launch) (G : GG) (z : Nat) (ad : Nat → Nat) (M : Mem) {qa : Nat} {qs : Nat} {fw : Int32} {len : Nat} {x : Int32} (h0 : M 0 = some (cStore ad qa qs fw)) (h1 : M 1 = some (cTape ad len)) (hl4 : len ≤ 400) : Met l yX9_end wsX9_end rm_c_X9_end (Pr G z ad M [.ref (ad 0), .int x]) (Ni G z ad (fun (r : Int32) (M' : Mem) => r = bI (decide (¬ x < nI 0 ∧ x ≤ nI len)) ∧ M' 1 = some (cTape ad (if ¬ x < nI 0 ∧ x ≤ nI len then x.toNatClampNeg else len)) ∧ (∀ j : Nat, j ≠ 1 → M' j = M j))) 0 0 (fr z) := by
  refine Met.ofW (cc := cX9_end) (maxL := 2) (ret := (some .boolean)) (by decide) rfl ?_
  intro p e s m args below meth c s₁ B hml hv
  obtain ⟨rfl, hv⟩ := hv
  have hI := Iv.entry hv
  have hx := B.exec
  have hb := B.bytes
  have hr := B.returns
  have hts := atoms_spec (ws := wsX9_end) B.pre
  have hown : s.vm.findClass RX9 = some m.cls := findClass_of_methodNamed B.named
  have hlocks := B.notSynchronized
  have i_RX9 : ∀ w ∈ u_ws RX9 TX9 10, w ∈ wsX9_end := fun w h => List.mem_cons_of_mem _ (iu_X9 w h)
  have f_12 := hts _ (List.mem_cons_of_mem _ (lwg_of t_239 rfl))
  have hl := lv_entry ([.ref (ad 0), .int x]) (n := 2) (Nat.le_of_ble_eq_true rfl)
  rw [lg_entry_eq]
  generalize (lg_sl ([.ref (ad 0), .int x]) ++ List.replicate (2 - (lg_sl ([.ref (ad 0), .int x])).length) Slot.unset).toArray = ls at hl ⊢
  have hl : lv_has ls 2 [(0, .ref (ad 0)), (1, .int x)] := hl
  refine lv_aload_n hx hb dX9_end_0 rfl (lv_at hl 0 rfl) ?_
  refine h_get (C := RX9) (T := TX9) (N := 10) hx hb hts i_RX9 hown hI h0 rfl 0 (by decide) f_12 rfl rfl dX9_end_1 ?_
  refine lv_iload_n hx hb dX9_end_4 rfl (lv_at hl 1 rfl) ?_
  refine k_Ni (va_runV (As := [.int x]) (rest := []) ⟨hx, hb, hml, hown, hts⟩ (c_X8_cut l G z ad M (len := len) (x := x) h1 (by omega)) (cwV 1 hts (gV (lwg_of t_291 rfl) (lwg_of t_292 rfl) (lwg_of t_293 rfl) (lwg_of t_2 rfl) (lwg_of t_294 rfl)) rfl rfl rfl (by decide +kernel) ⟨Nat.le_of_ble_eq_true rfl, Nat.le_of_ble_eq_true rfl⟩) (hI.preV h1 rfl) rfl rfl hl.1 rfl (lv_room (Nat.le_of_ble_eq_true rfl)) dX9_end_5 ⟨Nat.le_of_ble_eq_true rfl, Nat.le_of_ble_eq_true rfl⟩) hI (fun r_1 M_3 H_4 locs_5 hp_2 hI => ?_)
  obtain ⟨hr_6, hm_7, hF_8⟩ := hp_2
  have hm_9 : M_3 0 = some (cStore ad qa qs fw) := by rw [hF_8 0 (by omega)]; exact h0
  have hF_10 : ∀ j : Nat, j ≠ 1 → M_3 j = M j := fun j q0 => (hF_8 j q0)
  rw [hr_6]
  exact e_Ni hx hb hr (bI_nar _) hlocks hI ⟨rfl, hm_7, (fun j q0 => hF_10 j q0)⟩ dX9_end_8

/-- X9_ends -/
abbrev rm_c_X9_ends : Room := { frames := 1, cells := 0, slots := 0, locals := 24 }
set_option maxHeartbeats 4000000 in
set_option maxRecDepth 100000 in
theorem c_X9_ends (l : Launch) (G : GG) (z : Nat) (ad : Nat → Nat) (M : Mem) {qa : Nat} {qs : Nat} {fw : Int32} {le : Nat → Nat} {mo : Nat → Nat} {kd : Nat} {x : Nat} {a : Nat} {b : Nat} (h0 : M 0 = some (cStore ad qa qs fw)) (h3 : M 3 = some (cLaws ad )) (h4 : M 4 = some (aI G 36 (nF le))) (h5 : M 5 = some (aI G 36 (nF mo))) (hkd : kd < 6) (hx6 : x < 6) (hab : a ≤ b ∧ b ≤ 6) : Met l yX9_ends wsX9_ends rm_c_X9_ends (Pr G z ad M [.ref (ad 0), .int (nI kd), .int (nI x), .int (nI a), .int (nI b)]) (Nv G z ad (fun (M' : Mem) => M' 4 = some (aI G 36 (nF (va_up le (kd * 6 + x) a))) ∧ M' 5 = some (aI G 36 (nF (va_up mo (kd * 6 + x) b))) ∧ (∀ j : Nat, j ≠ 4 → j ≠ 5 → M' j = M j))) 0 0 (fr z) := by
  refine Met.ofW (cc := cX9_ends) (maxL := 5) (ret := none) (by decide) rfl ?_
  intro p e s m args below meth c s₁ B hml hv
  obtain ⟨rfl, hv⟩ := hv
  have hI := Iv.entry hv
  have hx := B.exec
  have hb := B.bytes
  have hr := B.returns
  have hts := atoms_spec (ws := wsX9_ends) B.pre
  have hown : s.vm.findClass RX9 = some m.cls := findClass_of_methodNamed B.named
  have hlocks := B.notSynchronized
  have i_RX9 : ∀ w ∈ u_ws RX9 TX9 10, w ∈ wsX9_ends := fun w h => List.mem_cons_of_mem _ (iu_X9 w h)
  have f_19 := hts _ (List.mem_cons_of_mem _ (lwg_of t_240 rfl))
  have hl := lv_entry ([.ref (ad 0), .int (nI kd), .int (nI x), .int (nI a), .int (nI b)]) (n := 5) (Nat.le_of_ble_eq_true rfl)
  rw [lg_entry_eq]
  generalize (lg_sl ([.ref (ad 0), .int (nI kd), .int (nI x), .int (nI a), .int (nI b)]) ++ List.replicate (5 - (lg_sl ([.ref (ad 0), .int (nI kd), .int (nI x), .int (nI a), .int (nI b)])).length) Slot.unset).toArray = ls at hl ⊢
  have hl : lv_has ls 5 [(0, .ref (ad 0)), (1, .int (nI kd)), (2, .int (nI x)), (3, .int (nI a)), (4, .int (nI b))] := hl
  refine lv_iload_n hx hb dX9_ends_0 rfl (lv_at hl 1 rfl) ?_
  refine k_Nv (va_runS (As := [.int (nI kd)]) (rest := []) ⟨hx, hb, hml, hown, hts⟩ (c_X9_checkKind l G z ad M (t := kd) (by omega)) (va_cwS 1 hts (gS (lwg_of t_477 rfl) (lwg_of t_478 rfl) (lwg_of t_1 rfl) (lwg_of t_479 rfl)) rfl rfl rfl (by decide +kernel) ⟨Nat.le_of_ble_eq_true rfl, Nat.le_of_ble_eq_true rfl⟩) hI.preS rfl rfl hl.1 rfl (lv_room (Nat.le_of_ble_eq_true rfl)) dX9_ends_1 ⟨Nat.le_of_ble_eq_true rfl, Nat.le_of_ble_eq_true rfl⟩) hI (fun M_3 H_4 locs_5 hp_2 hI => ?_)
  have eM_6 : M = M_3 := (funext hp_2).symm
  subst eM_6
  refine lv_iload_n hx hb dX9_ends_4 rfl (lv_at hl 2 rfl) ?_
  refine k_Nv (va_runS (As := [.int (nI x)]) (rest := []) ⟨hx, hb, hml, hown, hts⟩ (c_X9_checkRole l G z ad M (t := x) (by omega)) (va_cwS 1 hts (gS (lwg_of t_549 rfl) (lwg_of t_550 rfl) (lwg_of t_1 rfl) (lwg_of t_551 rfl)) rfl rfl rfl (by decide +kernel) ⟨Nat.le_of_ble_eq_true rfl, Nat.le_of_ble_eq_true rfl⟩) hI.preS rfl rfl hl.1 rfl (lv_room (Nat.le_of_ble_eq_true rfl)) dX9_ends_5 ⟨Nat.le_of_ble_eq_true rfl, Nat.le_of_ble_eq_true rfl⟩) hI (fun M_9 H_10 locs_11 hp_8 hI => ?_)
  have eM_12 : M = M_9 := (funext hp_8).symm
  subst eM_12
  refine lv_iload_n hx hb dX9_ends_8 rfl (lv_at hl 3 rfl) ?_
  refine lv_if_lt (tgt := 25) hx hb dX9_ends_9 (by decide) (fun c_13 => ?_) (fun c_13 => ?_)
  · -- 9: nI a lt
    have c_13 : a < 0 := (nI_ltI (a := a) (b := 0) (by omega) (by omega)).mp (c_13)
    omega
  · -- 9: nI a ge
    have c_13 : 0 ≤ a := by have h := mt (nI_ltI (a := a) (b := 0) (by omega) (by omega)).mpr c_13; omega
    refine lv_iload_n hx hb dX9_ends_12 rfl (lv_at hl 3 rfl) ?_
    refine lv_iload hx hb dX9_ends_13 (lv_at hl 4 rfl) ?_
    refine lv_icmp_gt (tgt := 25) hx hb dX9_ends_15 (by decide) (fun c_14 => ?_) (fun c_14 => ?_)
    · -- 15: nI a gt
      have c_14 : b < a := (nI_ltI (a := b) (b := a) (by omega) (by omega)).mp (c_14)
      omega
    · -- 15: nI a le
      have c_14 : a ≤ b := by have h := mt (nI_ltI (a := b) (b := a) (by omega) (by omega)).mpr c_14; omega
      refine lv_iload hx hb dX9_ends_18 (lv_at hl 4 rfl) ?_
      refine lv_bipush (v := nI 6) hx hb dX9_ends_20 (by decide) ?_
      refine lv_icmp_le (tgt := 35) hx hb dX9_ends_22 (by decide) (fun c_15 => ?_) (fun c_15 => ?_)
      · -- 22: nI b le
        have c_15 : b ≤ 6 := (nI_leI (a := b) (b := 6) (by omega) (by omega)).mp (c_15)
        refine lv_aload_n hx hb dX9_ends_35 rfl (lv_at hl 0 rfl) ?_
        refine h_get (C := RX9) (T := TX9) (N := 10) hx hb hts i_RX9 hown hI h0 rfl 1 (by decide) f_19 rfl rfl dX9_ends_36 ?_
        refine lv_iload_n hx hb dX9_ends_39 rfl (lv_at hl 1 rfl) ?_
        refine lv_iload_n hx hb dX9_ends_40 rfl (lv_at hl 2 rfl) ?_
        refine lv_iload_n hx hb dX9_ends_41 rfl (lv_at hl 3 rfl) ?_
        refine lv_iload hx hb dX9_ends_42 (lv_at hl 4 rfl) ?_
        refine k_Nv (va_runV (As := [.int (nI kd), .int (nI x), .int (nI a), .int (nI b)]) (rest := []) ⟨hx, hb, hml, hown, hts⟩ (c_X1_setEnds l G z ad M (le := le) (mo := mo) (kd := kd) (x := x) (a := a) (b := b) h3 h4 h5 (by omega) (by omega)) (cwV 4 hts (gV (lwg_of t_569 rfl) (lwg_of t_570 rfl) (lwg_of t_571 rfl) (lwg_of t_3 rfl) (lwg_of t_572 rfl)) rfl rfl rfl (by decide +kernel) ⟨Nat.le_of_ble_eq_true rfl, Nat.le_of_ble_eq_true rfl⟩) (hI.preV h3 rfl) rfl rfl hl.1 rfl (lv_room (Nat.le_of_ble_eq_true rfl)) dX9_ends_44 ⟨Nat.le_of_ble_eq_true rfl, Nat.le_of_ble_eq_true rfl⟩) hI (fun M_18 H_19 locs_20 hp_17 hI => ?_)
        obtain ⟨hm_21, hm_22, hF_23⟩ := hp_17
        have hm_24 : M_18 0 = some (cStore ad qa qs fw) := by rw [hF_23 0 (by omega) (by omega)]; exact h0
        have hm_25 : M_18 3 = some (cLaws ad ) := by rw [hF_23 3 (by omega) (by omega)]; exact h3
        have hF_26 : ∀ j : Nat, j ≠ 4 → j ≠ 5 → M_18 j = M j := fun j q0 q1 => (hF_23 j q0 q1)
        exact e_Nv hx hb hr hlocks hI ⟨hm_21, hm_22, (fun j q0 q1 => hF_26 j q0 q1)⟩ dX9_ends_47
      · -- 22: nI b gt
        have c_15 : 6 < b := by have h := mt (nI_leI (a := b) (b := 6) (by omega) (by omega)).mpr c_15; omega
        omega

/-- X9_alone -/
abbrev rm_c_X9_alone : Room := { frames := 1, cells := 0, slots := 0, locals := 23 }
set_option maxHeartbeats 4000000 in
set_option maxRecDepth 100000 in
theorem c_X9_alone (l : Launch) (G : GG) (z : Nat) (ad : Nat → Nat) (M : Mem) {qa : Nat} {qs : Nat} {fw : Int32} {al : Nat → Nat} {kd : Nat} {x : Nat} {a : Nat} (h0 : M 0 = some (cStore ad qa qs fw)) (h3 : M 3 = some (cLaws ad )) (h6 : M 6 = some (aI G 36 (nF al))) (hkd : kd < 6) (hx6 : x < 6) (ha : a ≤ 100) : Met l yX9_alone wsX9_alone rm_c_X9_alone (Pr G z ad M [.ref (ad 0), .int (nI kd), .int (nI x), .int (nI a)]) (Nv G z ad (fun (M' : Mem) => M' 6 = some (aI G 36 (nF (va_up al (kd * 6 + x) a))) ∧ (∀ j : Nat, j ≠ 6 → M' j = M j))) 0 0 (fr z) := by
  refine Met.ofW (cc := cX9_alone) (maxL := 4) (ret := none) (by decide) rfl ?_
  intro p e s m args below meth c s₁ B hml hv
  obtain ⟨rfl, hv⟩ := hv
  have hI := Iv.entry hv
  have hx := B.exec
  have hb := B.bytes
  have hr := B.returns
  have hts := atoms_spec (ws := wsX9_alone) B.pre
  have hown : s.vm.findClass RX9 = some m.cls := findClass_of_methodNamed B.named
  have hlocks := B.notSynchronized
  have i_RX9 : ∀ w ∈ u_ws RX9 TX9 10, w ∈ wsX9_alone := fun w h => List.mem_cons_of_mem _ (iu_X9 w h)
  have f_19 := hts _ (List.mem_cons_of_mem _ (lwg_of t_240 rfl))
  have hl := lv_entry ([.ref (ad 0), .int (nI kd), .int (nI x), .int (nI a)]) (n := 4) (Nat.le_of_ble_eq_true rfl)
  rw [lg_entry_eq]
  generalize (lg_sl ([.ref (ad 0), .int (nI kd), .int (nI x), .int (nI a)]) ++ List.replicate (4 - (lg_sl ([.ref (ad 0), .int (nI kd), .int (nI x), .int (nI a)])).length) Slot.unset).toArray = ls at hl ⊢
  have hl : lv_has ls 4 [(0, .ref (ad 0)), (1, .int (nI kd)), (2, .int (nI x)), (3, .int (nI a))] := hl
  refine lv_iload_n hx hb dX9_alone_0 rfl (lv_at hl 1 rfl) ?_
  refine k_Nv (va_runS (As := [.int (nI kd)]) (rest := []) ⟨hx, hb, hml, hown, hts⟩ (c_X9_checkKind l G z ad M (t := kd) (by omega)) (va_cwS 1 hts (gS (lwg_of t_477 rfl) (lwg_of t_478 rfl) (lwg_of t_1 rfl) (lwg_of t_479 rfl)) rfl rfl rfl (by decide +kernel) ⟨Nat.le_of_ble_eq_true rfl, Nat.le_of_ble_eq_true rfl⟩) hI.preS rfl rfl hl.1 rfl (lv_room (Nat.le_of_ble_eq_true rfl)) dX9_alone_1 ⟨Nat.le_of_ble_eq_true rfl, Nat.le_of_ble_eq_true rfl⟩) hI (fun M_3 H_4 locs_5 hp_2 hI => ?_)
  have eM_6 : M = M_3 := (funext hp_2).symm
  subst eM_6
  refine lv_iload_n hx hb dX9_alone_4 rfl (lv_at hl 2 rfl) ?_
  refine k_Nv (va_runS (As := [.int (nI x)]) (rest := []) ⟨hx, hb, hml, hown, hts⟩ (c_X9_checkRole l G z ad M (t := x) (by omega)) (va_cwS 1 hts (gS (lwg_of t_549 rfl) (lwg_of t_550 rfl) (lwg_of t_1 rfl) (lwg_of t_551 rfl)) rfl rfl rfl (by decide +kernel) ⟨Nat.le_of_ble_eq_true rfl, Nat.le_of_ble_eq_true rfl⟩) hI.preS rfl rfl hl.1 rfl (lv_room (Nat.le_of_ble_eq_true rfl)) dX9_alone_5 ⟨Nat.le_of_ble_eq_true rfl, Nat.le_of_ble_eq_true rfl⟩) hI (fun M_9 H_10 locs_11 hp_8 hI => ?_)
  have eM_12 : M = M_9 := (funext hp_8).symm
  subst eM_12
  refine lv_iload_n hx hb dX9_alone_8 rfl (lv_at hl 3 rfl) ?_
  refine lv_if_lt (tgt := 18) hx hb dX9_alone_9 (by decide) (fun c_13 => ?_) (fun c_13 => ?_)
  · -- 9: nI a lt
    have c_13 : a < 0 := (nI_ltI (a := a) (b := 0) (by omega) (by omega)).mp (c_13)
    omega
  · -- 9: nI a ge
    have c_13 : 0 ≤ a := by have h := mt (nI_ltI (a := a) (b := 0) (by omega) (by omega)).mpr c_13; omega
    refine lv_iload_n hx hb dX9_alone_12 rfl (lv_at hl 3 rfl) ?_
    refine lv_bipush (v := nI 100) hx hb dX9_alone_13 (by decide) ?_
    refine lv_icmp_le (tgt := 28) hx hb dX9_alone_15 (by decide) (fun c_14 => ?_) (fun c_14 => ?_)
    · -- 15: nI a le
      have c_14 : a ≤ 100 := (nI_leI (a := a) (b := 100) (by omega) (by omega)).mp (c_14)
      refine lv_aload_n hx hb dX9_alone_28 rfl (lv_at hl 0 rfl) ?_
      refine h_get (C := RX9) (T := TX9) (N := 10) hx hb hts i_RX9 hown hI h0 rfl 1 (by decide) f_19 rfl rfl dX9_alone_29 ?_
      refine lv_iload_n hx hb dX9_alone_32 rfl (lv_at hl 1 rfl) ?_
      refine lv_iload_n hx hb dX9_alone_33 rfl (lv_at hl 2 rfl) ?_
      refine lv_iload_n hx hb dX9_alone_34 rfl (lv_at hl 3 rfl) ?_
      refine k_Nv (va_runV (As := [.int (nI kd), .int (nI x), .int (nI a)]) (rest := []) ⟨hx, hb, hml, hown, hts⟩ (c_X1_setAlone l G z ad M (al := al) (kd := kd) (x := x) (a := a) h3 h6 (by omega) (by omega)) (cwV 3 hts (gV (lwg_of t_581 rfl) (lwg_of t_582 rfl) (lwg_of t_583 rfl) (lwg_of t_3 rfl) (lwg_of t_584 rfl)) rfl rfl rfl (by decide +kernel) ⟨Nat.le_of_ble_eq_true rfl, Nat.le_of_ble_eq_true rfl⟩) (hI.preV h3 rfl) rfl rfl hl.1 rfl (lv_room (Nat.le_of_ble_eq_true rfl)) dX9_alone_35 ⟨Nat.le_of_ble_eq_true rfl, Nat.le_of_ble_eq_true rfl⟩) hI (fun M_17 H_18 locs_19 hp_16 hI => ?_)
      obtain ⟨hm_20, hF_21⟩ := hp_16
      have hm_22 : M_17 0 = some (cStore ad qa qs fw) := by rw [hF_21 0 (by omega)]; exact h0
      have hm_23 : M_17 3 = some (cLaws ad ) := by rw [hF_21 3 (by omega)]; exact h3
      have hF_24 : ∀ j : Nat, j ≠ 6 → M_17 j = M j := fun j q0 => (hF_21 j q0)
      exact e_Nv hx hb hr hlocks hI ⟨hm_20, (fun j q0 => hF_24 j q0)⟩ dX9_alone_38
    · -- 15: nI a gt
      have c_14 : 100 < a := by have h := mt (nI_leI (a := a) (b := 100) (by omega) (by omega)).mpr c_14; omega
      omega

/-- X9_holds -/
abbrev rm_c_X9_holds : Room := { frames := 1, cells := 0, slots := 0, locals := 23 }
set_option maxHeartbeats 4000000 in
set_option maxRecDepth 100000 in
theorem c_X9_holds (l : Launch) (G : GG) (z : Nat) (ad : Nat → Nat) (M : Mem) {qa : Nat} {qs : Nat} {fw : Int32} {ho : Nat → Bool} {kd : Nat} {b : Bool} (h0 : M 0 = some (cStore ad qa qs fw)) (h3 : M 3 = some (cLaws ad )) (h7 : M 7 = some (aZ G 6 (bF ho))) (hkd : kd < 6) : Met l yX9_holds wsX9_holds rm_c_X9_holds (Pr G z ad M [.ref (ad 0), .int (nI kd), .int (bI b)]) (Ni G z ad (fun (r : Int32) (M' : Mem) => r = bI (decide (ho kd ≠ b)) ∧ M' 7 = some (aZ G 6 (bF (va_up ho kd b))) ∧ (∀ j : Nat, j ≠ 7 → M' j = M j))) 0 0 (fr z) := by
  refine Met.ofW (cc := cX9_holds) (maxL := 3) (ret := (some .boolean)) (by decide) rfl ?_
  intro p e s m args below meth c s₁ B hml hv
  obtain ⟨rfl, hv⟩ := hv
  have hI := Iv.entry hv
  have hx := B.exec
  have hb := B.bytes
  have hr := B.returns
  have hts := atoms_spec (ws := wsX9_holds) B.pre
  have hown : s.vm.findClass RX9 = some m.cls := findClass_of_methodNamed B.named
  have hlocks := B.notSynchronized
  have i_RX9 : ∀ w ∈ u_ws RX9 TX9 10, w ∈ wsX9_holds := fun w h => List.mem_cons_of_mem _ (iu_X9 w h)
  have f_19 := hts _ (List.mem_cons_of_mem _ (lwg_of t_240 rfl))
  have hl := lv_entry ([.ref (ad 0), .int (nI kd), .int (bI b)]) (n := 3) (Nat.le_of_ble_eq_true rfl)
  rw [lg_entry_eq]
  generalize (lg_sl ([.ref (ad 0), .int (nI kd), .int (bI b)]) ++ List.replicate (3 - (lg_sl ([.ref (ad 0), .int (nI kd), .int (bI b)])).length) Slot.unset).toArray = ls at hl ⊢
  have hl : lv_has ls 3 [(0, .ref (ad 0)), (1, .int (nI kd)), (2, .int (bI b))] := hl
  refine lv_iload_n hx hb dX9_holds_0 rfl (lv_at hl 1 rfl) ?_
  refine k_Nv (va_runS (As := [.int (nI kd)]) (rest := []) ⟨hx, hb, hml, hown, hts⟩ (c_X9_checkKind l G z ad M (t := kd) (by omega)) (va_cwS 1 hts (gS (lwg_of t_477 rfl) (lwg_of t_478 rfl) (lwg_of t_1 rfl) (lwg_of t_479 rfl)) rfl rfl rfl (by decide +kernel) ⟨Nat.le_of_ble_eq_true rfl, Nat.le_of_ble_eq_true rfl⟩) hI.preS rfl rfl hl.1 rfl (lv_room (Nat.le_of_ble_eq_true rfl)) dX9_holds_1 ⟨Nat.le_of_ble_eq_true rfl, Nat.le_of_ble_eq_true rfl⟩) hI (fun M_3 H_4 locs_5 hp_2 hI => ?_)
  have eM_6 : M = M_3 := (funext hp_2).symm
  subst eM_6
  refine lv_aload_n hx hb dX9_holds_4 rfl (lv_at hl 0 rfl) ?_
  refine h_get (C := RX9) (T := TX9) (N := 10) hx hb hts i_RX9 hown hI h0 rfl 1 (by decide) f_19 rfl rfl dX9_holds_5 ?_
  refine lv_iload_n hx hb dX9_holds_8 rfl (lv_at hl 1 rfl) ?_
  refine lv_iload_n hx hb dX9_holds_9 rfl (lv_at hl 2 rfl) ?_
  refine k_Ni (va_runV (As := [.int (nI kd), .int (bI b)]) (rest := []) ⟨hx, hb, hml, hown, hts⟩ (c_X1_setHolding l G z ad M (ho := ho) (kd := kd) (b := b) h3 h7 (by omega)) (cwV 2 hts (gV (lwg_of t_592 rfl) (lwg_of t_593 rfl) (lwg_of t_594 rfl) (lwg_of t_3 rfl) (lwg_of t_595 rfl)) rfl rfl rfl (by decide +kernel) ⟨Nat.le_of_ble_eq_true rfl, Nat.le_of_ble_eq_true rfl⟩) (hI.preV h3 rfl) rfl rfl hl.1 rfl (lv_room (Nat.le_of_ble_eq_true rfl)) dX9_holds_10 ⟨Nat.le_of_ble_eq_true rfl, Nat.le_of_ble_eq_true rfl⟩) hI (fun r_7 M_9 H_10 locs_11 hp_8 hI => ?_)
  obtain ⟨hr_12, hm_13, hF_14⟩ := hp_8
  have hm_15 : M_9 0 = some (cStore ad qa qs fw) := by rw [hF_14 0 (by omega)]; exact h0
  have hm_16 : M_9 3 = some (cLaws ad ) := by rw [hF_14 3 (by omega)]; exact h3
  have hF_17 : ∀ j : Nat, j ≠ 7 → M_9 j = M j := fun j q0 => (hF_14 j q0)
  rw [hr_12]
  exact e_Ni hx hb hr (bI_nar _) hlocks hI ⟨rfl, hm_13, (fun j q0 => hF_17 j q0)⟩ dX9_holds_13

/-- X9_draft -/
abbrev rm_c_X9_draft : Room := { frames := 3, cells := 0, slots := 0, locals := 61 }
set_option maxHeartbeats 4000000 in
set_option maxRecDepth 100000 in
theorem c_X9_draft (l : Launch) (G : GG) (z : Nat) (ad : Nat → Nat) (M : Mem) {n : Nat} {kd : Nat → Nat} {fm : Nat → Int32} {to : Nat → Int32} {sz : Nat → Nat} {rl : Nat → Nat → Nat} {en : Nat → Nat → Nat} {qa : Nat} {qs : Nat} {fw : Int32} {s0 : Nat} {r0 : Nat → Nat} {th : Nat → Option Nat} {ol : Nat → Option Nat} {x : Nat} {b : Bool} {t : Nat} (hL : LSm G ad M n kd fm to sz rl en) (h0 : M 0 = some (cStore ad qa qs fw)) (h12 : M 12 = some (cEnds ad 12 s0)) (h13 : M 13 = some (aI G 6 (nF r0))) (h14 : M 14 = some (aI G 6 (oF th))) (h15 : M 15 = some (aI G 6 (oF ol))) (hw : LSw n kd sz rl en) (hx6 : x < 6) (hbt : b = true → t < n) (hbf : b = false → t < 40) (hs0 : s0 < 6) : Met l yX9_draft wsX9_draft rm_c_X9_draft (Pr G z ad M [.ref (ad 0), .int (nI x), .int (bI b), .int (nI t)]) (Ni G z ad (fun (r : Int32) (M' : Mem) => r = nI (s0 + 1) ∧ M' 12 = some (cEnds ad 12 (s0 + 1)) ∧ M' 13 = some (aI G 6 (nF (va_up r0 s0 x))) ∧ M' 14 = some (aI G 6 (oF (va_up th s0 (if b = true then none else some t)))) ∧ M' 15 = some (aI G 6 (oF (va_up ol s0 (if b = true then some t else none)))) ∧ (∀ j : Nat, j ≠ 12 → j ≠ 13 → j ≠ 14 → j ≠ 15 → M' j = M j))) 0 0 (fr z) := by
  refine Met.ofW (cc := cX9_draft) (maxL := 4) (ret := (some .int)) (by decide) rfl ?_
  intro p e s m args below meth c s₁ B hml hv
  obtain ⟨rfl, hv⟩ := hv
  have hI := Iv.entry hv
  have hx := B.exec
  have hb := B.bytes
  have hr := B.returns
  have hts := atoms_spec (ws := wsX9_draft) B.pre
  have hown : s.vm.findClass RX9 = some m.cls := findClass_of_methodNamed B.named
  have hlocks := B.notSynchronized
  have i_RX9 : ∀ w ∈ u_ws RX9 TX9 10, w ∈ wsX9_draft := fun w h => List.mem_cons_of_mem _ (iu_X9 w h)
  have f_33 := hts _ (List.mem_cons_of_mem _ (lwg_of t_242 rfl))
  have hl := lv_entry ([.ref (ad 0), .int (nI x), .int (bI b), .int (nI t)]) (n := 4) (Nat.le_of_ble_eq_true rfl)
  rw [lg_entry_eq]
  generalize (lg_sl ([.ref (ad 0), .int (nI x), .int (bI b), .int (nI t)]) ++ List.replicate (4 - (lg_sl ([.ref (ad 0), .int (nI x), .int (bI b), .int (nI t)])).length) Slot.unset).toArray = ls at hl ⊢
  have hl : lv_has ls 4 [(0, .ref (ad 0)), (1, .int (nI x)), (2, .int (bI b)), (3, .int (nI t))] := hl
  have h16 := hL.1
  obtain ⟨mcn, ed, h17, hed⟩ := id hL.2.1
  refine lv_iload_n hx hb dX9_draft_0 rfl (lv_at hl 1 rfl) ?_
  refine k_Nv (va_runS (As := [.int (nI x)]) (rest := []) ⟨hx, hb, hml, hown, hts⟩ (c_X9_checkRole l G z ad M (t := x) (by omega)) (va_cwS 1 hts (gS (lwg_of t_549 rfl) (lwg_of t_550 rfl) (lwg_of t_1 rfl) (lwg_of t_551 rfl)) rfl rfl rfl (by decide +kernel) ⟨Nat.le_of_ble_eq_true rfl, Nat.le_of_ble_eq_true rfl⟩) hI.preS rfl rfl hl.1 rfl (lv_room (Nat.le_of_ble_eq_true rfl)) dX9_draft_1 ⟨Nat.le_of_ble_eq_true rfl, Nat.le_of_ble_eq_true rfl⟩) hI (fun M_3 H_4 locs_5 hp_2 hI => ?_)
  have eM_6 : M = M_3 := (funext hp_2).symm
  subst eM_6
  refine lv_iload_n hx hb dX9_draft_4 rfl (lv_at hl 2 rfl) ?_
  refine lv_if_eq (tgt := 16) hx hb dX9_draft_5 (by decide) (fun c_7 => ?_) (fun c_7 => ?_)
  · -- 5: bI b eq
    have c_7 : b = false := bI_f (c_7)
    refine lv_iload_n hx hb dX9_draft_16 rfl (lv_at hl 3 rfl) ?_
    refine k_Nv (va_runS (As := [.int (nI t)]) (rest := []) ⟨hx, hb, hml, hown, hts⟩ (c_X9_checkThing l G z ad M (t := t) (hbf (by assumption))) (va_cwS 1 hts (gS (lwg_of t_608 rfl) (lwg_of t_609 rfl) (lwg_of t_1 rfl) (lwg_of t_610 rfl)) rfl rfl rfl (by decide +kernel) ⟨Nat.le_of_ble_eq_true rfl, Nat.le_of_ble_eq_true rfl⟩) hI.preS rfl rfl hl.1 rfl (lv_room (Nat.le_of_ble_eq_true rfl)) dX9_draft_17 ⟨Nat.le_of_ble_eq_true rfl, Nat.le_of_ble_eq_true rfl⟩) hI (fun M_10 H_11 locs_12 hp_9 hI => ?_)
    have eM_13 : M = M_10 := (funext hp_9).symm
    subst eM_13
    refine lv_aload_n hx hb dX9_draft_20 rfl (lv_at hl 0 rfl) ?_
    refine h_get (C := RX9) (T := TX9) (N := 10) hx hb hts i_RX9 hown hI h0 rfl 3 (by decide) f_33 rfl rfl dX9_draft_21 ?_
    refine lv_iload_n hx hb dX9_draft_24 rfl (lv_at hl 1 rfl) ?_
    refine lv_iload_n hx hb dX9_draft_25 rfl (lv_at hl 2 rfl) ?_
    refine lv_iload_n hx hb dX9_draft_26 rfl (lv_at hl 3 rfl) ?_
    refine k_Ni (va_runV (As := [.int (nI x), .int (bI b), .int (nI t)]) (rest := []) ⟨hx, hb, hml, hown, hts⟩ (c_X0_add l G z ad M (sz := s0) (rl := r0) (th := th) (ol := ol) (x := x) (b := b) (n := t) h12 h13 h14 h15 (by omega)) (cwV 3 hts (gV (lwg_of t_612 rfl) (lwg_of t_613 rfl) (lwg_of t_614 rfl) (lwg_of t_5 rfl) (lwg_of t_615 rfl)) rfl rfl rfl (by decide +kernel) ⟨Nat.le_of_ble_eq_true rfl, Nat.le_of_ble_eq_true rfl⟩) (hI.preV h12 rfl) rfl rfl hl.1 rfl (lv_room (Nat.le_of_ble_eq_true rfl)) dX9_draft_27 ⟨Nat.le_of_ble_eq_true rfl, Nat.le_of_ble_eq_true rfl⟩) hI (fun r_14 M_16 H_17 locs_18 hp_15 hI => ?_)
    obtain ⟨hr_19, hm_20, hm_21, hm_22, hm_23, hF_24⟩ := hp_15
    have hm_25 : M_16 0 = some (cStore ad qa qs fw) := by rw [hF_24 0 (by omega) (by omega) (by omega) (by omega)]; exact h0
    have hm_26 : M_16 16 = some (cLines ad ) := by rw [hF_24 16 (by omega) (by omega) (by omega) (by omega)]; exact h16
    have hm_27 : M_16 17 = some (cList ad mcn ed n) := by rw [hF_24 17 (by omega) (by omega) (by omega) (by omega)]; exact h17
    have hL_28 : LSm G ad M_16 n kd fm to sz rl en := hL.keep (fun j hj => hF_24 j (by omega) (by omega) (by omega) (by omega))
    have hF_29 : ∀ j : Nat, j ≠ 12 → j ≠ 13 → j ≠ 14 → j ≠ 15 → M_16 j = M j := fun j q0 q1 q2 q3 => (hF_24 j q0 q1 q2 q3)
    rw [hr_19]
    refine lv_if_eq (tgt := 43) hx hb dX9_draft_30 (by decide) (fun c_30 => ?_) (fun c_30 => ?_)
    · -- 30: nI 1 eq
      exact absurd c_30 (by decide)
    · -- 30: nI 1 ne
      refine lv_aload_n hx hb dX9_draft_33 rfl (lv_at hl 0 rfl) ?_
      refine h_get (C := RX9) (T := TX9) (N := 10) hx hb hts i_RX9 hown hI hm_25 rfl 3 (by decide) f_33 rfl rfl dX9_draft_34 ?_
      refine k_Ri (va_runV (As := []) (rest := []) ⟨hx, hb, hml, hown, hts⟩ (c_X0_size l G z ad M_16 (k := 12) (sz := s0 + 1) hm_20) (cwV 0 hts (gV (lwg_of t_450 rfl) (lwg_of t_451 rfl) (lwg_of t_452 rfl) (lwg_of t_5 rfl) (lwg_of t_453 rfl)) rfl rfl rfl (by decide +kernel) ⟨Nat.le_of_ble_eq_true rfl, Nat.le_of_ble_eq_true rfl⟩) (hI.preV hm_20 rfl) rfl rfl hl.1 rfl (lv_room (Nat.le_of_ble_eq_true rfl)) dX9_draft_37 ⟨Nat.le_of_ble_eq_true rfl, Nat.le_of_ble_eq_true rfl⟩) (fun _ h => h) (fun r_31 hp_32 => ?_)
      rw [hp_32]
      refine lv_goto (tgt := 44) hx hb dX9_draft_40 (by decide) ?_
      exact e_Ni hx hb hr rfl hlocks hI ⟨rfl, hm_20, hm_21, hm_22, hm_23, (fun j q0 q1 q2 q3 => hF_29 j q0 q1 q2 q3)⟩ dX9_draft_44
  · -- 5: bI b ne
    have c_7 : b = true := bI_t (c_7)
    refine lv_aload_n hx hb dX9_draft_8 rfl (lv_at hl 0 rfl) ?_
    refine lv_iload_n hx hb dX9_draft_9 rfl (lv_at hl 3 rfl) ?_
    refine k_Nv (va_runV (As := [.int (nI t)]) (rest := []) ⟨hx, hb, hml, hown, hts⟩ (c_X9_checkLine l G z ad M (n := n) (kd := kd) (fm := fm) (to := to) (sz := sz) (rl := rl) (en := en) (qa := qa) (qs := qs) (fw := fw) (t := t) hL h0 (hbt (by assumption)) hw.1) (cwV 1 hts (gV (lwg_of t_603 rfl) (lwg_of t_605 rfl) (lwg_of ts_7 rfl) (lwg_of t_1 rfl) (lwg_of t_606 rfl)) rfl rfl rfl (by decide +kernel) ⟨Nat.le_of_ble_eq_true rfl, Nat.le_of_ble_eq_true rfl⟩) (hI.preV h0 rfl) rfl rfl hl.1 rfl (lv_room (Nat.le_of_ble_eq_true rfl)) dX9_draft_10 ⟨Nat.le_of_ble_eq_true rfl, Nat.le_of_ble_eq_true rfl⟩) hI (fun M_35 H_36 locs_37 hp_34 hI => ?_)
    have eM_38 : M = M_35 := (funext hp_34).symm
    subst eM_38
    refine lv_goto (tgt := 20) hx hb dX9_draft_13 (by decide) ?_
    refine lv_aload_n hx hb dX9_draft_20 rfl (lv_at hl 0 rfl) ?_
    refine h_get (C := RX9) (T := TX9) (N := 10) hx hb hts i_RX9 hown hI h0 rfl 3 (by decide) f_33 rfl rfl dX9_draft_21 ?_
    refine lv_iload_n hx hb dX9_draft_24 rfl (lv_at hl 1 rfl) ?_
    refine lv_iload_n hx hb dX9_draft_25 rfl (lv_at hl 2 rfl) ?_
    refine lv_iload_n hx hb dX9_draft_26 rfl (lv_at hl 3 rfl) ?_
    refine k_Ni (va_runV (As := [.int (nI x), .int (bI b), .int (nI t)]) (rest := []) ⟨hx, hb, hml, hown, hts⟩ (c_X0_add l G z ad M (sz := s0) (rl := r0) (th := th) (ol := ol) (x := x) (b := b) (n := t) h12 h13 h14 h15 (by omega)) (cwV 3 hts (gV (lwg_of t_612 rfl) (lwg_of t_613 rfl) (lwg_of t_614 rfl) (lwg_of t_5 rfl) (lwg_of t_615 rfl)) rfl rfl rfl (by decide +kernel) ⟨Nat.le_of_ble_eq_true rfl, Nat.le_of_ble_eq_true rfl⟩) (hI.preV h12 rfl) rfl rfl hl.1 rfl (lv_room (Nat.le_of_ble_eq_true rfl)) dX9_draft_27 ⟨Nat.le_of_ble_eq_true rfl, Nat.le_of_ble_eq_true rfl⟩) hI (fun r_39 M_41 H_42 locs_43 hp_40 hI => ?_)
    obtain ⟨hr_44, hm_45, hm_46, hm_47, hm_48, hF_49⟩ := hp_40
    have hm_50 : M_41 0 = some (cStore ad qa qs fw) := by rw [hF_49 0 (by omega) (by omega) (by omega) (by omega)]; exact h0
    have hm_51 : M_41 16 = some (cLines ad ) := by rw [hF_49 16 (by omega) (by omega) (by omega) (by omega)]; exact h16
    have hm_52 : M_41 17 = some (cList ad mcn ed n) := by rw [hF_49 17 (by omega) (by omega) (by omega) (by omega)]; exact h17
    have hL_53 : LSm G ad M_41 n kd fm to sz rl en := hL.keep (fun j hj => hF_49 j (by omega) (by omega) (by omega) (by omega))
    have hF_54 : ∀ j : Nat, j ≠ 12 → j ≠ 13 → j ≠ 14 → j ≠ 15 → M_41 j = M j := fun j q0 q1 q2 q3 => (hF_49 j q0 q1 q2 q3)
    rw [hr_44]
    refine lv_if_eq (tgt := 43) hx hb dX9_draft_30 (by decide) (fun c_55 => ?_) (fun c_55 => ?_)
    · -- 30: nI 1 eq
      exact absurd c_55 (by decide)
    · -- 30: nI 1 ne
      refine lv_aload_n hx hb dX9_draft_33 rfl (lv_at hl 0 rfl) ?_
      refine h_get (C := RX9) (T := TX9) (N := 10) hx hb hts i_RX9 hown hI hm_50 rfl 3 (by decide) f_33 rfl rfl dX9_draft_34 ?_
      refine k_Ri (va_runV (As := []) (rest := []) ⟨hx, hb, hml, hown, hts⟩ (c_X0_size l G z ad M_41 (k := 12) (sz := s0 + 1) hm_45) (cwV 0 hts (gV (lwg_of t_450 rfl) (lwg_of t_451 rfl) (lwg_of t_452 rfl) (lwg_of t_5 rfl) (lwg_of t_453 rfl)) rfl rfl rfl (by decide +kernel) ⟨Nat.le_of_ble_eq_true rfl, Nat.le_of_ble_eq_true rfl⟩) (hI.preV hm_45 rfl) rfl rfl hl.1 rfl (lv_room (Nat.le_of_ble_eq_true rfl)) dX9_draft_37 ⟨Nat.le_of_ble_eq_true rfl, Nat.le_of_ble_eq_true rfl⟩) (fun _ h => h) (fun r_56 hp_57 => ?_)
      rw [hp_57]
      refine lv_goto (tgt := 44) hx hb dX9_draft_40 (by decide) ?_
      exact e_Ni hx hb hr rfl hlocks hI ⟨rfl, hm_45, hm_46, hm_47, hm_48, (fun j q0 q1 q2 q3 => hF_54 j q0 q1 q2 q3)⟩ dX9_draft_44

/-- X9_draft -/
abbrev rm_c_X9_draft_full : Room := { frames := 3, cells := 0, slots := 0, locals := 61 }
set_option maxHeartbeats 4000000 in
set_option maxRecDepth 100000 in
theorem c_X9_draft_full (l : Launch) (G : GG) (z : Nat) (ad : Nat → Nat) (M : Mem) {n : Nat} {kd : Nat → Nat} {fm : Nat → Int32} {to : Nat → Int32} {sz : Nat → Nat} {rl : Nat → Nat → Nat} {en : Nat → Nat → Nat} {qa : Nat} {qs : Nat} {fw : Int32} {s0 : Nat} {x : Nat} {b : Bool} {t : Nat} (hL : LSm G ad M n kd fm to sz rl en) (h0 : M 0 = some (cStore ad qa qs fw)) (h12 : M 12 = some (cEnds ad 12 s0)) (hw : LSw n kd sz rl en) (hx6 : x < 6) (hbt : b = true → t < n) (hbf : b = false → t < 40) (hs0 : s0 = 6) : Met l yX9_draft wsX9_draft rm_c_X9_draft_full (Pr G z ad M [.ref (ad 0), .int (nI x), .int (bI b), .int (nI t)]) (Ni G z ad (fun (r : Int32) (M' : Mem) => r = (-1) ∧ (∀ j : Nat,  M' j = M j))) 0 0 (fr z) := by
  refine Met.ofW (cc := cX9_draft) (maxL := 4) (ret := (some .int)) (by decide) rfl ?_
  intro p e s m args below meth c s₁ B hml hv
  obtain ⟨rfl, hv⟩ := hv
  have hI := Iv.entry hv
  have hx := B.exec
  have hb := B.bytes
  have hr := B.returns
  have hts := atoms_spec (ws := wsX9_draft) B.pre
  have hown : s.vm.findClass RX9 = some m.cls := findClass_of_methodNamed B.named
  have hlocks := B.notSynchronized
  have i_RX9 : ∀ w ∈ u_ws RX9 TX9 10, w ∈ wsX9_draft := fun w h => List.mem_cons_of_mem _ (iu_X9 w h)
  have f_33 := hts _ (List.mem_cons_of_mem _ (lwg_of t_242 rfl))
  have hl := lv_entry ([.ref (ad 0), .int (nI x), .int (bI b), .int (nI t)]) (n := 4) (Nat.le_of_ble_eq_true rfl)
  rw [lg_entry_eq]
  generalize (lg_sl ([.ref (ad 0), .int (nI x), .int (bI b), .int (nI t)]) ++ List.replicate (4 - (lg_sl ([.ref (ad 0), .int (nI x), .int (bI b), .int (nI t)])).length) Slot.unset).toArray = ls at hl ⊢
  have hl : lv_has ls 4 [(0, .ref (ad 0)), (1, .int (nI x)), (2, .int (bI b)), (3, .int (nI t))] := hl
  have h16 := hL.1
  obtain ⟨mcn, ed, h17, hed⟩ := id hL.2.1
  refine lv_iload_n hx hb dX9_draft_0 rfl (lv_at hl 1 rfl) ?_
  refine k_Nv (va_runS (As := [.int (nI x)]) (rest := []) ⟨hx, hb, hml, hown, hts⟩ (c_X9_checkRole l G z ad M (t := x) (by omega)) (va_cwS 1 hts (gS (lwg_of t_549 rfl) (lwg_of t_550 rfl) (lwg_of t_1 rfl) (lwg_of t_551 rfl)) rfl rfl rfl (by decide +kernel) ⟨Nat.le_of_ble_eq_true rfl, Nat.le_of_ble_eq_true rfl⟩) hI.preS rfl rfl hl.1 rfl (lv_room (Nat.le_of_ble_eq_true rfl)) dX9_draft_1 ⟨Nat.le_of_ble_eq_true rfl, Nat.le_of_ble_eq_true rfl⟩) hI (fun M_3 H_4 locs_5 hp_2 hI => ?_)
  have eM_6 : M = M_3 := (funext hp_2).symm
  subst eM_6
  refine lv_iload_n hx hb dX9_draft_4 rfl (lv_at hl 2 rfl) ?_
  refine lv_if_eq (tgt := 16) hx hb dX9_draft_5 (by decide) (fun c_7 => ?_) (fun c_7 => ?_)
  · -- 5: bI b eq
    have c_7 : b = false := bI_f (c_7)
    refine lv_iload_n hx hb dX9_draft_16 rfl (lv_at hl 3 rfl) ?_
    refine k_Nv (va_runS (As := [.int (nI t)]) (rest := []) ⟨hx, hb, hml, hown, hts⟩ (c_X9_checkThing l G z ad M (t := t) (hbf (by assumption))) (va_cwS 1 hts (gS (lwg_of t_608 rfl) (lwg_of t_609 rfl) (lwg_of t_1 rfl) (lwg_of t_610 rfl)) rfl rfl rfl (by decide +kernel) ⟨Nat.le_of_ble_eq_true rfl, Nat.le_of_ble_eq_true rfl⟩) hI.preS rfl rfl hl.1 rfl (lv_room (Nat.le_of_ble_eq_true rfl)) dX9_draft_17 ⟨Nat.le_of_ble_eq_true rfl, Nat.le_of_ble_eq_true rfl⟩) hI (fun M_10 H_11 locs_12 hp_9 hI => ?_)
    have eM_13 : M = M_10 := (funext hp_9).symm
    subst eM_13
    refine lv_aload_n hx hb dX9_draft_20 rfl (lv_at hl 0 rfl) ?_
    refine h_get (C := RX9) (T := TX9) (N := 10) hx hb hts i_RX9 hown hI h0 rfl 3 (by decide) f_33 rfl rfl dX9_draft_21 ?_
    refine lv_iload_n hx hb dX9_draft_24 rfl (lv_at hl 1 rfl) ?_
    refine lv_iload_n hx hb dX9_draft_25 rfl (lv_at hl 2 rfl) ?_
    refine lv_iload_n hx hb dX9_draft_26 rfl (lv_at hl 3 rfl) ?_
    refine k_Ri (va_runV (As := [.int (nI x), .int (bI b), .int (nI t)]) (rest := []) ⟨hx, hb, hml, hown, hts⟩ (c_X0_add_full l G z ad M (sz := s0) (x := x) (b := b) (n := t) h12 (by omega)) (cwV 3 hts (gV (lwg_of t_612 rfl) (lwg_of t_613 rfl) (lwg_of t_614 rfl) (lwg_of t_5 rfl) (lwg_of t_615 rfl)) rfl rfl rfl (by decide +kernel) ⟨Nat.le_of_ble_eq_true rfl, Nat.le_of_ble_eq_true rfl⟩) (hI.preV h12 rfl) rfl rfl hl.1 rfl (lv_room (Nat.le_of_ble_eq_true rfl)) dX9_draft_27 ⟨Nat.le_of_ble_eq_true rfl, Nat.le_of_ble_eq_true rfl⟩) (fun _ h => h) (fun r_14 hp_15 => ?_)
    rw [hp_15]
    refine lv_if_eq (tgt := 43) hx hb dX9_draft_30 (by decide) (fun c_16 => ?_) (fun c_16 => ?_)
    · -- 30: nI 0 eq
      refine lv_iconst (v := (-1)) hx hb dX9_draft_43 (by decide) ?_
      exact e_Ni hx hb hr rfl hlocks hI ⟨rfl, (fun j  => rfl)⟩ dX9_draft_44
    · -- 30: nI 0 ne
      exact absurd (by decide) c_16
  · -- 5: bI b ne
    have c_7 : b = true := bI_t (c_7)
    refine lv_aload_n hx hb dX9_draft_8 rfl (lv_at hl 0 rfl) ?_
    refine lv_iload_n hx hb dX9_draft_9 rfl (lv_at hl 3 rfl) ?_
    refine k_Nv (va_runV (As := [.int (nI t)]) (rest := []) ⟨hx, hb, hml, hown, hts⟩ (c_X9_checkLine l G z ad M (n := n) (kd := kd) (fm := fm) (to := to) (sz := sz) (rl := rl) (en := en) (qa := qa) (qs := qs) (fw := fw) (t := t) hL h0 (hbt (by assumption)) hw.1) (cwV 1 hts (gV (lwg_of t_603 rfl) (lwg_of t_605 rfl) (lwg_of ts_7 rfl) (lwg_of t_1 rfl) (lwg_of t_606 rfl)) rfl rfl rfl (by decide +kernel) ⟨Nat.le_of_ble_eq_true rfl, Nat.le_of_ble_eq_true rfl⟩) (hI.preV h0 rfl) rfl rfl hl.1 rfl (lv_room (Nat.le_of_ble_eq_true rfl)) dX9_draft_10 ⟨Nat.le_of_ble_eq_true rfl, Nat.le_of_ble_eq_true rfl⟩) hI (fun M_19 H_20 locs_21 hp_18 hI => ?_)
    have eM_22 : M = M_19 := (funext hp_18).symm
    subst eM_22
    refine lv_goto (tgt := 20) hx hb dX9_draft_13 (by decide) ?_
    refine lv_aload_n hx hb dX9_draft_20 rfl (lv_at hl 0 rfl) ?_
    refine h_get (C := RX9) (T := TX9) (N := 10) hx hb hts i_RX9 hown hI h0 rfl 3 (by decide) f_33 rfl rfl dX9_draft_21 ?_
    refine lv_iload_n hx hb dX9_draft_24 rfl (lv_at hl 1 rfl) ?_
    refine lv_iload_n hx hb dX9_draft_25 rfl (lv_at hl 2 rfl) ?_
    refine lv_iload_n hx hb dX9_draft_26 rfl (lv_at hl 3 rfl) ?_
    refine k_Ri (va_runV (As := [.int (nI x), .int (bI b), .int (nI t)]) (rest := []) ⟨hx, hb, hml, hown, hts⟩ (c_X0_add_full l G z ad M (sz := s0) (x := x) (b := b) (n := t) h12 (by omega)) (cwV 3 hts (gV (lwg_of t_612 rfl) (lwg_of t_613 rfl) (lwg_of t_614 rfl) (lwg_of t_5 rfl) (lwg_of t_615 rfl)) rfl rfl rfl (by decide +kernel) ⟨Nat.le_of_ble_eq_true rfl, Nat.le_of_ble_eq_true rfl⟩) (hI.preV h12 rfl) rfl rfl hl.1 rfl (lv_room (Nat.le_of_ble_eq_true rfl)) dX9_draft_27 ⟨Nat.le_of_ble_eq_true rfl, Nat.le_of_ble_eq_true rfl⟩) (fun _ h => h) (fun r_23 hp_24 => ?_)
    rw [hp_24]
    refine lv_if_eq (tgt := 43) hx hb dX9_draft_30 (by decide) (fun c_25 => ?_) (fun c_25 => ?_)
    · -- 30: nI 0 eq
      refine lv_iconst (v := (-1)) hx hb dX9_draft_43 (by decide) ?_
      exact e_Ni hx hb hr rfl hlocks hI ⟨rfl, (fun j  => rfl)⟩ dX9_draft_44
    · -- 30: nI 0 ne
      exact absurd (by decide) c_25

/-- X9_strike -/
abbrev rm_c_X9_strike : Room := { frames := 5, cells := 0, slots := 0, locals := 117 }
set_option maxHeartbeats 4000000 in
set_option maxRecDepth 100000 in
theorem c_X9_strike (l : Launch) (G : GG) (z : Nat) (ad : Nat → Nat) (M : Mem) {n : Nat} {kd : Nat → Nat} {fm : Nat → Int32} {to : Nat → Int32} {sz : Nat → Nat} {rl : Nat → Nat → Nat} {en : Nat → Nat → Nat} {qa : Nat} {qs : Nat} {fw : Int32} {ho : Nat → Bool} {mk : Nat → Bool} {q : Nat} {d : Int32} (hL : LSm G ad M n kd fm to sz rl en) (h0 : M 0 = some (cStore ad qa qs fw)) (h3 : M 3 = some (cLaws ad )) (h7 : M 7 = some (aZ G 6 (bF ho))) (h19 : M 19 = some (aZ G 120 (bF mk))) (hw : LSw n kd sz rl en) (hq : q < n) : Met l yX9_strike wsX9_strike rm_c_X9_strike (Pr G z ad M [.ref (ad 0), .int (nI q), .int d]) (Ni G z ad (fun (r : Int32) (M' : Mem) => ∃ v : Nat, ∃ tn : Nat → Int32, ∃ mk2 : Nat → Bool, r = nI v ∧ M' 19 = some (aZ G 120 (bF mk2)) ∧ (∀ j : Nat, j ≠ 19 → j < 100 → M' j = M j) ∧ LSm G ad M' n kd fm tn sz rl en ∧ ((sOK n kd ho fm to sz en q d → v = cntB (pQ fm to sz en q d) n ∧ ∀ l, tn l = toS fm to sz en q d n l) ∧ (¬ sOK n kd ho fm to sz en q d → v = 0 ∧ tn = to)))) 0 0 (fr z) := by
  refine Met.ofW (cc := cX9_strike) (maxL := 3) (ret := (some .int)) (by decide) rfl ?_
  intro p e s m args below meth c s₁ B hml hv
  obtain ⟨rfl, hv⟩ := hv
  have hI := Iv.entry hv
  have hx := B.exec
  have hb := B.bytes
  have hr := B.returns
  have hts := atoms_spec (ws := wsX9_strike) B.pre
  have hown : s.vm.findClass RX9 = some m.cls := findClass_of_methodNamed B.named
  have hlocks := B.notSynchronized
  have i_RX9 : ∀ w ∈ u_ws RX9 TX9 10, w ∈ wsX9_strike := fun w h => List.mem_cons_of_mem _ (iu_X9 w h)
  have f_40 := hts _ (List.mem_cons_of_mem _ (lwg_of t_243 rfl))
  have f_19 := hts _ (List.mem_cons_of_mem _ (lwg_of t_240 rfl))
  have hl := lv_entry ([.ref (ad 0), .int (nI q), .int d]) (n := 3) (Nat.le_of_ble_eq_true rfl)
  rw [lg_entry_eq]
  generalize (lg_sl ([.ref (ad 0), .int (nI q), .int d]) ++ List.replicate (3 - (lg_sl ([.ref (ad 0), .int (nI q), .int d])).length) Slot.unset).toArray = ls at hl ⊢
  have hl : lv_has ls 3 [(0, .ref (ad 0)), (1, .int (nI q)), (2, .int d)] := hl
  have h16 := hL.1
  obtain ⟨mcn, ed, h17, hed⟩ := id hL.2.1
  refine lv_aload_n hx hb dX9_strike_0 rfl (lv_at hl 0 rfl) ?_
  refine lv_iload_n hx hb dX9_strike_1 rfl (lv_at hl 1 rfl) ?_
  refine k_Nv (va_runV (As := [.int (nI q)]) (rest := []) ⟨hx, hb, hml, hown, hts⟩ (c_X9_checkLine l G z ad M (n := n) (kd := kd) (fm := fm) (to := to) (sz := sz) (rl := rl) (en := en) (qa := qa) (qs := qs) (fw := fw) (t := q) hL h0 hq hw.1) (cwV 1 hts (gV (lwg_of t_603 rfl) (lwg_of t_605 rfl) (lwg_of ts_7 rfl) (lwg_of t_1 rfl) (lwg_of t_606 rfl)) rfl rfl rfl (by decide +kernel) ⟨Nat.le_of_ble_eq_true rfl, Nat.le_of_ble_eq_true rfl⟩) (hI.preV h0 rfl) rfl rfl hl.1 rfl (lv_room (Nat.le_of_ble_eq_true rfl)) dX9_strike_2 ⟨Nat.le_of_ble_eq_true rfl, Nat.le_of_ble_eq_true rfl⟩) hI (fun M_3 H_4 locs_5 hp_2 hI => ?_)
  have eM_6 : M = M_3 := (funext hp_2).symm
  subst eM_6
  refine lv_aload_n hx hb dX9_strike_5 rfl (lv_at hl 0 rfl) ?_
  refine h_get (C := RX9) (T := TX9) (N := 10) hx hb hts i_RX9 hown hI h0 rfl 4 (by decide) f_40 rfl rfl dX9_strike_6 ?_
  refine lv_iload_n hx hb dX9_strike_9 rfl (lv_at hl 1 rfl) ?_
  refine lv_iload_n hx hb dX9_strike_10 rfl (lv_at hl 2 rfl) ?_
  refine lv_aload_n hx hb dX9_strike_11 rfl (lv_at hl 0 rfl) ?_
  refine h_get (C := RX9) (T := TX9) (N := 10) hx hb hts i_RX9 hown hI h0 rfl 1 (by decide) f_19 rfl rfl dX9_strike_12 ?_
  refine k_Ni (va_runV (As := [.int (nI q), .int d, .ref (ad 3)]) (rest := []) ⟨hx, hb, hml, hown, hts⟩ (c_X3_strikeFrom l G z ad M (n := n) (kd := kd) (fm := fm) (to := to) (sz := sz) (rl := rl) (en := en) (ho := ho) (mk := mk) (q := q) (d := d) hL h3 h7 h19 hw (by omega)) (cwV 3 hts (gV (lwg_of t_817 rfl) (lwg_of t_818 rfl) (lwg_of t_819 rfl) (lwg_of t_6 rfl) (lwg_of t_820 rfl)) rfl rfl rfl (by decide +kernel) ⟨Nat.le_of_ble_eq_true rfl, Nat.le_of_ble_eq_true rfl⟩) (hI.preV h16 rfl) rfl rfl hl.1 rfl (lv_room (Nat.le_of_ble_eq_true rfl)) dX9_strike_15 ⟨Nat.le_of_ble_eq_true rfl, Nat.le_of_ble_eq_true rfl⟩) hI (fun r_7 M_9 H_10 locs_11 hp_8 hI => ?_)
  obtain ⟨v_17, tn_18, mk2_19, hr_12, hm_13, hF_14, hL_15, hP_16⟩ := hp_8
  have hm_20 : M_9 0 = some (cStore ad qa qs fw) := by rw [hF_14 0 (by omega) (by omega)]; exact h0
  have hm_21 : M_9 3 = some (cLaws ad ) := by rw [hF_14 3 (by omega) (by omega)]; exact h3
  have hm_22 : M_9 7 = some (aZ G 6 (bF ho)) := by rw [hF_14 7 (by omega) (by omega)]; exact h7
  have hm_23 : M_9 16 = some (cLines ad ) := by rw [hF_14 16 (by omega) (by omega)]; exact h16
  have hm_24 : M_9 17 = some (cList ad mcn ed n) := by rw [hF_14 17 (by omega) (by omega)]; exact h17
  have hF_25 : ∀ j : Nat, j ≠ 19 → j < 100 → M_9 j = M j := fun j q0 q1 => (hF_14 j q0 q1)
  rw [hr_12]
  exact e_Ni hx hb hr rfl hlocks hI ⟨v_17, tn_18, mk2_19, rfl, hm_13, (fun j q0 q1 => hF_25 j q0 q1), hL_15, hP_16⟩ dX9_strike_18

/-- X9_one -/
abbrev rm_c_X9_one_same : Room := { frames := 2, cells := 0, slots := 0, locals := 54 }
set_option maxHeartbeats 4000000 in
set_option maxRecDepth 100000 in
theorem c_X9_one_same (l : Launch) (G : GG) (z : Nat) (ad : Nat → Nat) (M : Mem) {qa : Nat} {qs : Nat} {fw : Int32} {jn : Nat} {lst : Nat → Nat} {a : Nat} {b : Nat} (h0 : M 0 = some (cStore ad qa qs fw)) (h8 : M 8 = some (cOnes ad jn)) (h10 : M 10 = some (aI G 40 (nF lst))) (ha : a < 40) (hb4 : b < 40) (hlst : ∀ t, t < 40 → lst t < 40) (hne : lst a = lst b) : Met l yX9_one wsX9_one rm_c_X9_one_same (Pr G z ad M [.ref (ad 0), .int (nI a), .int (nI b)]) (Ni G z ad (fun (r : Int32) (M' : Mem) => r = nI 0 ∧ (∀ j : Nat,  M' j = M j))) 0 0 (fr z) := by
  refine Met.ofW (cc := cX9_one) (maxL := 3) (ret := (some .boolean)) (by decide) rfl ?_
  intro p e s m args below meth c s₁ B hml hv
  obtain ⟨rfl, hv⟩ := hv
  have hI := Iv.entry hv
  have hx := B.exec
  have hb := B.bytes
  have hr := B.returns
  have hts := atoms_spec (ws := wsX9_one) B.pre
  have hown : s.vm.findClass RX9 = some m.cls := findClass_of_methodNamed B.named
  have hlocks := B.notSynchronized
  have i_RX9 : ∀ w ∈ u_ws RX9 TX9 10, w ∈ wsX9_one := fun w h => List.mem_cons_of_mem _ (iu_X9 w h)
  have f_26 := hts _ (List.mem_cons_of_mem _ (lwg_of t_241 rfl))
  have hl := lv_entry ([.ref (ad 0), .int (nI a), .int (nI b)]) (n := 3) (Nat.le_of_ble_eq_true rfl)
  rw [lg_entry_eq]
  generalize (lg_sl ([.ref (ad 0), .int (nI a), .int (nI b)]) ++ List.replicate (3 - (lg_sl ([.ref (ad 0), .int (nI a), .int (nI b)])).length) Slot.unset).toArray = ls at hl ⊢
  have hl : lv_has ls 3 [(0, .ref (ad 0)), (1, .int (nI a)), (2, .int (nI b))] := hl
  refine lv_iload_n hx hb dX9_one_0 rfl (lv_at hl 1 rfl) ?_
  refine k_Nv (va_runS (As := [.int (nI a)]) (rest := []) ⟨hx, hb, hml, hown, hts⟩ (c_X9_checkThing l G z ad M (t := a) (by omega)) (va_cwS 1 hts (gS (lwg_of t_608 rfl) (lwg_of t_609 rfl) (lwg_of t_1 rfl) (lwg_of t_610 rfl)) rfl rfl rfl (by decide +kernel) ⟨Nat.le_of_ble_eq_true rfl, Nat.le_of_ble_eq_true rfl⟩) hI.preS rfl rfl hl.1 rfl (lv_room (Nat.le_of_ble_eq_true rfl)) dX9_one_1 ⟨Nat.le_of_ble_eq_true rfl, Nat.le_of_ble_eq_true rfl⟩) hI (fun M_3 H_4 locs_5 hp_2 hI => ?_)
  have eM_6 : M = M_3 := (funext hp_2).symm
  subst eM_6
  refine lv_iload_n hx hb dX9_one_4 rfl (lv_at hl 2 rfl) ?_
  refine k_Nv (va_runS (As := [.int (nI b)]) (rest := []) ⟨hx, hb, hml, hown, hts⟩ (c_X9_checkThing l G z ad M (t := b) (by omega)) (va_cwS 1 hts (gS (lwg_of t_608 rfl) (lwg_of t_609 rfl) (lwg_of t_1 rfl) (lwg_of t_610 rfl)) rfl rfl rfl (by decide +kernel) ⟨Nat.le_of_ble_eq_true rfl, Nat.le_of_ble_eq_true rfl⟩) hI.preS rfl rfl hl.1 rfl (lv_room (Nat.le_of_ble_eq_true rfl)) dX9_one_5 ⟨Nat.le_of_ble_eq_true rfl, Nat.le_of_ble_eq_true rfl⟩) hI (fun M_9 H_10 locs_11 hp_8 hI => ?_)
  have eM_12 : M = M_9 := (funext hp_8).symm
  subst eM_12
  refine lv_aload_n hx hb dX9_one_8 rfl (lv_at hl 0 rfl) ?_
  refine h_get (C := RX9) (T := TX9) (N := 10) hx hb hts i_RX9 hown hI h0 rfl 2 (by decide) f_26 rfl rfl dX9_one_9 ?_
  refine lv_iload_n hx hb dX9_one_12 rfl (lv_at hl 1 rfl) ?_
  refine lv_iload_n hx hb dX9_one_13 rfl (lv_at hl 2 rfl) ?_
  refine k_Ri (va_runV (As := [.int (nI a), .int (nI b)]) (rest := []) ⟨hx, hb, hml, hown, hts⟩ (c_X5_join_same l G z ad M (jn := jn) (lst := lst) (a := a) (b := b) h8 h10 (by omega) (by omega) hlst hne) (cwV 2 hts (gV (lwg_of t_841 rfl) (lwg_of t_842 rfl) (lwg_of t_843 rfl) (lwg_of t_4 rfl) (lwg_of t_844 rfl)) rfl rfl rfl (by decide +kernel) ⟨Nat.le_of_ble_eq_true rfl, Nat.le_of_ble_eq_true rfl⟩) (hI.preV h8 rfl) rfl rfl hl.1 rfl (lv_room (Nat.le_of_ble_eq_true rfl)) dX9_one_14 ⟨Nat.le_of_ble_eq_true rfl, Nat.le_of_ble_eq_true rfl⟩) (fun _ h => h) (fun r_13 hp_14 => ?_)
  rw [hp_14]
  exact e_Ni hx hb hr rfl hlocks hI ⟨rfl, (fun j  => rfl)⟩ dX9_one_17

/-- X9_one -/
abbrev rm_c_X9_one : Room := { frames := 2, cells := 0, slots := 0, locals := 54 }
set_option maxHeartbeats 4000000 in
set_option maxRecDepth 100000 in
theorem c_X9_one (l : Launch) (G : GG) (z : Nat) (ad : Nat → Nat) (M : Mem) {qa : Nat} {qs : Nat} {fw : Int32} {jn : Nat} {hg : Nat → Nat} {lst : Nat → Nat} {jd : Nat → Nat} {a : Nat} {b : Nat} (h0 : M 0 = some (cStore ad qa qs fw)) (h8 : M 8 = some (cOnes ad jn)) (h9 : M 9 = some (aI G 40 (nF hg))) (h10 : M 10 = some (aI G 40 (nF lst))) (h11 : M 11 = some (aI G 40 (nF jd))) (ha : a < 40) (hb4 : b < 40) (hlst : ∀ t, t < 40 → lst t < 40) (hne : lst a ≠ lst b) (hjn : jn < 40) (hhg : ∀ t, t < 40 → hg t ≤ t) : Met l yX9_one wsX9_one rm_c_X9_one (Pr G z ad M [.ref (ad 0), .int (nI a), .int (nI b)]) (Ni G z ad (fun (r : Int32) (M' : Mem) => ∃ l2 : Nat → Nat, r = nI 1 ∧ M' 8 = some (cOnes ad (jn + 1)) ∧ M' 9 = some (aI G 40 (nF (va_up hg (max (lst a) (lst b)) (min (lst a) (lst b))))) ∧ M' 10 = some (aI G 40 (nF l2)) ∧ M' 11 = some (aI G 40 (nF (va_up jd jn (max (lst a) (lst b))))) ∧ (∀ j : Nat, j ≠ 8 → j ≠ 9 → j ≠ 10 → j ≠ 11 → M' j = M j) ∧ isRt (va_up hg (max (lst a) (lst b)) (min (lst a) (lst b))) l2 40)) 0 0 (fr z) := by
  refine Met.ofW (cc := cX9_one) (maxL := 3) (ret := (some .boolean)) (by decide) rfl ?_
  intro p e s m args below meth c s₁ B hml hv
  obtain ⟨rfl, hv⟩ := hv
  have hI := Iv.entry hv
  have hx := B.exec
  have hb := B.bytes
  have hr := B.returns
  have hts := atoms_spec (ws := wsX9_one) B.pre
  have hown : s.vm.findClass RX9 = some m.cls := findClass_of_methodNamed B.named
  have hlocks := B.notSynchronized
  have i_RX9 : ∀ w ∈ u_ws RX9 TX9 10, w ∈ wsX9_one := fun w h => List.mem_cons_of_mem _ (iu_X9 w h)
  have f_26 := hts _ (List.mem_cons_of_mem _ (lwg_of t_241 rfl))
  have hl := lv_entry ([.ref (ad 0), .int (nI a), .int (nI b)]) (n := 3) (Nat.le_of_ble_eq_true rfl)
  rw [lg_entry_eq]
  generalize (lg_sl ([.ref (ad 0), .int (nI a), .int (nI b)]) ++ List.replicate (3 - (lg_sl ([.ref (ad 0), .int (nI a), .int (nI b)])).length) Slot.unset).toArray = ls at hl ⊢
  have hl : lv_has ls 3 [(0, .ref (ad 0)), (1, .int (nI a)), (2, .int (nI b))] := hl
  refine lv_iload_n hx hb dX9_one_0 rfl (lv_at hl 1 rfl) ?_
  refine k_Nv (va_runS (As := [.int (nI a)]) (rest := []) ⟨hx, hb, hml, hown, hts⟩ (c_X9_checkThing l G z ad M (t := a) (by omega)) (va_cwS 1 hts (gS (lwg_of t_608 rfl) (lwg_of t_609 rfl) (lwg_of t_1 rfl) (lwg_of t_610 rfl)) rfl rfl rfl (by decide +kernel) ⟨Nat.le_of_ble_eq_true rfl, Nat.le_of_ble_eq_true rfl⟩) hI.preS rfl rfl hl.1 rfl (lv_room (Nat.le_of_ble_eq_true rfl)) dX9_one_1 ⟨Nat.le_of_ble_eq_true rfl, Nat.le_of_ble_eq_true rfl⟩) hI (fun M_3 H_4 locs_5 hp_2 hI => ?_)
  have eM_6 : M = M_3 := (funext hp_2).symm
  subst eM_6
  refine lv_iload_n hx hb dX9_one_4 rfl (lv_at hl 2 rfl) ?_
  refine k_Nv (va_runS (As := [.int (nI b)]) (rest := []) ⟨hx, hb, hml, hown, hts⟩ (c_X9_checkThing l G z ad M (t := b) (by omega)) (va_cwS 1 hts (gS (lwg_of t_608 rfl) (lwg_of t_609 rfl) (lwg_of t_1 rfl) (lwg_of t_610 rfl)) rfl rfl rfl (by decide +kernel) ⟨Nat.le_of_ble_eq_true rfl, Nat.le_of_ble_eq_true rfl⟩) hI.preS rfl rfl hl.1 rfl (lv_room (Nat.le_of_ble_eq_true rfl)) dX9_one_5 ⟨Nat.le_of_ble_eq_true rfl, Nat.le_of_ble_eq_true rfl⟩) hI (fun M_9 H_10 locs_11 hp_8 hI => ?_)
  have eM_12 : M = M_9 := (funext hp_8).symm
  subst eM_12
  refine lv_aload_n hx hb dX9_one_8 rfl (lv_at hl 0 rfl) ?_
  refine h_get (C := RX9) (T := TX9) (N := 10) hx hb hts i_RX9 hown hI h0 rfl 2 (by decide) f_26 rfl rfl dX9_one_9 ?_
  refine lv_iload_n hx hb dX9_one_12 rfl (lv_at hl 1 rfl) ?_
  refine lv_iload_n hx hb dX9_one_13 rfl (lv_at hl 2 rfl) ?_
  refine k_Ni (va_runV (As := [.int (nI a), .int (nI b)]) (rest := []) ⟨hx, hb, hml, hown, hts⟩ (c_X5_join l G z ad M (jn := jn) (hg := hg) (lst := lst) (jd := jd) (a := a) (b := b) h8 h9 h10 h11 (by omega) (by omega) hlst hne (by omega) hhg) (cwV 2 hts (gV (lwg_of t_841 rfl) (lwg_of t_842 rfl) (lwg_of t_843 rfl) (lwg_of t_4 rfl) (lwg_of t_844 rfl)) rfl rfl rfl (by decide +kernel) ⟨Nat.le_of_ble_eq_true rfl, Nat.le_of_ble_eq_true rfl⟩) (hI.preV h8 rfl) rfl rfl hl.1 rfl (lv_room (Nat.le_of_ble_eq_true rfl)) dX9_one_14 ⟨Nat.le_of_ble_eq_true rfl, Nat.le_of_ble_eq_true rfl⟩) hI (fun r_13 M_15 H_16 locs_17 hp_14 hI => ?_)
  obtain ⟨l2_25, hr_18, hm_19, hm_20, hm_21, hm_22, hF_23, hP_24⟩ := hp_14
  have hm_26 : M_15 0 = some (cStore ad qa qs fw) := by rw [hF_23 0 (by omega) (by omega) (by omega) (by omega)]; exact h0
  have hF_27 : ∀ j : Nat, j ≠ 8 → j ≠ 9 → j ≠ 10 → j ≠ 11 → M_15 j = M j := fun j q0 q1 q2 q3 => (hF_23 j q0 q1 q2 q3)
  rw [hr_18]
  exact e_Ni hx hb hr rfl hlocks hI ⟨l2_25, rfl, hm_19, hm_20, hm_21, hm_22, (fun j q0 q1 q2 q3 => hF_27 j q0 q1 q2 q3), hP_24⟩ dX9_one_17

/-- X9_part -/
abbrev rm_c_X9_part_0 : Room := { frames := 1, cells := 0, slots := 0, locals := 20 }
set_option maxHeartbeats 4000000 in
set_option maxRecDepth 100000 in
theorem c_X9_part_0 (l : Launch) (G : GG) (z : Nat) (ad : Nat → Nat) (M : Mem) {qa : Nat} {qs : Nat} {fw : Int32} (h0 : M 0 = some (cStore ad qa qs fw)) (h8 : M 8 = some (cOnes ad 0))  : Met l yX9_part wsX9_part rm_c_X9_part_0 (Pr G z ad M [.ref (ad 0)]) (vp_Si (fun r : Int32 => r = nI 0)) 0 0 (fun _ => False) := by
  refine Met.ofW (cc := cX9_part) (maxL := 1) (ret := (some .boolean)) (by decide) rfl ?_
  intro p e s m args below meth c s₁ B hml hv
  obtain ⟨rfl, hv⟩ := hv
  have hI := Iv.entry hv
  have hx := B.exec
  have hb := B.bytes
  have hr := B.returns
  have hts := atoms_spec (ws := wsX9_part) B.pre
  have hown : s.vm.findClass RX9 = some m.cls := findClass_of_methodNamed B.named
  have hlocks := B.notSynchronized
  have i_RX9 : ∀ w ∈ u_ws RX9 TX9 10, w ∈ wsX9_part := fun w h => List.mem_cons_of_mem _ (iu_X9 w h)
  have f_26 := hts _ (List.mem_cons_of_mem _ (lwg_of t_241 rfl))
  have hl := lv_entry ([.ref (ad 0)]) (n := 1) (Nat.le_of_ble_eq_true rfl)
  rw [lg_entry_eq]
  generalize (lg_sl ([.ref (ad 0)]) ++ List.replicate (1 - (lg_sl ([.ref (ad 0)])).length) Slot.unset).toArray = ls at hl ⊢
  have hl : lv_has ls 1 [(0, .ref (ad 0))] := hl
  refine lv_aload_n hx hb dX9_part_0 rfl (lv_at hl 0 rfl) ?_
  refine h_get (C := RX9) (T := TX9) (N := 10) hx hb hts i_RX9 hown hI h0 rfl 2 (by decide) f_26 rfl rfl dX9_part_1 ?_
  refine k_Ri (va_runV (As := []) (rest := []) ⟨hx, hb, hml, hown, hts⟩ (c_X5_undo_0 l G z ad M  h8) (cwV 0 hts (gV (lwg_of t_299 rfl) (lwg_of t_300 rfl) (lwg_of t_301 rfl) (lwg_of t_4 rfl) (lwg_of t_302 rfl)) rfl rfl rfl (by decide +kernel) ⟨Nat.le_of_ble_eq_true rfl, Nat.le_of_ble_eq_true rfl⟩) (hI.preV h8 rfl) rfl rfl hl.1 rfl (lv_room (Nat.le_of_ble_eq_true rfl)) dX9_part_4 ⟨Nat.le_of_ble_eq_true rfl, Nat.le_of_ble_eq_true rfl⟩) (fun _ h => h) (fun r_1 hp_2 => ?_)
  rw [hp_2]
  exact e_Ri hx hb hr rfl hlocks (rfl) dX9_part_7

/-- X9_part -/
abbrev rm_c_X9_part : Room := { frames := 2, cells := 0, slots := 0, locals := 42 }
set_option maxHeartbeats 4000000 in
set_option maxRecDepth 100000 in
theorem c_X9_part (l : Launch) (G : GG) (z : Nat) (ad : Nat → Nat) (M : Mem) {qa : Nat} {qs : Nat} {fw : Int32} {jn : Nat} {hg : Nat → Nat} {lst : Nat → Nat} {jd : Nat → Nat} (h0 : M 0 = some (cStore ad qa qs fw)) (h8 : M 8 = some (cOnes ad jn)) (h9 : M 9 = some (aI G 40 (nF hg))) (h10 : M 10 = some (aI G 40 (nF lst))) (h11 : M 11 = some (aI G 40 (nF jd))) (hj0 : 0 < jn) (hjn : jn < 41) (hjd : ∀ i, i < jn → jd i < 40) (hhg : ∀ t, t < 40 → hg t ≤ t) : Met l yX9_part wsX9_part rm_c_X9_part (Pr G z ad M [.ref (ad 0)]) (Ni G z ad (fun (r : Int32) (M' : Mem) => ∃ l2 : Nat → Nat, r = nI 1 ∧ M' 8 = some (cOnes ad (jn - 1)) ∧ M' 9 = some (aI G 40 (nF (va_up hg (jd (jn - 1)) (jd (jn - 1))))) ∧ M' 10 = some (aI G 40 (nF l2)) ∧ M' 11 = some (aI G 40 (nF jd)) ∧ (∀ j : Nat, j ≠ 8 → j ≠ 9 → j ≠ 10 → j ≠ 11 → M' j = M j) ∧ isRt (va_up hg (jd (jn - 1)) (jd (jn - 1))) l2 40)) 0 0 (fr z) := by
  refine Met.ofW (cc := cX9_part) (maxL := 1) (ret := (some .boolean)) (by decide) rfl ?_
  intro p e s m args below meth c s₁ B hml hv
  obtain ⟨rfl, hv⟩ := hv
  have hI := Iv.entry hv
  have hx := B.exec
  have hb := B.bytes
  have hr := B.returns
  have hts := atoms_spec (ws := wsX9_part) B.pre
  have hown : s.vm.findClass RX9 = some m.cls := findClass_of_methodNamed B.named
  have hlocks := B.notSynchronized
  have i_RX9 : ∀ w ∈ u_ws RX9 TX9 10, w ∈ wsX9_part := fun w h => List.mem_cons_of_mem _ (iu_X9 w h)
  have f_26 := hts _ (List.mem_cons_of_mem _ (lwg_of t_241 rfl))
  have hl := lv_entry ([.ref (ad 0)]) (n := 1) (Nat.le_of_ble_eq_true rfl)
  rw [lg_entry_eq]
  generalize (lg_sl ([.ref (ad 0)]) ++ List.replicate (1 - (lg_sl ([.ref (ad 0)])).length) Slot.unset).toArray = ls at hl ⊢
  have hl : lv_has ls 1 [(0, .ref (ad 0))] := hl
  refine lv_aload_n hx hb dX9_part_0 rfl (lv_at hl 0 rfl) ?_
  refine h_get (C := RX9) (T := TX9) (N := 10) hx hb hts i_RX9 hown hI h0 rfl 2 (by decide) f_26 rfl rfl dX9_part_1 ?_
  refine k_Ni (va_runV (As := []) (rest := []) ⟨hx, hb, hml, hown, hts⟩ (c_X5_undo l G z ad M (jn := jn) (hg := hg) (lst := lst) (jd := jd) h8 h9 h10 h11 (by omega) (by omega) hjd hhg) (cwV 0 hts (gV (lwg_of t_299 rfl) (lwg_of t_300 rfl) (lwg_of t_301 rfl) (lwg_of t_4 rfl) (lwg_of t_302 rfl)) rfl rfl rfl (by decide +kernel) ⟨Nat.le_of_ble_eq_true rfl, Nat.le_of_ble_eq_true rfl⟩) (hI.preV h8 rfl) rfl rfl hl.1 rfl (lv_room (Nat.le_of_ble_eq_true rfl)) dX9_part_4 ⟨Nat.le_of_ble_eq_true rfl, Nat.le_of_ble_eq_true rfl⟩) hI (fun r_1 M_3 H_4 locs_5 hp_2 hI => ?_)
  obtain ⟨l2_13, hr_6, hm_7, hm_8, hm_9, hm_10, hF_11, hP_12⟩ := hp_2
  have hm_14 : M_3 0 = some (cStore ad qa qs fw) := by rw [hF_11 0 (by omega) (by omega) (by omega) (by omega)]; exact h0
  have hF_15 : ∀ j : Nat, j ≠ 8 → j ≠ 9 → j ≠ 10 → j ≠ 11 → M_3 j = M j := fun j q0 q1 q2 q3 => (hF_11 j q0 q1 q2 q3)
  rw [hr_6]
  exact e_Ni hx hb hr rfl hlocks hI ⟨l2_13, rfl, hm_7, hm_8, hm_9, hm_10, (fun j q0 q1 q2 q3 => hF_15 j q0 q1 q2 q3), hP_12⟩ dX9_part_7

/-- X9_as -/
abbrev rm_c_X9_as : Room := { frames := 1, cells := 0, slots := 0, locals := 21 }
set_option maxHeartbeats 4000000 in
set_option maxRecDepth 100000 in
theorem c_X9_as (l : Launch) (G : GG) (z : Nat) (ad : Nat → Nat) (M : Mem) {qa : Nat} {qs : Nat} {fw : Int32} {jn : Nat} {lst : Nat → Nat} {t : Nat} (h0 : M 0 = some (cStore ad qa qs fw)) (h8 : M 8 = some (cOnes ad jn)) (h10 : M 10 = some (aI G 40 (nF lst))) (ht : t < 40) : Met l yX9_as wsX9_as rm_c_X9_as (Pr G z ad M [.ref (ad 0), .int (nI t)]) (Ni G z ad (fun (r : Int32) (M' : Mem) => r = nI (lst t) ∧ (∀ j : Nat,  M' j = M j))) 0 0 (fr z) := by
  refine Met.ofW (cc := cX9_as) (maxL := 2) (ret := (some .int)) (by decide) rfl ?_
  intro p e s m args below meth c s₁ B hml hv
  obtain ⟨rfl, hv⟩ := hv
  have hI := Iv.entry hv
  have hx := B.exec
  have hb := B.bytes
  have hr := B.returns
  have hts := atoms_spec (ws := wsX9_as) B.pre
  have hown : s.vm.findClass RX9 = some m.cls := findClass_of_methodNamed B.named
  have hlocks := B.notSynchronized
  have i_RX9 : ∀ w ∈ u_ws RX9 TX9 10, w ∈ wsX9_as := fun w h => List.mem_cons_of_mem _ (iu_X9 w h)
  have f_26 := hts _ (List.mem_cons_of_mem _ (lwg_of t_241 rfl))
  have hl := lv_entry ([.ref (ad 0), .int (nI t)]) (n := 2) (Nat.le_of_ble_eq_true rfl)
  rw [lg_entry_eq]
  generalize (lg_sl ([.ref (ad 0), .int (nI t)]) ++ List.replicate (2 - (lg_sl ([.ref (ad 0), .int (nI t)])).length) Slot.unset).toArray = ls at hl ⊢
  have hl : lv_has ls 2 [(0, .ref (ad 0)), (1, .int (nI t))] := hl
  refine lv_iload_n hx hb dX9_as_0 rfl (lv_at hl 1 rfl) ?_
  refine k_Nv (va_runS (As := [.int (nI t)]) (rest := []) ⟨hx, hb, hml, hown, hts⟩ (c_X9_checkThing l G z ad M (t := t) (by omega)) (va_cwS 1 hts (gS (lwg_of t_608 rfl) (lwg_of t_609 rfl) (lwg_of t_1 rfl) (lwg_of t_610 rfl)) rfl rfl rfl (by decide +kernel) ⟨Nat.le_of_ble_eq_true rfl, Nat.le_of_ble_eq_true rfl⟩) hI.preS rfl rfl hl.1 rfl (lv_room (Nat.le_of_ble_eq_true rfl)) dX9_as_1 ⟨Nat.le_of_ble_eq_true rfl, Nat.le_of_ble_eq_true rfl⟩) hI (fun M_3 H_4 locs_5 hp_2 hI => ?_)
  have eM_6 : M = M_3 := (funext hp_2).symm
  subst eM_6
  refine lv_aload_n hx hb dX9_as_4 rfl (lv_at hl 0 rfl) ?_
  refine h_get (C := RX9) (T := TX9) (N := 10) hx hb hts i_RX9 hown hI h0 rfl 2 (by decide) f_26 rfl rfl dX9_as_5 ?_
  refine lv_iload_n hx hb dX9_as_8 rfl (lv_at hl 1 rfl) ?_
  refine k_Ri (va_runV (As := [.int (nI t)]) (rest := []) ⟨hx, hb, hml, hown, hts⟩ (c_X5_of l G z ad M (jn := jn) (lst := lst) (t := t) h8 h10 (by omega)) (cwV 1 hts (gV (lwg_of t_854 rfl) (lwg_of t_377 rfl) (lwg_of t_378 rfl) (lwg_of t_4 rfl) (lwg_of t_379 rfl)) rfl rfl rfl (by decide +kernel) ⟨Nat.le_of_ble_eq_true rfl, Nat.le_of_ble_eq_true rfl⟩) (hI.preV h8 rfl) rfl rfl hl.1 rfl (lv_room (Nat.le_of_ble_eq_true rfl)) dX9_as_9 ⟨Nat.le_of_ble_eq_true rfl, Nat.le_of_ble_eq_true rfl⟩) (fun _ h => h) (fun r_7 hp_8 => ?_)
  rw [hp_8]
  exact e_Ni hx hb hr rfl hlocks hI ⟨rfl, (fun j  => rfl)⟩ dX9_as_12

/-- X9_look -/
abbrev rm_c_X9_look_0 : Room := { frames := 4, cells := 0, slots := 0, locals := 85 }
set_option maxHeartbeats 4000000 in
set_option maxRecDepth 100000 in
theorem c_X9_look_0 (l : Launch) (G : GG) (z : Nat) (ad : Nat → Nat) (M : Mem) {n : Nat} {kd : Nat → Nat} {fm : Nat → Int32} {to : Nat → Int32} {sz : Nat → Nat} {rl : Nat → Nat → Nat} {en : Nat → Nat → Nat} {qa : Nat} {qs : Nat} {fw : Int32} {q : Nat} (hL : LSm G ad M n kd fm to sz rl en) (h0 : M 0 = some (cStore ad qa qs fw)) (hw : LSw n kd sz rl en) (hq : q < n) : Met l yX9_look wsX9_look rm_c_X9_look_0 (Pr G z ad M [.ref (ad 0), .int (nI q), .int (nI 0)]) (Ni G z ad (fun (r : Int32) (M' : Mem) => r = nI (kd q) ∧ (∀ j : Nat,  M' j = M j))) 0 0 (fr z) := by
  refine Met.ofW (cc := cX9_look) (maxL := 4) (ret := (some .int)) (by decide) rfl ?_
  intro p e s m args below meth c s₁ B hml hv
  obtain ⟨rfl, hv⟩ := hv
  have hI := Iv.entry hv
  have hx := B.exec
  have hb := B.bytes
  have hr := B.returns
  have hts := atoms_spec (ws := wsX9_look) B.pre
  have hown : s.vm.findClass RX9 = some m.cls := findClass_of_methodNamed B.named
  have hlocks := B.notSynchronized
  have i_RX9 : ∀ w ∈ u_ws RX9 TX9 10, w ∈ wsX9_look := fun w h => List.mem_cons_of_mem _ (iu_X9 w h)
  have f_40 := hts _ (List.mem_cons_of_mem _ (lwg_of t_243 rfl))
  have i_RX2 : ∀ w ∈ u_ws RX2 TX2 4, w ∈ wsX9_look := fun w h => List.mem_cons_of_mem _ (iu_X2 w h)
  have hl := lv_entry ([.ref (ad 0), .int (nI q), .int (nI 0)]) (n := 4) (Nat.le_of_ble_eq_true rfl)
  rw [lg_entry_eq]
  generalize (lg_sl ([.ref (ad 0), .int (nI q), .int (nI 0)]) ++ List.replicate (4 - (lg_sl ([.ref (ad 0), .int (nI q), .int (nI 0)])).length) Slot.unset).toArray = ls at hl ⊢
  have hl : lv_has ls 4 [(0, .ref (ad 0)), (1, .int (nI q)), (2, .int (nI 0))] := hl
  have h16 := hL.1
  obtain ⟨mcn, ed, h17, hed⟩ := id hL.2.1
  have hw1 := hw.1
  refine lv_aload_n hx hb dX9_look_0 rfl (lv_at hl 0 rfl) ?_
  refine lv_iload_n hx hb dX9_look_1 rfl (lv_at hl 1 rfl) ?_
  refine k_Nv (va_runV (As := [.int (nI q)]) (rest := []) ⟨hx, hb, hml, hown, hts⟩ (c_X9_checkLine l G z ad M (n := n) (kd := kd) (fm := fm) (to := to) (sz := sz) (rl := rl) (en := en) (qa := qa) (qs := qs) (fw := fw) (t := q) hL h0 hq hw1) (cwV 1 hts (gV (lwg_of t_603 rfl) (lwg_of t_605 rfl) (lwg_of ts_7 rfl) (lwg_of t_1 rfl) (lwg_of t_606 rfl)) rfl rfl rfl (by decide +kernel) ⟨Nat.le_of_ble_eq_true rfl, Nat.le_of_ble_eq_true rfl⟩) (hI.preV h0 rfl) rfl rfl hl.1 rfl (lv_room (Nat.le_of_ble_eq_true rfl)) dX9_look_2 ⟨Nat.le_of_ble_eq_true rfl, Nat.le_of_ble_eq_true rfl⟩) hI (fun M_3 H_4 locs_5 hp_2 hI => ?_)
  have eM_6 : M = M_3 := (funext hp_2).symm
  subst eM_6
  refine lv_aload_n hx hb dX9_look_5 rfl (lv_at hl 0 rfl) ?_
  refine h_get (C := RX9) (T := TX9) (N := 10) hx hb hts i_RX9 hown hI h0 rfl 4 (by decide) f_40 rfl rfl dX9_look_6 ?_
  refine lv_iload_n hx hb dX9_look_9 rfl (lv_at hl 1 rfl) ?_
  refine k_Rq (va_runV (As := [.int (nI q)]) (rest := []) ⟨hx, hb, hml, hown, hts⟩ (c_X3_get l G z ad M (n := n) (kd := kd) (fm := fm) (to := to) (sz := sz) (rl := rl) (en := en) (i := q) hL hq hw1) (cwV 1 hts (gV (lwg_of t_863 rfl) (lwg_of t_333 rfl) (lwg_of t_334 rfl) (lwg_of t_6 rfl) (lwg_of t_335 rfl)) rfl rfl rfl (by decide +kernel) ⟨Nat.le_of_ble_eq_true rfl, Nat.le_of_ble_eq_true rfl⟩) (hI.preV h16 rfl) rfl rfl hl.1 rfl (lv_room (Nat.le_of_ble_eq_true rfl)) dX9_look_10 ⟨Nat.le_of_ble_eq_true rfl, Nat.le_of_ble_eq_true rfl⟩) (fun _ h => h) (fun r_7 hp_8 => ?_)
  rw [hp_8]; show W _ _ _ _ _ _ _ _ _ _ _ _ _ _ _ (F0 m 13 ls (.ref (ad (100 + 5 * q)) :: []))
  refine lv_astore_n (lv' := [(3, .ref (ad (100 + 5 * q))), (0, .ref (ad 0)), (1, .int (nI q)), (2, .int (nI 0))]) hx hb dX9_look_13 rfl hl (by decide) rfl (fun ls hl => ?_)
  refine lv_iload_n hx hb dX9_look_14 rfl (lv_at hl 3 rfl) ?_
  refine lv_tableIn (off := 33) (tgt := 48) hx hb dX9_look_15 (by decide) (by decide) (by decide) (by decide) ?_
  refine lv_aload_n hx hb dX9_look_48 rfl (lv_at hl 0 rfl) ?_
  refine h_getN (C := RX2) (T := TX2) (N := 4) hx hb hts i_RX2 hown hI (hL.2.2 q (by omega)).1 rfl 0 (by decide) (nwf_at (i := 0) (q := ("LineStore", 174, "LineStore$Line", "kind", "I", "LineStore")) hI rfl) rfl rfl dX9_look_49 ?_
  exact e_Ni hx hb hr rfl hlocks hI ⟨rfl, (fun j  => rfl)⟩ dX9_look_52

/-- X9_look -/
abbrev rm_c_X9_look_1 : Room := { frames := 4, cells := 0, slots := 0, locals := 85 }
set_option maxHeartbeats 4000000 in
set_option maxRecDepth 100000 in
theorem c_X9_look_1 (l : Launch) (G : GG) (z : Nat) (ad : Nat → Nat) (M : Mem) {n : Nat} {kd : Nat → Nat} {fm : Nat → Int32} {to : Nat → Int32} {sz : Nat → Nat} {rl : Nat → Nat → Nat} {en : Nat → Nat → Nat} {qa : Nat} {qs : Nat} {fw : Int32} {q : Nat} (hL : LSm G ad M n kd fm to sz rl en) (h0 : M 0 = some (cStore ad qa qs fw)) (hw : LSw n kd sz rl en) (hq : q < n) : Met l yX9_look wsX9_look rm_c_X9_look_1 (Pr G z ad M [.ref (ad 0), .int (nI q), .int (nI 1)]) (Ni G z ad (fun (r : Int32) (M' : Mem) => r = fm q ∧ (∀ j : Nat,  M' j = M j))) 0 0 (fr z) := by
  refine Met.ofW (cc := cX9_look) (maxL := 4) (ret := (some .int)) (by decide) rfl ?_
  intro p e s m args below meth c s₁ B hml hv
  obtain ⟨rfl, hv⟩ := hv
  have hI := Iv.entry hv
  have hx := B.exec
  have hb := B.bytes
  have hr := B.returns
  have hts := atoms_spec (ws := wsX9_look) B.pre
  have hown : s.vm.findClass RX9 = some m.cls := findClass_of_methodNamed B.named
  have hlocks := B.notSynchronized
  have i_RX9 : ∀ w ∈ u_ws RX9 TX9 10, w ∈ wsX9_look := fun w h => List.mem_cons_of_mem _ (iu_X9 w h)
  have f_40 := hts _ (List.mem_cons_of_mem _ (lwg_of t_243 rfl))
  have i_RX2 : ∀ w ∈ u_ws RX2 TX2 4, w ∈ wsX9_look := fun w h => List.mem_cons_of_mem _ (iu_X2 w h)
  have hl := lv_entry ([.ref (ad 0), .int (nI q), .int (nI 1)]) (n := 4) (Nat.le_of_ble_eq_true rfl)
  rw [lg_entry_eq]
  generalize (lg_sl ([.ref (ad 0), .int (nI q), .int (nI 1)]) ++ List.replicate (4 - (lg_sl ([.ref (ad 0), .int (nI q), .int (nI 1)])).length) Slot.unset).toArray = ls at hl ⊢
  have hl : lv_has ls 4 [(0, .ref (ad 0)), (1, .int (nI q)), (2, .int (nI 1))] := hl
  have h16 := hL.1
  obtain ⟨mcn, ed, h17, hed⟩ := id hL.2.1
  have hw1 := hw.1
  refine lv_aload_n hx hb dX9_look_0 rfl (lv_at hl 0 rfl) ?_
  refine lv_iload_n hx hb dX9_look_1 rfl (lv_at hl 1 rfl) ?_
  refine k_Nv (va_runV (As := [.int (nI q)]) (rest := []) ⟨hx, hb, hml, hown, hts⟩ (c_X9_checkLine l G z ad M (n := n) (kd := kd) (fm := fm) (to := to) (sz := sz) (rl := rl) (en := en) (qa := qa) (qs := qs) (fw := fw) (t := q) hL h0 hq hw1) (cwV 1 hts (gV (lwg_of t_603 rfl) (lwg_of t_605 rfl) (lwg_of ts_7 rfl) (lwg_of t_1 rfl) (lwg_of t_606 rfl)) rfl rfl rfl (by decide +kernel) ⟨Nat.le_of_ble_eq_true rfl, Nat.le_of_ble_eq_true rfl⟩) (hI.preV h0 rfl) rfl rfl hl.1 rfl (lv_room (Nat.le_of_ble_eq_true rfl)) dX9_look_2 ⟨Nat.le_of_ble_eq_true rfl, Nat.le_of_ble_eq_true rfl⟩) hI (fun M_3 H_4 locs_5 hp_2 hI => ?_)
  have eM_6 : M = M_3 := (funext hp_2).symm
  subst eM_6
  refine lv_aload_n hx hb dX9_look_5 rfl (lv_at hl 0 rfl) ?_
  refine h_get (C := RX9) (T := TX9) (N := 10) hx hb hts i_RX9 hown hI h0 rfl 4 (by decide) f_40 rfl rfl dX9_look_6 ?_
  refine lv_iload_n hx hb dX9_look_9 rfl (lv_at hl 1 rfl) ?_
  refine k_Rq (va_runV (As := [.int (nI q)]) (rest := []) ⟨hx, hb, hml, hown, hts⟩ (c_X3_get l G z ad M (n := n) (kd := kd) (fm := fm) (to := to) (sz := sz) (rl := rl) (en := en) (i := q) hL hq hw1) (cwV 1 hts (gV (lwg_of t_863 rfl) (lwg_of t_333 rfl) (lwg_of t_334 rfl) (lwg_of t_6 rfl) (lwg_of t_335 rfl)) rfl rfl rfl (by decide +kernel) ⟨Nat.le_of_ble_eq_true rfl, Nat.le_of_ble_eq_true rfl⟩) (hI.preV h16 rfl) rfl rfl hl.1 rfl (lv_room (Nat.le_of_ble_eq_true rfl)) dX9_look_10 ⟨Nat.le_of_ble_eq_true rfl, Nat.le_of_ble_eq_true rfl⟩) (fun _ h => h) (fun r_7 hp_8 => ?_)
  rw [hp_8]; show W _ _ _ _ _ _ _ _ _ _ _ _ _ _ _ (F0 m 13 ls (.ref (ad (100 + 5 * q)) :: []))
  refine lv_astore_n (lv' := [(3, .ref (ad (100 + 5 * q))), (0, .ref (ad 0)), (1, .int (nI q)), (2, .int (nI 1))]) hx hb dX9_look_13 rfl hl (by decide) rfl (fun ls hl => ?_)
  refine lv_iload_n hx hb dX9_look_14 rfl (lv_at hl 3 rfl) ?_
  refine lv_tableIn (off := 38) (tgt := 53) hx hb dX9_look_15 (by decide) (by decide) (by decide) (by decide) ?_
  refine lv_aload_n hx hb dX9_look_53 rfl (lv_at hl 0 rfl) ?_
  refine h_getN (C := RX2) (T := TX2) (N := 4) hx hb hts i_RX2 hown hI (hL.2.2 q (by omega)).1 rfl 1 (by decide) (nwf_at (i := 1) (q := ("LineStore", 177, "LineStore$Line", "from", "I", "LineStore")) hI rfl) rfl rfl dX9_look_54 ?_
  exact e_Ni hx hb hr rfl hlocks hI ⟨rfl, (fun j  => rfl)⟩ dX9_look_57

/-- X9_look -/
abbrev rm_c_X9_look_2 : Room := { frames := 4, cells := 0, slots := 0, locals := 85 }
set_option maxHeartbeats 4000000 in
set_option maxRecDepth 100000 in
theorem c_X9_look_2 (l : Launch) (G : GG) (z : Nat) (ad : Nat → Nat) (M : Mem) {n : Nat} {kd : Nat → Nat} {fm : Nat → Int32} {to : Nat → Int32} {sz : Nat → Nat} {rl : Nat → Nat → Nat} {en : Nat → Nat → Nat} {qa : Nat} {qs : Nat} {fw : Int32} {q : Nat} (hL : LSm G ad M n kd fm to sz rl en) (h0 : M 0 = some (cStore ad qa qs fw)) (hw : LSw n kd sz rl en) (hq : q < n) : Met l yX9_look wsX9_look rm_c_X9_look_2 (Pr G z ad M [.ref (ad 0), .int (nI q), .int (nI 2)]) (Ni G z ad (fun (r : Int32) (M' : Mem) => r = to q ∧ (∀ j : Nat,  M' j = M j))) 0 0 (fr z) := by
  refine Met.ofW (cc := cX9_look) (maxL := 4) (ret := (some .int)) (by decide) rfl ?_
  intro p e s m args below meth c s₁ B hml hv
  obtain ⟨rfl, hv⟩ := hv
  have hI := Iv.entry hv
  have hx := B.exec
  have hb := B.bytes
  have hr := B.returns
  have hts := atoms_spec (ws := wsX9_look) B.pre
  have hown : s.vm.findClass RX9 = some m.cls := findClass_of_methodNamed B.named
  have hlocks := B.notSynchronized
  have i_RX9 : ∀ w ∈ u_ws RX9 TX9 10, w ∈ wsX9_look := fun w h => List.mem_cons_of_mem _ (iu_X9 w h)
  have f_40 := hts _ (List.mem_cons_of_mem _ (lwg_of t_243 rfl))
  have i_RX2 : ∀ w ∈ u_ws RX2 TX2 4, w ∈ wsX9_look := fun w h => List.mem_cons_of_mem _ (iu_X2 w h)
  have hl := lv_entry ([.ref (ad 0), .int (nI q), .int (nI 2)]) (n := 4) (Nat.le_of_ble_eq_true rfl)
  rw [lg_entry_eq]
  generalize (lg_sl ([.ref (ad 0), .int (nI q), .int (nI 2)]) ++ List.replicate (4 - (lg_sl ([.ref (ad 0), .int (nI q), .int (nI 2)])).length) Slot.unset).toArray = ls at hl ⊢
  have hl : lv_has ls 4 [(0, .ref (ad 0)), (1, .int (nI q)), (2, .int (nI 2))] := hl
  have h16 := hL.1
  obtain ⟨mcn, ed, h17, hed⟩ := id hL.2.1
  have hw1 := hw.1
  refine lv_aload_n hx hb dX9_look_0 rfl (lv_at hl 0 rfl) ?_
  refine lv_iload_n hx hb dX9_look_1 rfl (lv_at hl 1 rfl) ?_
  refine k_Nv (va_runV (As := [.int (nI q)]) (rest := []) ⟨hx, hb, hml, hown, hts⟩ (c_X9_checkLine l G z ad M (n := n) (kd := kd) (fm := fm) (to := to) (sz := sz) (rl := rl) (en := en) (qa := qa) (qs := qs) (fw := fw) (t := q) hL h0 hq hw1) (cwV 1 hts (gV (lwg_of t_603 rfl) (lwg_of t_605 rfl) (lwg_of ts_7 rfl) (lwg_of t_1 rfl) (lwg_of t_606 rfl)) rfl rfl rfl (by decide +kernel) ⟨Nat.le_of_ble_eq_true rfl, Nat.le_of_ble_eq_true rfl⟩) (hI.preV h0 rfl) rfl rfl hl.1 rfl (lv_room (Nat.le_of_ble_eq_true rfl)) dX9_look_2 ⟨Nat.le_of_ble_eq_true rfl, Nat.le_of_ble_eq_true rfl⟩) hI (fun M_3 H_4 locs_5 hp_2 hI => ?_)
  have eM_6 : M = M_3 := (funext hp_2).symm
  subst eM_6
  refine lv_aload_n hx hb dX9_look_5 rfl (lv_at hl 0 rfl) ?_
  refine h_get (C := RX9) (T := TX9) (N := 10) hx hb hts i_RX9 hown hI h0 rfl 4 (by decide) f_40 rfl rfl dX9_look_6 ?_
  refine lv_iload_n hx hb dX9_look_9 rfl (lv_at hl 1 rfl) ?_
  refine k_Rq (va_runV (As := [.int (nI q)]) (rest := []) ⟨hx, hb, hml, hown, hts⟩ (c_X3_get l G z ad M (n := n) (kd := kd) (fm := fm) (to := to) (sz := sz) (rl := rl) (en := en) (i := q) hL hq hw1) (cwV 1 hts (gV (lwg_of t_863 rfl) (lwg_of t_333 rfl) (lwg_of t_334 rfl) (lwg_of t_6 rfl) (lwg_of t_335 rfl)) rfl rfl rfl (by decide +kernel) ⟨Nat.le_of_ble_eq_true rfl, Nat.le_of_ble_eq_true rfl⟩) (hI.preV h16 rfl) rfl rfl hl.1 rfl (lv_room (Nat.le_of_ble_eq_true rfl)) dX9_look_10 ⟨Nat.le_of_ble_eq_true rfl, Nat.le_of_ble_eq_true rfl⟩) (fun _ h => h) (fun r_7 hp_8 => ?_)
  rw [hp_8]; show W _ _ _ _ _ _ _ _ _ _ _ _ _ _ _ (F0 m 13 ls (.ref (ad (100 + 5 * q)) :: []))
  refine lv_astore_n (lv' := [(3, .ref (ad (100 + 5 * q))), (0, .ref (ad 0)), (1, .int (nI q)), (2, .int (nI 2))]) hx hb dX9_look_13 rfl hl (by decide) rfl (fun ls hl => ?_)
  refine lv_iload_n hx hb dX9_look_14 rfl (lv_at hl 3 rfl) ?_
  refine lv_tableIn (off := 43) (tgt := 58) hx hb dX9_look_15 (by decide) (by decide) (by decide) (by decide) ?_
  refine lv_aload_n hx hb dX9_look_58 rfl (lv_at hl 0 rfl) ?_
  refine h_getN (C := RX2) (T := TX2) (N := 4) hx hb hts i_RX2 hown hI (hL.2.2 q (by omega)).1 rfl 2 (by decide) (nwf_at (i := 2) (q := ("LineStore", 180, "LineStore$Line", "to", "I", "LineStore")) hI rfl) rfl rfl dX9_look_59 ?_
  exact e_Ni hx hb hr rfl hlocks hI ⟨rfl, (fun j  => rfl)⟩ dX9_look_62

/-- X9_look -/
abbrev rm_c_X9_look_3 : Room := { frames := 4, cells := 0, slots := 0, locals := 85 }
set_option maxHeartbeats 4000000 in
set_option maxRecDepth 100000 in
theorem c_X9_look_3 (l : Launch) (G : GG) (z : Nat) (ad : Nat → Nat) (M : Mem) {n : Nat} {kd : Nat → Nat} {fm : Nat → Int32} {to : Nat → Int32} {sz : Nat → Nat} {rl : Nat → Nat → Nat} {en : Nat → Nat → Nat} {qa : Nat} {qs : Nat} {fw : Int32} {q : Nat} (hL : LSm G ad M n kd fm to sz rl en) (h0 : M 0 = some (cStore ad qa qs fw)) (hw : LSw n kd sz rl en) (hq : q < n) : Met l yX9_look wsX9_look rm_c_X9_look_3 (Pr G z ad M [.ref (ad 0), .int (nI q), .int (nI 3)]) (Ni G z ad (fun (r : Int32) (M' : Mem) => r = nI (sz q) ∧ (∀ j : Nat,  M' j = M j))) 0 0 (fr z) := by
  refine Met.ofW (cc := cX9_look) (maxL := 4) (ret := (some .int)) (by decide) rfl ?_
  intro p e s m args below meth c s₁ B hml hv
  obtain ⟨rfl, hv⟩ := hv
  have hI := Iv.entry hv
  have hx := B.exec
  have hb := B.bytes
  have hr := B.returns
  have hts := atoms_spec (ws := wsX9_look) B.pre
  have hown : s.vm.findClass RX9 = some m.cls := findClass_of_methodNamed B.named
  have hlocks := B.notSynchronized
  have i_RX9 : ∀ w ∈ u_ws RX9 TX9 10, w ∈ wsX9_look := fun w h => List.mem_cons_of_mem _ (iu_X9 w h)
  have f_40 := hts _ (List.mem_cons_of_mem _ (lwg_of t_243 rfl))
  have i_RX2 : ∀ w ∈ u_ws RX2 TX2 4, w ∈ wsX9_look := fun w h => List.mem_cons_of_mem _ (iu_X2 w h)
  have hl := lv_entry ([.ref (ad 0), .int (nI q), .int (nI 3)]) (n := 4) (Nat.le_of_ble_eq_true rfl)
  rw [lg_entry_eq]
  generalize (lg_sl ([.ref (ad 0), .int (nI q), .int (nI 3)]) ++ List.replicate (4 - (lg_sl ([.ref (ad 0), .int (nI q), .int (nI 3)])).length) Slot.unset).toArray = ls at hl ⊢
  have hl : lv_has ls 4 [(0, .ref (ad 0)), (1, .int (nI q)), (2, .int (nI 3))] := hl
  have h16 := hL.1
  obtain ⟨mcn, ed, h17, hed⟩ := id hL.2.1
  have hw1 := hw.1
  refine lv_aload_n hx hb dX9_look_0 rfl (lv_at hl 0 rfl) ?_
  refine lv_iload_n hx hb dX9_look_1 rfl (lv_at hl 1 rfl) ?_
  refine k_Nv (va_runV (As := [.int (nI q)]) (rest := []) ⟨hx, hb, hml, hown, hts⟩ (c_X9_checkLine l G z ad M (n := n) (kd := kd) (fm := fm) (to := to) (sz := sz) (rl := rl) (en := en) (qa := qa) (qs := qs) (fw := fw) (t := q) hL h0 hq hw1) (cwV 1 hts (gV (lwg_of t_603 rfl) (lwg_of t_605 rfl) (lwg_of ts_7 rfl) (lwg_of t_1 rfl) (lwg_of t_606 rfl)) rfl rfl rfl (by decide +kernel) ⟨Nat.le_of_ble_eq_true rfl, Nat.le_of_ble_eq_true rfl⟩) (hI.preV h0 rfl) rfl rfl hl.1 rfl (lv_room (Nat.le_of_ble_eq_true rfl)) dX9_look_2 ⟨Nat.le_of_ble_eq_true rfl, Nat.le_of_ble_eq_true rfl⟩) hI (fun M_3 H_4 locs_5 hp_2 hI => ?_)
  have eM_6 : M = M_3 := (funext hp_2).symm
  subst eM_6
  refine lv_aload_n hx hb dX9_look_5 rfl (lv_at hl 0 rfl) ?_
  refine h_get (C := RX9) (T := TX9) (N := 10) hx hb hts i_RX9 hown hI h0 rfl 4 (by decide) f_40 rfl rfl dX9_look_6 ?_
  refine lv_iload_n hx hb dX9_look_9 rfl (lv_at hl 1 rfl) ?_
  refine k_Rq (va_runV (As := [.int (nI q)]) (rest := []) ⟨hx, hb, hml, hown, hts⟩ (c_X3_get l G z ad M (n := n) (kd := kd) (fm := fm) (to := to) (sz := sz) (rl := rl) (en := en) (i := q) hL hq hw1) (cwV 1 hts (gV (lwg_of t_863 rfl) (lwg_of t_333 rfl) (lwg_of t_334 rfl) (lwg_of t_6 rfl) (lwg_of t_335 rfl)) rfl rfl rfl (by decide +kernel) ⟨Nat.le_of_ble_eq_true rfl, Nat.le_of_ble_eq_true rfl⟩) (hI.preV h16 rfl) rfl rfl hl.1 rfl (lv_room (Nat.le_of_ble_eq_true rfl)) dX9_look_10 ⟨Nat.le_of_ble_eq_true rfl, Nat.le_of_ble_eq_true rfl⟩) (fun _ h => h) (fun r_7 hp_8 => ?_)
  rw [hp_8]; show W _ _ _ _ _ _ _ _ _ _ _ _ _ _ _ (F0 m 13 ls (.ref (ad (100 + 5 * q)) :: []))
  refine lv_astore_n (lv' := [(3, .ref (ad (100 + 5 * q))), (0, .ref (ad 0)), (1, .int (nI q)), (2, .int (nI 3))]) hx hb dX9_look_13 rfl hl (by decide) rfl (fun ls hl => ?_)
  refine lv_iload_n hx hb dX9_look_14 rfl (lv_at hl 3 rfl) ?_
  refine lv_tableIn (off := 48) (tgt := 63) hx hb dX9_look_15 (by decide) (by decide) (by decide) (by decide) ?_
  refine lv_aload_n hx hb dX9_look_63 rfl (lv_at hl 0 rfl) ?_
  refine h_getN (C := RX2) (T := TX2) (N := 4) hx hb hts i_RX2 hown hI (hL.2.2 q (by omega)).1 rfl 3 (by decide) (nwf_at (i := 3) (q := ("LineStore", 183, "LineStore$Line", "ends", "LLineStore$Ends;", "LineStore")) hI rfl) rfl rfl dX9_look_64 ?_
  refine k_Ri (va_runV (As := []) (rest := []) ⟨hx, hb, hml, hown, hts⟩ (c_X0_size l G z ad M (k := 100 + 5 * q + 1) (sz := sz q) (hL.2.2 q (by omega)).2.1) (cwV 0 hts (gV (lwg_of t_450 rfl) (lwg_of t_451 rfl) (lwg_of t_452 rfl) (lwg_of t_5 rfl) (lwg_of t_453 rfl)) rfl rfl rfl (by decide +kernel) ⟨Nat.le_of_ble_eq_true rfl, Nat.le_of_ble_eq_true rfl⟩) (hI.preV (hL.2.2 q (by omega)).2.1 rfl) rfl rfl hl.1 rfl (lv_room (Nat.le_of_ble_eq_true rfl)) dX9_look_67 ⟨Nat.le_of_ble_eq_true rfl, Nat.le_of_ble_eq_true rfl⟩) (fun _ h => h) (fun r_9 hp_10 => ?_)
  rw [hp_10]
  exact e_Ni hx hb hr rfl hlocks hI ⟨rfl, (fun j  => rfl)⟩ dX9_look_70

/-- X9_look -/
abbrev rm_c_X9_look_4 : Room := { frames := 4, cells := 0, slots := 0, locals := 87 }
set_option maxHeartbeats 4000000 in
set_option maxRecDepth 100000 in
theorem c_X9_look_4 (l : Launch) (G : GG) (z : Nat) (ad : Nat → Nat) (M : Mem) {n : Nat} {kd : Nat → Nat} {fm : Nat → Int32} {to : Nat → Int32} {sz : Nat → Nat} {rl : Nat → Nat → Nat} {en : Nat → Nat → Nat} {qa : Nat} {qs : Nat} {fw : Int32} {q : Nat} (hL : LSm G ad M n kd fm to sz rl en) (h0 : M 0 = some (cStore ad qa qs fw)) (hw : LSw n kd sz rl en) (hq : q < n) : Met l yX9_look wsX9_look rm_c_X9_look_4 (Pr G z ad M [.ref (ad 0), .int (nI q), .int (nI 4)]) (Ni G z ad (fun (r : Int32) (M' : Mem) => r = nI (cntB (hgO sz en q) n) ∧ (∀ j : Nat,  M' j = M j))) 0 0 (fr z) := by
  refine Met.ofW (cc := cX9_look) (maxL := 4) (ret := (some .int)) (by decide) rfl ?_
  intro p e s m args below meth c s₁ B hml hv
  obtain ⟨rfl, hv⟩ := hv
  have hI := Iv.entry hv
  have hx := B.exec
  have hb := B.bytes
  have hr := B.returns
  have hts := atoms_spec (ws := wsX9_look) B.pre
  have hown : s.vm.findClass RX9 = some m.cls := findClass_of_methodNamed B.named
  have hlocks := B.notSynchronized
  have i_RX9 : ∀ w ∈ u_ws RX9 TX9 10, w ∈ wsX9_look := fun w h => List.mem_cons_of_mem _ (iu_X9 w h)
  have f_40 := hts _ (List.mem_cons_of_mem _ (lwg_of t_243 rfl))
  have hl := lv_entry ([.ref (ad 0), .int (nI q), .int (nI 4)]) (n := 4) (Nat.le_of_ble_eq_true rfl)
  rw [lg_entry_eq]
  generalize (lg_sl ([.ref (ad 0), .int (nI q), .int (nI 4)]) ++ List.replicate (4 - (lg_sl ([.ref (ad 0), .int (nI q), .int (nI 4)])).length) Slot.unset).toArray = ls at hl ⊢
  have hl : lv_has ls 4 [(0, .ref (ad 0)), (1, .int (nI q)), (2, .int (nI 4))] := hl
  have h16 := hL.1
  obtain ⟨mcn, ed, h17, hed⟩ := id hL.2.1
  have hw1 := hw.1
  refine lv_aload_n hx hb dX9_look_0 rfl (lv_at hl 0 rfl) ?_
  refine lv_iload_n hx hb dX9_look_1 rfl (lv_at hl 1 rfl) ?_
  refine k_Nv (va_runV (As := [.int (nI q)]) (rest := []) ⟨hx, hb, hml, hown, hts⟩ (c_X9_checkLine l G z ad M (n := n) (kd := kd) (fm := fm) (to := to) (sz := sz) (rl := rl) (en := en) (qa := qa) (qs := qs) (fw := fw) (t := q) hL h0 hq hw1) (cwV 1 hts (gV (lwg_of t_603 rfl) (lwg_of t_605 rfl) (lwg_of ts_7 rfl) (lwg_of t_1 rfl) (lwg_of t_606 rfl)) rfl rfl rfl (by decide +kernel) ⟨Nat.le_of_ble_eq_true rfl, Nat.le_of_ble_eq_true rfl⟩) (hI.preV h0 rfl) rfl rfl hl.1 rfl (lv_room (Nat.le_of_ble_eq_true rfl)) dX9_look_2 ⟨Nat.le_of_ble_eq_true rfl, Nat.le_of_ble_eq_true rfl⟩) hI (fun M_3 H_4 locs_5 hp_2 hI => ?_)
  have eM_6 : M = M_3 := (funext hp_2).symm
  subst eM_6
  refine lv_aload_n hx hb dX9_look_5 rfl (lv_at hl 0 rfl) ?_
  refine h_get (C := RX9) (T := TX9) (N := 10) hx hb hts i_RX9 hown hI h0 rfl 4 (by decide) f_40 rfl rfl dX9_look_6 ?_
  refine lv_iload_n hx hb dX9_look_9 rfl (lv_at hl 1 rfl) ?_
  refine k_Rq (va_runV (As := [.int (nI q)]) (rest := []) ⟨hx, hb, hml, hown, hts⟩ (c_X3_get l G z ad M (n := n) (kd := kd) (fm := fm) (to := to) (sz := sz) (rl := rl) (en := en) (i := q) hL hq hw1) (cwV 1 hts (gV (lwg_of t_863 rfl) (lwg_of t_333 rfl) (lwg_of t_334 rfl) (lwg_of t_6 rfl) (lwg_of t_335 rfl)) rfl rfl rfl (by decide +kernel) ⟨Nat.le_of_ble_eq_true rfl, Nat.le_of_ble_eq_true rfl⟩) (hI.preV h16 rfl) rfl rfl hl.1 rfl (lv_room (Nat.le_of_ble_eq_true rfl)) dX9_look_10 ⟨Nat.le_of_ble_eq_true rfl, Nat.le_of_ble_eq_true rfl⟩) (fun _ h => h) (fun r_7 hp_8 => ?_)
  rw [hp_8]; show W _ _ _ _ _ _ _ _ _ _ _ _ _ _ _ (F0 m 13 ls (.ref (ad (100 + 5 * q)) :: []))
  refine lv_astore_n (lv' := [(3, .ref (ad (100 + 5 * q))), (0, .ref (ad 0)), (1, .int (nI q)), (2, .int (nI 4))]) hx hb dX9_look_13 rfl hl (by decide) rfl (fun ls hl => ?_)
  refine lv_iload_n hx hb dX9_look_14 rfl (lv_at hl 3 rfl) ?_
  refine lv_tableIn (off := 56) (tgt := 71) hx hb dX9_look_15 (by decide) (by decide) (by decide) (by decide) ?_
  refine lv_aload_n hx hb dX9_look_71 rfl (lv_at hl 1 rfl) ?_
  refine h_get (C := RX9) (T := TX9) (N := 10) hx hb hts i_RX9 hown hI h0 rfl 4 (by decide) f_40 rfl rfl dX9_look_72 ?_
  refine lv_iload_n hx hb dX9_look_75 rfl (lv_at hl 2 rfl) ?_
  refine k_Ri (va_runV (As := [.int (nI q)]) (rest := []) ⟨hx, hb, hml, hown, hts⟩ (c_X3_hangingOn l G z ad M (n := n) (kd := kd) (fm := fm) (to := to) (sz := sz) (rl := rl) (en := en) (q := q) hL hw (by omega)) (cwV 1 hts (gV (lwg_of t_864 rfl) (lwg_of t_865 rfl) (lwg_of t_866 rfl) (lwg_of t_6 rfl) (lwg_of t_867 rfl)) rfl rfl rfl (by decide +kernel) ⟨Nat.le_of_ble_eq_true rfl, Nat.le_of_ble_eq_true rfl⟩) (hI.preV h16 rfl) rfl rfl hl.1 rfl (lv_room (Nat.le_of_ble_eq_true rfl)) dX9_look_76 ⟨Nat.le_of_ble_eq_true rfl, Nat.le_of_ble_eq_true rfl⟩) (fun _ h => h) (fun r_9 hp_10 => ?_)
  rw [hp_10]
  exact e_Ni hx hb hr rfl hlocks hI ⟨rfl, (fun j  => rfl)⟩ dX9_look_79

/-- X9_ended -/
abbrev rm_c_X9_ended_0 : Room := { frames := 4, cells := 0, slots := 0, locals := 85 }
set_option maxHeartbeats 4000000 in
set_option maxRecDepth 100000 in
theorem c_X9_ended_0 (l : Launch) (G : GG) (z : Nat) (ad : Nat → Nat) (M : Mem) {n : Nat} {kd : Nat → Nat} {fm : Nat → Int32} {to : Nat → Int32} {sz : Nat → Nat} {rl : Nat → Nat → Nat} {en : Nat → Nat → Nat} {qa : Nat} {qs : Nat} {fw : Int32} {q : Nat} {i : Nat} (hL : LSm G ad M n kd fm to sz rl en) (h0 : M 0 = some (cStore ad qa qs fw)) (hw : LSw n kd sz rl en) (hq : q < n) (hi : i < sz q) : Met l yX9_ended wsX9_ended rm_c_X9_ended_0 (Pr G z ad M [.ref (ad 0), .int (nI q), .int (nI i), .int (nI 0)]) (Ni G z ad (fun (r : Int32) (M' : Mem) => r = nI (rl q i) ∧ (∀ j : Nat,  M' j = M j))) 0 0 (fr z) := by
  refine Met.ofW (cc := cX9_ended) (maxL := 5) (ret := (some .int)) (by decide) rfl ?_
  intro p e s m args below meth c s₁ B hml hv
  obtain ⟨rfl, hv⟩ := hv
  have hI := Iv.entry hv
  have hx := B.exec
  have hb := B.bytes
  have hr := B.returns
  have hts := atoms_spec (ws := wsX9_ended) B.pre
  have hown : s.vm.findClass RX9 = some m.cls := findClass_of_methodNamed B.named
  have hlocks := B.notSynchronized
  have i_RX9 : ∀ w ∈ u_ws RX9 TX9 10, w ∈ wsX9_ended := fun w h => List.mem_cons_of_mem _ (iu_X9 w h)
  have f_40 := hts _ (List.mem_cons_of_mem _ (lwg_of t_243 rfl))
  have i_RX2 : ∀ w ∈ u_ws RX2 TX2 4, w ∈ wsX9_ended := fun w h => List.mem_cons_of_mem _ (iu_X2 w h)
  have hl := lv_entry ([.ref (ad 0), .int (nI q), .int (nI i), .int (nI 0)]) (n := 5) (Nat.le_of_ble_eq_true rfl)
  rw [lg_entry_eq]
  generalize (lg_sl ([.ref (ad 0), .int (nI q), .int (nI i), .int (nI 0)]) ++ List.replicate (5 - (lg_sl ([.ref (ad 0), .int (nI q), .int (nI i), .int (nI 0)])).length) Slot.unset).toArray = ls at hl ⊢
  have hl : lv_has ls 5 [(0, .ref (ad 0)), (1, .int (nI q)), (2, .int (nI i)), (3, .int (nI 0))] := hl
  have h16 := hL.1
  obtain ⟨mcn, ed, h17, hed⟩ := id hL.2.1
  have hw1 := hw.1
  obtain ⟨hk6, hs6, hje⟩ := hw.2 q hq
  refine lv_aload_n hx hb dX9_ended_0 rfl (lv_at hl 0 rfl) ?_
  refine lv_iload_n hx hb dX9_ended_1 rfl (lv_at hl 1 rfl) ?_
  refine k_Nv (va_runV (As := [.int (nI q)]) (rest := []) ⟨hx, hb, hml, hown, hts⟩ (c_X9_checkLine l G z ad M (n := n) (kd := kd) (fm := fm) (to := to) (sz := sz) (rl := rl) (en := en) (qa := qa) (qs := qs) (fw := fw) (t := q) hL h0 hq hw1) (cwV 1 hts (gV (lwg_of t_603 rfl) (lwg_of t_605 rfl) (lwg_of ts_7 rfl) (lwg_of t_1 rfl) (lwg_of t_606 rfl)) rfl rfl rfl (by decide +kernel) ⟨Nat.le_of_ble_eq_true rfl, Nat.le_of_ble_eq_true rfl⟩) (hI.preV h0 rfl) rfl rfl hl.1 rfl (lv_room (Nat.le_of_ble_eq_true rfl)) dX9_ended_2 ⟨Nat.le_of_ble_eq_true rfl, Nat.le_of_ble_eq_true rfl⟩) hI (fun M_3 H_4 locs_5 hp_2 hI => ?_)
  have eM_6 : M = M_3 := (funext hp_2).symm
  subst eM_6
  refine lv_aload_n hx hb dX9_ended_5 rfl (lv_at hl 0 rfl) ?_
  refine h_get (C := RX9) (T := TX9) (N := 10) hx hb hts i_RX9 hown hI h0 rfl 4 (by decide) f_40 rfl rfl dX9_ended_6 ?_
  refine lv_iload_n hx hb dX9_ended_9 rfl (lv_at hl 1 rfl) ?_
  refine k_Rq (va_runV (As := [.int (nI q)]) (rest := []) ⟨hx, hb, hml, hown, hts⟩ (c_X3_get l G z ad M (n := n) (kd := kd) (fm := fm) (to := to) (sz := sz) (rl := rl) (en := en) (i := q) hL hq hw1) (cwV 1 hts (gV (lwg_of t_863 rfl) (lwg_of t_333 rfl) (lwg_of t_334 rfl) (lwg_of t_6 rfl) (lwg_of t_335 rfl)) rfl rfl rfl (by decide +kernel) ⟨Nat.le_of_ble_eq_true rfl, Nat.le_of_ble_eq_true rfl⟩) (hI.preV h16 rfl) rfl rfl hl.1 rfl (lv_room (Nat.le_of_ble_eq_true rfl)) dX9_ended_10 ⟨Nat.le_of_ble_eq_true rfl, Nat.le_of_ble_eq_true rfl⟩) (fun _ h => h) (fun r_7 hp_8 => ?_)
  rw [hp_8]; show W _ _ _ _ _ _ _ _ _ _ _ _ _ _ _ (F0 m 13 ls (.ref (ad (100 + 5 * q)) :: []))
  refine h_getN (C := RX2) (T := TX2) (N := 4) hx hb hts i_RX2 hown hI (hL.2.2 q (by omega)).1 rfl 3 (by decide) (nwf_at (i := 3) (q := ("LineStore", 183, "LineStore$Line", "ends", "LLineStore$Ends;", "LineStore")) hI rfl) rfl rfl dX9_ended_13 ?_
  refine lv_astore (lv' := [(4, .ref (ad (100 + 5 * q + 1))), (0, .ref (ad 0)), (1, .int (nI q)), (2, .int (nI i)), (3, .int (nI 0))]) hx hb dX9_ended_16 hl (by decide) rfl (fun ls hl => ?_)
  refine lv_iload_n hx hb dX9_ended_18 rfl (lv_at hl 3 rfl) ?_
  refine lv_if_lt (tgt := 31) hx hb dX9_ended_19 (by decide) (fun c_9 => ?_) (fun c_9 => ?_)
  · -- 19: nI i lt
    have c_9 : i < 0 := (nI_ltI (a := i) (b := 0) (by omega) (by omega)).mp (c_9)
    omega
  · -- 19: nI i ge
    have c_9 : 0 ≤ i := by have h := mt (nI_ltI (a := i) (b := 0) (by omega) (by omega)).mpr c_9; omega
    refine lv_iload_n hx hb dX9_ended_22 rfl (lv_at hl 3 rfl) ?_
    refine lv_aload hx hb dX9_ended_23 (lv_at hl 0 rfl) ?_
    refine k_Ri (va_runV (As := []) (rest := [.int (nI i)]) ⟨hx, hb, hml, hown, hts⟩ (c_X0_size l G z ad M (k := 100 + 5 * q + 1) (sz := sz q) (hL.2.2 q (by omega)).2.1) (cwV 0 hts (gV (lwg_of t_450 rfl) (lwg_of t_451 rfl) (lwg_of t_452 rfl) (lwg_of t_5 rfl) (lwg_of t_453 rfl)) rfl rfl rfl (by decide +kernel) ⟨Nat.le_of_ble_eq_true rfl, Nat.le_of_ble_eq_true rfl⟩) (hI.preV (hL.2.2 q (by omega)).2.1 rfl) rfl rfl hl.1 rfl (lv_room (Nat.le_of_ble_eq_true rfl)) dX9_ended_25 ⟨Nat.le_of_ble_eq_true rfl, Nat.le_of_ble_eq_true rfl⟩) (fun _ h => h) (fun r_10 hp_11 => ?_)
    rw [hp_11]
    refine lv_icmp_lt (tgt := 41) hx hb dX9_ended_28 (by decide) (fun c_12 => ?_) (fun c_12 => ?_)
    · -- 28: nI i lt
      have c_12 : i < (sz q) := (nI_ltI (a := i) (b := (sz q)) (by omega) (by omega)).mp (c_12)
      refine lv_iload_n hx hb dX9_ended_41 rfl (lv_at hl 4 rfl) ?_
      refine lv_tableIn (off := 26) (tgt := 68) hx hb dX9_ended_42 (by decide) (by decide) (by decide) (by decide) ?_
      refine lv_aload hx hb dX9_ended_68 (lv_at hl 0 rfl) ?_
      refine lv_iload_n hx hb dX9_ended_70 rfl (lv_at hl 3 rfl) ?_
      refine k_Ri (va_runV (As := [.int (nI i)]) (rest := []) ⟨hx, hb, hml, hown, hts⟩ (c_X0_role l G z ad M (k := 100 + 5 * q + 1) (sz := sz q) (rl := (rl q)) (i := i) (hL.2.2 q (by omega)).2.1 (hL.2.2 q (by omega)).2.2.1 (by omega)) (cwV 1 hts (gV (lwg_of t_896 rfl) (lwg_of t_716 rfl) (lwg_of t_717 rfl) (lwg_of t_5 rfl) (lwg_of t_718 rfl)) rfl rfl rfl (by decide +kernel) ⟨Nat.le_of_ble_eq_true rfl, Nat.le_of_ble_eq_true rfl⟩) (hI.preV (hL.2.2 q (by omega)).2.1 rfl) rfl rfl hl.1 rfl (lv_room (Nat.le_of_ble_eq_true rfl)) dX9_ended_71 ⟨Nat.le_of_ble_eq_true rfl, Nat.le_of_ble_eq_true rfl⟩) (fun _ h => h) (fun r_13 hp_14 => ?_)
      rw [hp_14]
      exact e_Ni hx hb hr rfl hlocks hI ⟨rfl, (fun j  => rfl)⟩ dX9_ended_74
    · -- 28: nI i ge
      have c_12 : (sz q) ≤ i := by have h := mt (nI_ltI (a := i) (b := (sz q)) (by omega) (by omega)).mpr c_12; omega
      omega

/-- X9_ended -/
abbrev rm_c_X9_ended_1 : Room := { frames := 4, cells := 0, slots := 0, locals := 85 }
set_option maxHeartbeats 4000000 in
set_option maxRecDepth 100000 in
theorem c_X9_ended_1 (l : Launch) (G : GG) (z : Nat) (ad : Nat → Nat) (M : Mem) {n : Nat} {kd : Nat → Nat} {fm : Nat → Int32} {to : Nat → Int32} {sz : Nat → Nat} {rl : Nat → Nat → Nat} {en : Nat → Nat → Nat} {qa : Nat} {qs : Nat} {fw : Int32} {q : Nat} {i : Nat} (hL : LSm G ad M n kd fm to sz rl en) (h0 : M 0 = some (cStore ad qa qs fw)) (hw : LSw n kd sz rl en) (hq : q < n) (hi : i < sz q) : Met l yX9_ended wsX9_ended rm_c_X9_ended_1 (Pr G z ad M [.ref (ad 0), .int (nI q), .int (nI i), .int (nI 1)]) (Ni G z ad (fun (r : Int32) (M' : Mem) => r = oI (thE (en q) i) ∧ (∀ j : Nat,  M' j = M j))) 0 0 (fr z) := by
  refine Met.ofW (cc := cX9_ended) (maxL := 5) (ret := (some .int)) (by decide) rfl ?_
  intro p e s m args below meth c s₁ B hml hv
  obtain ⟨rfl, hv⟩ := hv
  have hI := Iv.entry hv
  have hx := B.exec
  have hb := B.bytes
  have hr := B.returns
  have hts := atoms_spec (ws := wsX9_ended) B.pre
  have hown : s.vm.findClass RX9 = some m.cls := findClass_of_methodNamed B.named
  have hlocks := B.notSynchronized
  have i_RX9 : ∀ w ∈ u_ws RX9 TX9 10, w ∈ wsX9_ended := fun w h => List.mem_cons_of_mem _ (iu_X9 w h)
  have f_40 := hts _ (List.mem_cons_of_mem _ (lwg_of t_243 rfl))
  have i_RX2 : ∀ w ∈ u_ws RX2 TX2 4, w ∈ wsX9_ended := fun w h => List.mem_cons_of_mem _ (iu_X2 w h)
  have hl := lv_entry ([.ref (ad 0), .int (nI q), .int (nI i), .int (nI 1)]) (n := 5) (Nat.le_of_ble_eq_true rfl)
  rw [lg_entry_eq]
  generalize (lg_sl ([.ref (ad 0), .int (nI q), .int (nI i), .int (nI 1)]) ++ List.replicate (5 - (lg_sl ([.ref (ad 0), .int (nI q), .int (nI i), .int (nI 1)])).length) Slot.unset).toArray = ls at hl ⊢
  have hl : lv_has ls 5 [(0, .ref (ad 0)), (1, .int (nI q)), (2, .int (nI i)), (3, .int (nI 1))] := hl
  have h16 := hL.1
  obtain ⟨mcn, ed, h17, hed⟩ := id hL.2.1
  have hw1 := hw.1
  obtain ⟨hk6, hs6, hje⟩ := hw.2 q hq
  refine lv_aload_n hx hb dX9_ended_0 rfl (lv_at hl 0 rfl) ?_
  refine lv_iload_n hx hb dX9_ended_1 rfl (lv_at hl 1 rfl) ?_
  refine k_Nv (va_runV (As := [.int (nI q)]) (rest := []) ⟨hx, hb, hml, hown, hts⟩ (c_X9_checkLine l G z ad M (n := n) (kd := kd) (fm := fm) (to := to) (sz := sz) (rl := rl) (en := en) (qa := qa) (qs := qs) (fw := fw) (t := q) hL h0 hq hw1) (cwV 1 hts (gV (lwg_of t_603 rfl) (lwg_of t_605 rfl) (lwg_of ts_7 rfl) (lwg_of t_1 rfl) (lwg_of t_606 rfl)) rfl rfl rfl (by decide +kernel) ⟨Nat.le_of_ble_eq_true rfl, Nat.le_of_ble_eq_true rfl⟩) (hI.preV h0 rfl) rfl rfl hl.1 rfl (lv_room (Nat.le_of_ble_eq_true rfl)) dX9_ended_2 ⟨Nat.le_of_ble_eq_true rfl, Nat.le_of_ble_eq_true rfl⟩) hI (fun M_3 H_4 locs_5 hp_2 hI => ?_)
  have eM_6 : M = M_3 := (funext hp_2).symm
  subst eM_6
  refine lv_aload_n hx hb dX9_ended_5 rfl (lv_at hl 0 rfl) ?_
  refine h_get (C := RX9) (T := TX9) (N := 10) hx hb hts i_RX9 hown hI h0 rfl 4 (by decide) f_40 rfl rfl dX9_ended_6 ?_
  refine lv_iload_n hx hb dX9_ended_9 rfl (lv_at hl 1 rfl) ?_
  refine k_Rq (va_runV (As := [.int (nI q)]) (rest := []) ⟨hx, hb, hml, hown, hts⟩ (c_X3_get l G z ad M (n := n) (kd := kd) (fm := fm) (to := to) (sz := sz) (rl := rl) (en := en) (i := q) hL hq hw1) (cwV 1 hts (gV (lwg_of t_863 rfl) (lwg_of t_333 rfl) (lwg_of t_334 rfl) (lwg_of t_6 rfl) (lwg_of t_335 rfl)) rfl rfl rfl (by decide +kernel) ⟨Nat.le_of_ble_eq_true rfl, Nat.le_of_ble_eq_true rfl⟩) (hI.preV h16 rfl) rfl rfl hl.1 rfl (lv_room (Nat.le_of_ble_eq_true rfl)) dX9_ended_10 ⟨Nat.le_of_ble_eq_true rfl, Nat.le_of_ble_eq_true rfl⟩) (fun _ h => h) (fun r_7 hp_8 => ?_)
  rw [hp_8]; show W _ _ _ _ _ _ _ _ _ _ _ _ _ _ _ (F0 m 13 ls (.ref (ad (100 + 5 * q)) :: []))
  refine h_getN (C := RX2) (T := TX2) (N := 4) hx hb hts i_RX2 hown hI (hL.2.2 q (by omega)).1 rfl 3 (by decide) (nwf_at (i := 3) (q := ("LineStore", 183, "LineStore$Line", "ends", "LLineStore$Ends;", "LineStore")) hI rfl) rfl rfl dX9_ended_13 ?_
  refine lv_astore (lv' := [(4, .ref (ad (100 + 5 * q + 1))), (0, .ref (ad 0)), (1, .int (nI q)), (2, .int (nI i)), (3, .int (nI 1))]) hx hb dX9_ended_16 hl (by decide) rfl (fun ls hl => ?_)
  refine lv_iload_n hx hb dX9_ended_18 rfl (lv_at hl 3 rfl) ?_
  refine lv_if_lt (tgt := 31) hx hb dX9_ended_19 (by decide) (fun c_9 => ?_) (fun c_9 => ?_)
  · -- 19: nI i lt
    have c_9 : i < 0 := (nI_ltI (a := i) (b := 0) (by omega) (by omega)).mp (c_9)
    omega
  · -- 19: nI i ge
    have c_9 : 0 ≤ i := by have h := mt (nI_ltI (a := i) (b := 0) (by omega) (by omega)).mpr c_9; omega
    refine lv_iload_n hx hb dX9_ended_22 rfl (lv_at hl 3 rfl) ?_
    refine lv_aload hx hb dX9_ended_23 (lv_at hl 0 rfl) ?_
    refine k_Ri (va_runV (As := []) (rest := [.int (nI i)]) ⟨hx, hb, hml, hown, hts⟩ (c_X0_size l G z ad M (k := 100 + 5 * q + 1) (sz := sz q) (hL.2.2 q (by omega)).2.1) (cwV 0 hts (gV (lwg_of t_450 rfl) (lwg_of t_451 rfl) (lwg_of t_452 rfl) (lwg_of t_5 rfl) (lwg_of t_453 rfl)) rfl rfl rfl (by decide +kernel) ⟨Nat.le_of_ble_eq_true rfl, Nat.le_of_ble_eq_true rfl⟩) (hI.preV (hL.2.2 q (by omega)).2.1 rfl) rfl rfl hl.1 rfl (lv_room (Nat.le_of_ble_eq_true rfl)) dX9_ended_25 ⟨Nat.le_of_ble_eq_true rfl, Nat.le_of_ble_eq_true rfl⟩) (fun _ h => h) (fun r_10 hp_11 => ?_)
    rw [hp_11]
    refine lv_icmp_lt (tgt := 41) hx hb dX9_ended_28 (by decide) (fun c_12 => ?_) (fun c_12 => ?_)
    · -- 28: nI i lt
      have c_12 : i < (sz q) := (nI_ltI (a := i) (b := (sz q)) (by omega) (by omega)).mp (c_12)
      refine lv_iload_n hx hb dX9_ended_41 rfl (lv_at hl 4 rfl) ?_
      refine lv_tableIn (off := 33) (tgt := 75) hx hb dX9_ended_42 (by decide) (by decide) (by decide) (by decide) ?_
      refine lv_aload hx hb dX9_ended_75 (lv_at hl 0 rfl) ?_
      refine lv_iload_n hx hb dX9_ended_77 rfl (lv_at hl 3 rfl) ?_
      refine k_Ri (va_runV (As := [.int (nI i)]) (rest := []) ⟨hx, hb, hml, hown, hts⟩ (c_X0_thing l G z ad M (k := 100 + 5 * q + 1) (sz := sz q) (th := (thE (en q))) (i := i) (hL.2.2 q (by omega)).2.1 (hL.2.2 q (by omega)).2.2.2.1 (by omega)) (cwV 1 hts (gV (lwg_of t_897 rfl) (lwg_of t_720 rfl) (lwg_of t_721 rfl) (lwg_of t_5 rfl) (lwg_of t_722 rfl)) rfl rfl rfl (by decide +kernel) ⟨Nat.le_of_ble_eq_true rfl, Nat.le_of_ble_eq_true rfl⟩) (hI.preV (hL.2.2 q (by omega)).2.1 rfl) rfl rfl hl.1 rfl (lv_room (Nat.le_of_ble_eq_true rfl)) dX9_ended_78 ⟨Nat.le_of_ble_eq_true rfl, Nat.le_of_ble_eq_true rfl⟩) (fun _ h => h) (fun r_13 hp_14 => ?_)
      rw [hp_14]
      exact e_Ni hx hb hr rfl hlocks hI ⟨rfl, (fun j  => rfl)⟩ dX9_ended_81
    · -- 28: nI i ge
      have c_12 : (sz q) ≤ i := by have h := mt (nI_ltI (a := i) (b := (sz q)) (by omega) (by omega)).mpr c_12; omega
      omega

/-- X9_ended -/
abbrev rm_c_X9_ended_2 : Room := { frames := 4, cells := 0, slots := 0, locals := 85 }
set_option maxHeartbeats 4000000 in
set_option maxRecDepth 100000 in
theorem c_X9_ended_2 (l : Launch) (G : GG) (z : Nat) (ad : Nat → Nat) (M : Mem) {n : Nat} {kd : Nat → Nat} {fm : Nat → Int32} {to : Nat → Int32} {sz : Nat → Nat} {rl : Nat → Nat → Nat} {en : Nat → Nat → Nat} {qa : Nat} {qs : Nat} {fw : Int32} {q : Nat} {i : Nat} (hL : LSm G ad M n kd fm to sz rl en) (h0 : M 0 = some (cStore ad qa qs fw)) (hw : LSw n kd sz rl en) (hq : q < n) (hi : i < sz q) : Met l yX9_ended wsX9_ended rm_c_X9_ended_2 (Pr G z ad M [.ref (ad 0), .int (nI q), .int (nI i), .int (nI 2)]) (Ni G z ad (fun (r : Int32) (M' : Mem) => r = oI (olE (en q) i) ∧ (∀ j : Nat,  M' j = M j))) 0 0 (fr z) := by
  refine Met.ofW (cc := cX9_ended) (maxL := 5) (ret := (some .int)) (by decide) rfl ?_
  intro p e s m args below meth c s₁ B hml hv
  obtain ⟨rfl, hv⟩ := hv
  have hI := Iv.entry hv
  have hx := B.exec
  have hb := B.bytes
  have hr := B.returns
  have hts := atoms_spec (ws := wsX9_ended) B.pre
  have hown : s.vm.findClass RX9 = some m.cls := findClass_of_methodNamed B.named
  have hlocks := B.notSynchronized
  have i_RX9 : ∀ w ∈ u_ws RX9 TX9 10, w ∈ wsX9_ended := fun w h => List.mem_cons_of_mem _ (iu_X9 w h)
  have f_40 := hts _ (List.mem_cons_of_mem _ (lwg_of t_243 rfl))
  have i_RX2 : ∀ w ∈ u_ws RX2 TX2 4, w ∈ wsX9_ended := fun w h => List.mem_cons_of_mem _ (iu_X2 w h)
  have hl := lv_entry ([.ref (ad 0), .int (nI q), .int (nI i), .int (nI 2)]) (n := 5) (Nat.le_of_ble_eq_true rfl)
  rw [lg_entry_eq]
  generalize (lg_sl ([.ref (ad 0), .int (nI q), .int (nI i), .int (nI 2)]) ++ List.replicate (5 - (lg_sl ([.ref (ad 0), .int (nI q), .int (nI i), .int (nI 2)])).length) Slot.unset).toArray = ls at hl ⊢
  have hl : lv_has ls 5 [(0, .ref (ad 0)), (1, .int (nI q)), (2, .int (nI i)), (3, .int (nI 2))] := hl
  have h16 := hL.1
  obtain ⟨mcn, ed, h17, hed⟩ := id hL.2.1
  have hw1 := hw.1
  obtain ⟨hk6, hs6, hje⟩ := hw.2 q hq
  refine lv_aload_n hx hb dX9_ended_0 rfl (lv_at hl 0 rfl) ?_
  refine lv_iload_n hx hb dX9_ended_1 rfl (lv_at hl 1 rfl) ?_
  refine k_Nv (va_runV (As := [.int (nI q)]) (rest := []) ⟨hx, hb, hml, hown, hts⟩ (c_X9_checkLine l G z ad M (n := n) (kd := kd) (fm := fm) (to := to) (sz := sz) (rl := rl) (en := en) (qa := qa) (qs := qs) (fw := fw) (t := q) hL h0 hq hw1) (cwV 1 hts (gV (lwg_of t_603 rfl) (lwg_of t_605 rfl) (lwg_of ts_7 rfl) (lwg_of t_1 rfl) (lwg_of t_606 rfl)) rfl rfl rfl (by decide +kernel) ⟨Nat.le_of_ble_eq_true rfl, Nat.le_of_ble_eq_true rfl⟩) (hI.preV h0 rfl) rfl rfl hl.1 rfl (lv_room (Nat.le_of_ble_eq_true rfl)) dX9_ended_2 ⟨Nat.le_of_ble_eq_true rfl, Nat.le_of_ble_eq_true rfl⟩) hI (fun M_3 H_4 locs_5 hp_2 hI => ?_)
  have eM_6 : M = M_3 := (funext hp_2).symm
  subst eM_6
  refine lv_aload_n hx hb dX9_ended_5 rfl (lv_at hl 0 rfl) ?_
  refine h_get (C := RX9) (T := TX9) (N := 10) hx hb hts i_RX9 hown hI h0 rfl 4 (by decide) f_40 rfl rfl dX9_ended_6 ?_
  refine lv_iload_n hx hb dX9_ended_9 rfl (lv_at hl 1 rfl) ?_
  refine k_Rq (va_runV (As := [.int (nI q)]) (rest := []) ⟨hx, hb, hml, hown, hts⟩ (c_X3_get l G z ad M (n := n) (kd := kd) (fm := fm) (to := to) (sz := sz) (rl := rl) (en := en) (i := q) hL hq hw1) (cwV 1 hts (gV (lwg_of t_863 rfl) (lwg_of t_333 rfl) (lwg_of t_334 rfl) (lwg_of t_6 rfl) (lwg_of t_335 rfl)) rfl rfl rfl (by decide +kernel) ⟨Nat.le_of_ble_eq_true rfl, Nat.le_of_ble_eq_true rfl⟩) (hI.preV h16 rfl) rfl rfl hl.1 rfl (lv_room (Nat.le_of_ble_eq_true rfl)) dX9_ended_10 ⟨Nat.le_of_ble_eq_true rfl, Nat.le_of_ble_eq_true rfl⟩) (fun _ h => h) (fun r_7 hp_8 => ?_)
  rw [hp_8]; show W _ _ _ _ _ _ _ _ _ _ _ _ _ _ _ (F0 m 13 ls (.ref (ad (100 + 5 * q)) :: []))
  refine h_getN (C := RX2) (T := TX2) (N := 4) hx hb hts i_RX2 hown hI (hL.2.2 q (by omega)).1 rfl 3 (by decide) (nwf_at (i := 3) (q := ("LineStore", 183, "LineStore$Line", "ends", "LLineStore$Ends;", "LineStore")) hI rfl) rfl rfl dX9_ended_13 ?_
  refine lv_astore (lv' := [(4, .ref (ad (100 + 5 * q + 1))), (0, .ref (ad 0)), (1, .int (nI q)), (2, .int (nI i)), (3, .int (nI 2))]) hx hb dX9_ended_16 hl (by decide) rfl (fun ls hl => ?_)
  refine lv_iload_n hx hb dX9_ended_18 rfl (lv_at hl 3 rfl) ?_
  refine lv_if_lt (tgt := 31) hx hb dX9_ended_19 (by decide) (fun c_9 => ?_) (fun c_9 => ?_)
  · -- 19: nI i lt
    have c_9 : i < 0 := (nI_ltI (a := i) (b := 0) (by omega) (by omega)).mp (c_9)
    omega
  · -- 19: nI i ge
    have c_9 : 0 ≤ i := by have h := mt (nI_ltI (a := i) (b := 0) (by omega) (by omega)).mpr c_9; omega
    refine lv_iload_n hx hb dX9_ended_22 rfl (lv_at hl 3 rfl) ?_
    refine lv_aload hx hb dX9_ended_23 (lv_at hl 0 rfl) ?_
    refine k_Ri (va_runV (As := []) (rest := [.int (nI i)]) ⟨hx, hb, hml, hown, hts⟩ (c_X0_size l G z ad M (k := 100 + 5 * q + 1) (sz := sz q) (hL.2.2 q (by omega)).2.1) (cwV 0 hts (gV (lwg_of t_450 rfl) (lwg_of t_451 rfl) (lwg_of t_452 rfl) (lwg_of t_5 rfl) (lwg_of t_453 rfl)) rfl rfl rfl (by decide +kernel) ⟨Nat.le_of_ble_eq_true rfl, Nat.le_of_ble_eq_true rfl⟩) (hI.preV (hL.2.2 q (by omega)).2.1 rfl) rfl rfl hl.1 rfl (lv_room (Nat.le_of_ble_eq_true rfl)) dX9_ended_25 ⟨Nat.le_of_ble_eq_true rfl, Nat.le_of_ble_eq_true rfl⟩) (fun _ h => h) (fun r_10 hp_11 => ?_)
    rw [hp_11]
    refine lv_icmp_lt (tgt := 41) hx hb dX9_ended_28 (by decide) (fun c_12 => ?_) (fun c_12 => ?_)
    · -- 28: nI i lt
      have c_12 : i < (sz q) := (nI_ltI (a := i) (b := (sz q)) (by omega) (by omega)).mp (c_12)
      refine lv_iload_n hx hb dX9_ended_41 rfl (lv_at hl 4 rfl) ?_
      refine lv_tableIn (off := 40) (tgt := 82) hx hb dX9_ended_42 (by decide) (by decide) (by decide) (by decide) ?_
      refine lv_aload hx hb dX9_ended_82 (lv_at hl 0 rfl) ?_
      refine lv_iload_n hx hb dX9_ended_84 rfl (lv_at hl 3 rfl) ?_
      refine k_Ri (va_runV (As := [.int (nI i)]) (rest := []) ⟨hx, hb, hml, hown, hts⟩ (c_X0_line l G z ad M (k := 100 + 5 * q + 1) (sz := sz q) (ol := (olE (en q))) (i := i) (hL.2.2 q (by omega)).2.1 (hL.2.2 q (by omega)).2.2.2.2 (by omega)) (cwV 1 hts (gV (lwg_of t_898 rfl) (lwg_of t_704 rfl) (lwg_of t_705 rfl) (lwg_of t_5 rfl) (lwg_of t_706 rfl)) rfl rfl rfl (by decide +kernel) ⟨Nat.le_of_ble_eq_true rfl, Nat.le_of_ble_eq_true rfl⟩) (hI.preV (hL.2.2 q (by omega)).2.1 rfl) rfl rfl hl.1 rfl (lv_room (Nat.le_of_ble_eq_true rfl)) dX9_ended_85 ⟨Nat.le_of_ble_eq_true rfl, Nat.le_of_ble_eq_true rfl⟩) (fun _ h => h) (fun r_13 hp_14 => ?_)
      rw [hp_14]
      exact e_Ni hx hb hr rfl hlocks hI ⟨rfl, (fun j  => rfl)⟩ dX9_ended_88
    · -- 28: nI i ge
      have c_12 : (sz q) ≤ i := by have h := mt (nI_ltI (a := i) (b := (sz q)) (by omega) (by omega)).mpr c_12; omega
      omega

/-- X9_fault -/
abbrev rm_c_X9_fault : Room := { frames := 0, cells := 0, slots := 0, locals := 0 }
set_option maxHeartbeats 4000000 in
set_option maxRecDepth 100000 in
theorem c_X9_fault (l : Launch) (G : GG) (z : Nat) (ad : Nat → Nat) (M : Mem) {qa : Nat} {qs : Nat} {fw : Int32} (h0 : M 0 = some (cStore ad qa qs fw))  : Met l yX9_fault wsX9_fault rm_c_X9_fault (Pr G z ad M [.ref (ad 0)]) (vp_Si (fun r : Int32 => r = fw)) 0 0 (fun _ => False) := by
  refine Met.ofW (cc := cX9_fault) (maxL := 1) (ret := (some .int)) (by decide) rfl ?_
  intro p e s m args below meth c s₁ B hml hv
  obtain ⟨rfl, hv⟩ := hv
  have hI := Iv.entry hv
  have hx := B.exec
  have hb := B.bytes
  have hr := B.returns
  have hts := atoms_spec (ws := wsX9_fault) B.pre
  have hown : s.vm.findClass RX9 = some m.cls := findClass_of_methodNamed B.named
  have hlocks := B.notSynchronized
  have i_RX9 : ∀ w ∈ u_ws RX9 TX9 10, w ∈ wsX9_fault := fun w h => List.mem_cons_of_mem _ (iu_X9 w h)
  have f_68 := hts _ (List.mem_cons_of_mem _ (lwg_of t_248 rfl))
  have hl := lv_entry ([.ref (ad 0)]) (n := 1) (Nat.le_of_ble_eq_true rfl)
  rw [lg_entry_eq]
  generalize (lg_sl ([.ref (ad 0)]) ++ List.replicate (1 - (lg_sl ([.ref (ad 0)])).length) Slot.unset).toArray = ls at hl ⊢
  have hl : lv_has ls 1 [(0, .ref (ad 0))] := hl
  refine lv_aload_n hx hb dX9_fault_0 rfl (lv_at hl 0 rfl) ?_
  refine h_get (C := RX9) (T := TX9) (N := 10) hx hb hts i_RX9 hown hI h0 rfl 9 (by decide) f_68 rfl rfl dX9_fault_1 ?_
  exact e_Ri hx hb hr rfl hlocks (rfl) dX9_fault_4

/-- X9_ways -/
abbrev rm_c_X9_ways : Room := { frames := 5, cells := 0, slots := 0, locals := 125 }
set_option maxHeartbeats 4000000 in
set_option maxRecDepth 100000 in
theorem c_X9_ways (l : Launch) (G : GG) (z : Nat) (ad : Nat → Nat) (M : Mem) {n : Nat} {kd : Nat → Nat} {fm : Nat → Int32} {to : Nat → Int32} {sz : Nat → Nat} {rl : Nat → Nat → Nat} {en : Nat → Nat → Nat} {qa : Nat} {qs : Nat} {fw : Int32} {jn : Nat} {lst : Nat → Nat} {a : Nat} {b : Nat} {ks : Int32} {d : Int32} (hL : LSm G ad M n kd fm to sz rl en) (h0 : M 0 = some (cStore ad qa qs fw)) (h8 : M 8 = some (cOnes ad jn)) (h10 : M 10 = some (aI G 40 (nF lst))) (hw : LSw n kd sz rl en) (hlst : ∀ u, u < 40 → lst u < 40) (ha : a < 40) (hb4 : b < 40) : Met l yX9_ways wsX9_ways rm_c_X9_ways (Pr G z ad M [.ref (ad 0), .int (nI a), .int (nI b), .int ks, .int d]) (Ni G z ad (fun (r : Int32) (M' : Mem) => (∀ j : Nat,  M' j = M j) ∧ ∃ o : Option Nat, r = oI o ∧ (∀ i, o = some i → i < 40 ∧ Rch n kd fm to sz en lst ks d (lst a) i (lst b) ∧ ∀ j, j < i → ¬ Rch n kd fm to sz en lst ks d (lst a) j (lst b)) ∧ (o = none → ∀ j, ¬ Rch n kd fm to sz en lst ks d (lst a) j (lst b)))) 0 0 (fr z) := by
  refine Met.ofW (cc := cX9_ways) (maxL := 5) (ret := (some .int)) (by decide) rfl ?_
  intro p e s m args below meth c s₁ B hml hv
  obtain ⟨rfl, hv⟩ := hv
  have hI := Iv.entry hv
  have hx := B.exec
  have hb := B.bytes
  have hr := B.returns
  have hts := atoms_spec (ws := wsX9_ways) B.pre
  have hown : s.vm.findClass RX9 = some m.cls := findClass_of_methodNamed B.named
  have hlocks := B.notSynchronized
  have i_RX9 : ∀ w ∈ u_ws RX9 TX9 10, w ∈ wsX9_ways := fun w h => List.mem_cons_of_mem _ (iu_X9 w h)
  have f_40 := hts _ (List.mem_cons_of_mem _ (lwg_of t_243 rfl))
  have f_26 := hts _ (List.mem_cons_of_mem _ (lwg_of t_241 rfl))
  have hl := lv_entry ([.ref (ad 0), .int (nI a), .int (nI b), .int ks, .int d]) (n := 5) (Nat.le_of_ble_eq_true rfl)
  rw [lg_entry_eq]
  generalize (lg_sl ([.ref (ad 0), .int (nI a), .int (nI b), .int ks, .int d]) ++ List.replicate (5 - (lg_sl ([.ref (ad 0), .int (nI a), .int (nI b), .int ks, .int d])).length) Slot.unset).toArray = ls at hl ⊢
  have hl : lv_has ls 5 [(0, .ref (ad 0)), (1, .int (nI a)), (2, .int (nI b)), (3, .int ks), (4, .int d)] := hl
  have h16 := hL.1
  obtain ⟨mcn, ed, h17, hed⟩ := id hL.2.1
  have hla := hlst a ha
  have hlb := hlst b hb4
  refine lv_iload_n hx hb dX9_ways_0 rfl (lv_at hl 1 rfl) ?_
  refine k_Nv (va_runS (As := [.int (nI a)]) (rest := []) ⟨hx, hb, hml, hown, hts⟩ (c_X9_checkThing l G z ad M (t := a) (by omega)) (va_cwS 1 hts (gS (lwg_of t_608 rfl) (lwg_of t_609 rfl) (lwg_of t_1 rfl) (lwg_of t_610 rfl)) rfl rfl rfl (by decide +kernel) ⟨Nat.le_of_ble_eq_true rfl, Nat.le_of_ble_eq_true rfl⟩) hI.preS rfl rfl hl.1 rfl (lv_room (Nat.le_of_ble_eq_true rfl)) dX9_ways_1 ⟨Nat.le_of_ble_eq_true rfl, Nat.le_of_ble_eq_true rfl⟩) hI (fun M_3 H_4 locs_5 hp_2 hI => ?_)
  have eM_6 : M = M_3 := (funext hp_2).symm
  subst eM_6
  refine lv_iload_n hx hb dX9_ways_4 rfl (lv_at hl 2 rfl) ?_
  refine k_Nv (va_runS (As := [.int (nI b)]) (rest := []) ⟨hx, hb, hml, hown, hts⟩ (c_X9_checkThing l G z ad M (t := b) (by omega)) (va_cwS 1 hts (gS (lwg_of t_608 rfl) (lwg_of t_609 rfl) (lwg_of t_1 rfl) (lwg_of t_610 rfl)) rfl rfl rfl (by decide +kernel) ⟨Nat.le_of_ble_eq_true rfl, Nat.le_of_ble_eq_true rfl⟩) hI.preS rfl rfl hl.1 rfl (lv_room (Nat.le_of_ble_eq_true rfl)) dX9_ways_5 ⟨Nat.le_of_ble_eq_true rfl, Nat.le_of_ble_eq_true rfl⟩) hI (fun M_9 H_10 locs_11 hp_8 hI => ?_)
  have eM_12 : M = M_9 := (funext hp_8).symm
  subst eM_12
  refine lv_aload_n hx hb dX9_ways_8 rfl (lv_at hl 0 rfl) ?_
  refine h_get (C := RX9) (T := TX9) (N := 10) hx hb hts i_RX9 hown hI h0 rfl 4 (by decide) f_40 rfl rfl dX9_ways_9 ?_
  refine lv_aload_n hx hb dX9_ways_12 rfl (lv_at hl 0 rfl) ?_
  refine h_get (C := RX9) (T := TX9) (N := 10) hx hb hts i_RX9 hown hI h0 rfl 2 (by decide) f_26 rfl rfl dX9_ways_13 ?_
  refine lv_iload_n hx hb dX9_ways_16 rfl (lv_at hl 1 rfl) ?_
  refine k_Ri (va_runV (As := [.int (nI a)]) (rest := [.ref (ad 16)]) ⟨hx, hb, hml, hown, hts⟩ (c_X5_of l G z ad M (jn := jn) (lst := lst) (t := a) h8 h10 (by omega)) (cwV 1 hts (gV (lwg_of t_854 rfl) (lwg_of t_377 rfl) (lwg_of t_378 rfl) (lwg_of t_4 rfl) (lwg_of t_379 rfl)) rfl rfl rfl (by decide +kernel) ⟨Nat.le_of_ble_eq_true rfl, Nat.le_of_ble_eq_true rfl⟩) (hI.preV h8 rfl) rfl rfl hl.1 rfl (lv_room (Nat.le_of_ble_eq_true rfl)) dX9_ways_17 ⟨Nat.le_of_ble_eq_true rfl, Nat.le_of_ble_eq_true rfl⟩) (fun _ h => h) (fun r_13 hp_14 => ?_)
  rw [hp_14]
  refine lv_aload_n hx hb dX9_ways_20 rfl (lv_at hl 0 rfl) ?_
  refine h_get (C := RX9) (T := TX9) (N := 10) hx hb hts i_RX9 hown hI h0 rfl 2 (by decide) f_26 rfl rfl dX9_ways_21 ?_
  refine lv_iload_n hx hb dX9_ways_24 rfl (lv_at hl 2 rfl) ?_
  refine k_Ri (va_runV (As := [.int (nI b)]) (rest := [.int (nI (lst a)), .ref (ad 16)]) ⟨hx, hb, hml, hown, hts⟩ (c_X5_of l G z ad M (jn := jn) (lst := lst) (t := b) h8 h10 (by omega)) (cwV 1 hts (gV (lwg_of t_854 rfl) (lwg_of t_377 rfl) (lwg_of t_378 rfl) (lwg_of t_4 rfl) (lwg_of t_379 rfl)) rfl rfl rfl (by decide +kernel) ⟨Nat.le_of_ble_eq_true rfl, Nat.le_of_ble_eq_true rfl⟩) (hI.preV h8 rfl) rfl rfl hl.1 rfl (lv_room (Nat.le_of_ble_eq_true rfl)) dX9_ways_25 ⟨Nat.le_of_ble_eq_true rfl, Nat.le_of_ble_eq_true rfl⟩) (fun _ h => h) (fun r_15 hp_16 => ?_)
  rw [hp_16]
  refine lv_iload_n hx hb dX9_ways_28 rfl (lv_at hl 3 rfl) ?_
  refine lv_iload hx hb dX9_ways_29 (lv_at hl 4 rfl) ?_
  refine lv_aload_n hx hb dX9_ways_31 rfl (lv_at hl 0 rfl) ?_
  refine h_get (C := RX9) (T := TX9) (N := 10) hx hb hts i_RX9 hown hI h0 rfl 2 (by decide) f_26 rfl rfl dX9_ways_32 ?_
  refine k_Ri (va_runV (As := [.int (nI (lst a)), .int (nI (lst b)), .int ks, .int d, .ref (ad 8)]) (rest := []) ⟨hx, hb, hml, hown, hts⟩ (c_X3_fewestBetween l G z ad M (n := n) (kd := kd) (fm := fm) (to := to) (sz := sz) (rl := rl) (en := en) (jn := jn) (lst := lst) (a := lst a) (b := lst b) (ks := ks) (d := d) hL h8 h10 hw hlst (by omega) (by omega)) (cwV 5 hts (gV (lwg_of t_974 rfl) (lwg_of t_975 rfl) (lwg_of t_976 rfl) (lwg_of t_6 rfl) (lwg_of t_977 rfl)) rfl rfl rfl (by decide +kernel) ⟨Nat.le_of_ble_eq_true rfl, Nat.le_of_ble_eq_true rfl⟩) (hI.preV h16 rfl) rfl rfl hl.1 rfl (lv_room (Nat.le_of_ble_eq_true rfl)) dX9_ways_35 ⟨Nat.le_of_ble_eq_true rfl, Nat.le_of_ble_eq_true rfl⟩) (fun _ h => h) (fun r_17 hp_18 => ?_)
  exact e_Ni hx hb hr rfl hlocks hI ⟨(fun j  => rfl), hp_18⟩ dX9_ways_38

/-- X9_degree -/
abbrev rm_c_X9_degree : Room := { frames := 4, cells := 0, slots := 0, locals := 92 }
set_option maxHeartbeats 4000000 in
set_option maxRecDepth 100000 in
theorem c_X9_degree (l : Launch) (G : GG) (z : Nat) (ad : Nat → Nat) (M : Mem) {n : Nat} {kd : Nat → Nat} {fm : Nat → Int32} {to : Nat → Int32} {sz : Nat → Nat} {rl : Nat → Nat → Nat} {en : Nat → Nat → Nat} {qa : Nat} {qs : Nat} {fw : Int32} {jn : Nat} {lst : Nat → Nat} {t : Nat} {q : Nat} {x : Nat} {d : Int32} (hL : LSm G ad M n kd fm to sz rl en) (h0 : M 0 = some (cStore ad qa qs fw)) (h8 : M 8 = some (cOnes ad jn)) (h10 : M 10 = some (aI G 40 (nF lst))) (hw : LSw n kd sz rl en) (hlst : ∀ u, u < 40 → lst u < 40) (ht : t < 40) (hq : q < 6) (hx6 : x < 6) : Met l yX9_degree wsX9_degree rm_c_X9_degree (Pr G z ad M [.ref (ad 0), .int (nI t), .int (nI q), .int (nI x), .int d]) (Ni G z ad (fun (r : Int32) (M' : Mem) => r = nI (cntB (wth kd fm to sz rl en lst (lst t) q x d) n) ∧ (∀ j : Nat,  M' j = M j))) 0 0 (fr z) := by
  refine Met.ofW (cc := cX9_degree) (maxL := 5) (ret := (some .int)) (by decide) rfl ?_
  intro p e s m args below meth c s₁ B hml hv
  obtain ⟨rfl, hv⟩ := hv
  have hI := Iv.entry hv
  have hx := B.exec
  have hb := B.bytes
  have hr := B.returns
  have hts := atoms_spec (ws := wsX9_degree) B.pre
  have hown : s.vm.findClass RX9 = some m.cls := findClass_of_methodNamed B.named
  have hlocks := B.notSynchronized
  have i_RX9 : ∀ w ∈ u_ws RX9 TX9 10, w ∈ wsX9_degree := fun w h => List.mem_cons_of_mem _ (iu_X9 w h)
  have f_40 := hts _ (List.mem_cons_of_mem _ (lwg_of t_243 rfl))
  have f_26 := hts _ (List.mem_cons_of_mem _ (lwg_of t_241 rfl))
  have hl := lv_entry ([.ref (ad 0), .int (nI t), .int (nI q), .int (nI x), .int d]) (n := 5) (Nat.le_of_ble_eq_true rfl)
  rw [lg_entry_eq]
  generalize (lg_sl ([.ref (ad 0), .int (nI t), .int (nI q), .int (nI x), .int d]) ++ List.replicate (5 - (lg_sl ([.ref (ad 0), .int (nI t), .int (nI q), .int (nI x), .int d])).length) Slot.unset).toArray = ls at hl ⊢
  have hl : lv_has ls 5 [(0, .ref (ad 0)), (1, .int (nI t)), (2, .int (nI q)), (3, .int (nI x)), (4, .int d)] := hl
  have h16 := hL.1
  obtain ⟨mcn, ed, h17, hed⟩ := id hL.2.1
  have hlt := hlst t ht
  refine lv_iload_n hx hb dX9_degree_0 rfl (lv_at hl 1 rfl) ?_
  refine k_Nv (va_runS (As := [.int (nI t)]) (rest := []) ⟨hx, hb, hml, hown, hts⟩ (c_X9_checkThing l G z ad M (t := t) (by omega)) (va_cwS 1 hts (gS (lwg_of t_608 rfl) (lwg_of t_609 rfl) (lwg_of t_1 rfl) (lwg_of t_610 rfl)) rfl rfl rfl (by decide +kernel) ⟨Nat.le_of_ble_eq_true rfl, Nat.le_of_ble_eq_true rfl⟩) hI.preS rfl rfl hl.1 rfl (lv_room (Nat.le_of_ble_eq_true rfl)) dX9_degree_1 ⟨Nat.le_of_ble_eq_true rfl, Nat.le_of_ble_eq_true rfl⟩) hI (fun M_3 H_4 locs_5 hp_2 hI => ?_)
  have eM_6 : M = M_3 := (funext hp_2).symm
  subst eM_6
  refine lv_iload_n hx hb dX9_degree_4 rfl (lv_at hl 2 rfl) ?_
  refine k_Nv (va_runS (As := [.int (nI q)]) (rest := []) ⟨hx, hb, hml, hown, hts⟩ (c_X9_checkKind l G z ad M (t := q) (by omega)) (va_cwS 1 hts (gS (lwg_of t_477 rfl) (lwg_of t_478 rfl) (lwg_of t_1 rfl) (lwg_of t_479 rfl)) rfl rfl rfl (by decide +kernel) ⟨Nat.le_of_ble_eq_true rfl, Nat.le_of_ble_eq_true rfl⟩) hI.preS rfl rfl hl.1 rfl (lv_room (Nat.le_of_ble_eq_true rfl)) dX9_degree_5 ⟨Nat.le_of_ble_eq_true rfl, Nat.le_of_ble_eq_true rfl⟩) hI (fun M_9 H_10 locs_11 hp_8 hI => ?_)
  have eM_12 : M = M_9 := (funext hp_8).symm
  subst eM_12
  refine lv_iload_n hx hb dX9_degree_8 rfl (lv_at hl 3 rfl) ?_
  refine k_Nv (va_runS (As := [.int (nI x)]) (rest := []) ⟨hx, hb, hml, hown, hts⟩ (c_X9_checkRole l G z ad M (t := x) (by omega)) (va_cwS 1 hts (gS (lwg_of t_549 rfl) (lwg_of t_550 rfl) (lwg_of t_1 rfl) (lwg_of t_551 rfl)) rfl rfl rfl (by decide +kernel) ⟨Nat.le_of_ble_eq_true rfl, Nat.le_of_ble_eq_true rfl⟩) hI.preS rfl rfl hl.1 rfl (lv_room (Nat.le_of_ble_eq_true rfl)) dX9_degree_9 ⟨Nat.le_of_ble_eq_true rfl, Nat.le_of_ble_eq_true rfl⟩) hI (fun M_15 H_16 locs_17 hp_14 hI => ?_)
  have eM_18 : M = M_15 := (funext hp_14).symm
  subst eM_18
  refine lv_aload_n hx hb dX9_degree_12 rfl (lv_at hl 0 rfl) ?_
  refine h_get (C := RX9) (T := TX9) (N := 10) hx hb hts i_RX9 hown hI h0 rfl 4 (by decide) f_40 rfl rfl dX9_degree_13 ?_
  refine lv_aload_n hx hb dX9_degree_16 rfl (lv_at hl 0 rfl) ?_
  refine h_get (C := RX9) (T := TX9) (N := 10) hx hb hts i_RX9 hown hI h0 rfl 2 (by decide) f_26 rfl rfl dX9_degree_17 ?_
  refine lv_iload_n hx hb dX9_degree_20 rfl (lv_at hl 1 rfl) ?_
  refine k_Ri (va_runV (As := [.int (nI t)]) (rest := [.ref (ad 16)]) ⟨hx, hb, hml, hown, hts⟩ (c_X5_of l G z ad M (jn := jn) (lst := lst) (t := t) h8 h10 (by omega)) (cwV 1 hts (gV (lwg_of t_854 rfl) (lwg_of t_377 rfl) (lwg_of t_378 rfl) (lwg_of t_4 rfl) (lwg_of t_379 rfl)) rfl rfl rfl (by decide +kernel) ⟨Nat.le_of_ble_eq_true rfl, Nat.le_of_ble_eq_true rfl⟩) (hI.preV h8 rfl) rfl rfl hl.1 rfl (lv_room (Nat.le_of_ble_eq_true rfl)) dX9_degree_21 ⟨Nat.le_of_ble_eq_true rfl, Nat.le_of_ble_eq_true rfl⟩) (fun _ h => h) (fun r_19 hp_20 => ?_)
  rw [hp_20]
  refine lv_iload_n hx hb dX9_degree_24 rfl (lv_at hl 2 rfl) ?_
  refine lv_iload_n hx hb dX9_degree_25 rfl (lv_at hl 3 rfl) ?_
  refine lv_iload hx hb dX9_degree_26 (lv_at hl 4 rfl) ?_
  refine lv_aload_n hx hb dX9_degree_28 rfl (lv_at hl 0 rfl) ?_
  refine h_get (C := RX9) (T := TX9) (N := 10) hx hb hts i_RX9 hown hI h0 rfl 2 (by decide) f_26 rfl rfl dX9_degree_29 ?_
  refine k_Ri (va_runV (As := [.int (nI (lst t)), .int (nI q), .int (nI x), .int d, .ref (ad 8)]) (rest := []) ⟨hx, hb, hml, hown, hts⟩ (c_X3_withThing l G z ad M (n := n) (kd := kd) (fm := fm) (to := to) (sz := sz) (rl := rl) (en := en) (jn := jn) (lst := lst) (t := lst t) (q := q) (x := x) (d := d) hL h8 h10 hw hlst (by omega) (by omega) (by omega)) (cwV 5 hts (gV (lwg_of t_993 rfl) (lwg_of t_994 rfl) (lwg_of t_995 rfl) (lwg_of t_6 rfl) (lwg_of t_996 rfl)) rfl rfl rfl (by decide +kernel) ⟨Nat.le_of_ble_eq_true rfl, Nat.le_of_ble_eq_true rfl⟩) (hI.preV h16 rfl) rfl rfl hl.1 rfl (lv_room (Nat.le_of_ble_eq_true rfl)) dX9_degree_32 ⟨Nat.le_of_ble_eq_true rfl, Nat.le_of_ble_eq_true rfl⟩) (fun _ h => h) (fun r_21 hp_22 => ?_)
  rw [hp_22]
  exact e_Ni hx hb hr rfl hlocks hI ⟨rfl, (fun j  => rfl)⟩ dX9_degree_35
