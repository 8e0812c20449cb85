/-- a byte of the tape as the model holds it -/
def sB (v : Nat) : Int32 := (nI v).toInt8.toInt32
theorem sB_lo : ∀ v, v < 128 → sB v = nI v := by decide +kernel
theorem sB_hi : ∀ v, v < 128 → sB (128 + v) < 0 := by decide +kernel
theorem sB_lt {v lo : Nat} (hv : v < 256) (hl : lo < 128) : sB v < nI lo ↔ (v < lo ∨ 128 ≤ v) := by
  by_cases h : v < 128
  · rw [sB_lo v h, nI_ltI (by omega) (by omega)]; omega
  · have h1 := sB_hi (v - 128) (by omega)
    rw [show 128 + (v - 128) = v by omega] at h1
    rw [Int32.lt_iff_toInt_lt, show (0 : Int32).toInt = 0 from by decide] at h1
    rw [Int32.lt_iff_toInt_lt, nI_toInt (by omega)]
    omega
theorem sB_gt {v k : Nat} (hv : v < 128) (hk : k < 128) : nI k < sB v ↔ k < v := by rw [sB_lo v hv, nI_ltI (by omega) (by omega)]
/-- the next byte is one of lo to hi -/
def isA (tb : Nat → Nat) (zs pt lo hi : Nat) : Bool := decide (pt < zs ∧ lo ≤ tb pt ∧ tb pt ≤ hi)
theorem isA_run {P : Nat → Bool} {tb : Nat → Nat} {zs pt lo hi : Nat} (hP : ∀ j, P j = decide (lo ≤ tb j ∧ tb j ≤ hi)) (h : isA tb zs pt lo hi = true) : run P zs pt = run P zs (pt + 1) := by
  have h1 := of_decide_eq_true h
  exact run_go h1.1 (by rw [hP]; exact decide_eq_true h1.2)
theorem isA_stop {P : Nat → Bool} {tb : Nat → Nat} {zs pt lo hi : Nat} (hP : ∀ j, P j = decide (lo ≤ tb j ∧ tb j ≤ hi)) (h : isA tb zs pt lo hi = false) : run P zs pt = pt := run_stop (fun ⟨a, b⟩ => by
  rw [hP] at b
  exact of_decide_eq_false h ⟨a, of_decide_eq_true b⟩)
theorem isA_lt {tb : Nat → Nat} {zs pt lo hi : Nat} (h : isA tb zs pt lo hi = true) : pt < zs ∧ lo ≤ tb pt ∧ tb pt ≤ hi := of_decide_eq_true h
theorem bl_is (tb : Nat → Nat) : ∀ j, bl tb j = decide (32 ≤ tb j ∧ tb j ≤ 32) := fun j => by
  rw [bl]
  by_cases h : tb j = 32
  · rw [decide_eq_true h, decide_eq_true (by omega)]
  · rw [decide_eq_false h, decide_eq_false (by omega)]
theorem ltr_is (tb : Nat → Nat) : ∀ j, ltr tb j = decide (97 ≤ tb j ∧ tb j ≤ 122) := fun _ => rfl
theorem dgt_is (tb : Nat → Nat) : ∀ j, dgt tb j = decide (48 ≤ tb j ∧ tb j ≤ 57) := fun _ => rfl

/-- X10_isAt -/
abbrev rm_c_X10_isAt : Room := { frames := 0, cells := 0, slots := 0, locals := 0 }
set_option maxHeartbeats 4000000 in
set_option maxRecDepth 100000 in
theorem c_X10_isAt (l : Launch) (G : GG) (z : Nat) (ad : Nat → Nat) (M : Mem) {th : Nat} {ln : Nat} {on : Nat} {ao : Nat} {vr : Nat} {sn : Nat} {tp : Nat} {pt : Nat} {zs : Nat} {bg : Nat} {fa : Int32} {f : Nat → Int32} {tb : Nat → Nat} {lo : Nat} {hi : Nat} (h60 : M 60 = some (cModel ad th ln on ao vr sn tp pt zs bg fa)) (h80 : M 80 = some (aB G 400 f)) (hzs : pt ≤ zs ∧ zs ≤ 400) (htb : ∀ j, j < zs → tb j < 256) (hf : ∀ j, j < zs → f j = sB (tb j)) (hlo : 0 < lo ∧ lo < 128) (hhi : hi < 128) : Met l yX10_isAt wsX10_isAt rm_c_X10_isAt (Pr G z ad M [.ref (ad 60), .int (nI lo), .int (nI hi)]) (vp_Si (fun r : Int32 => r = bI (isA tb zs pt lo hi))) 0 0 (fun _ => False) := by
  refine Met.ofW (cc := cX10_isAt) (maxL := 3) (ret := (some .boolean)) (by decide) rfl ?_
  intro p e s m args below meth c s₁ B hml hv
  obtain ⟨rfl, hv⟩ := hv
  have hI := Iv.entry hv
  have hx := B.exec
  have hb := B.bytes
  have hr := B.returns
  have hts := atoms_spec (ws := wsX10_isAt) B.pre
  have hown : s.vm.findClass RX10 = some m.cls := findClass_of_methodNamed B.named
  have hlocks := B.notSynchronized
  have i_RX10 : ∀ w ∈ u_ws RX10 TX10 38, w ∈ wsX10_isAt := fun w h => List.mem_cons_of_mem _ (iu_X10 w h)
  have f_161 := hts _ (List.mem_cons_of_mem _ (lwg_of t_1040 rfl))
  have f_164 := hts _ (List.mem_cons_of_mem _ (lwg_of t_1041 rfl))
  have f_72 := hts _ (List.mem_cons_of_mem _ (lwg_of t_1038 rfl))
  have hl := lv_entry ([.ref (ad 60), .int (nI lo), .int (nI hi)]) (n := 3) (Nat.le_of_ble_eq_true rfl)
  rw [lg_entry_eq]
  generalize (lg_sl ([.ref (ad 60), .int (nI lo), .int (nI hi)]) ++ List.replicate (3 - (lg_sl ([.ref (ad 60), .int (nI lo), .int (nI hi)])).length) Slot.unset).toArray = ls at hl ⊢
  have hl : lv_has ls 3 [(0, .ref (ad 60)), (1, .int (nI lo)), (2, .int (nI hi))] := hl
  refine lv_aload_n hx hb dX10_isAt_0 rfl (lv_at hl 0 rfl) ?_
  refine h_get (C := RX10) (T := TX10) (N := 38) hx hb hts i_RX10 hown hI h60 rfl 27 (by decide) f_161 rfl rfl dX10_isAt_1 ?_
  refine lv_aload_n hx hb dX10_isAt_4 rfl (lv_at hl 0 rfl) ?_
  refine h_get (C := RX10) (T := TX10) (N := 38) hx hb hts i_RX10 hown hI h60 rfl 28 (by decide) f_164 rfl rfl dX10_isAt_5 ?_
  refine lv_icmp_ge (tgt := 41) hx hb dX10_isAt_8 (by decide) (fun c_1 => ?_) (fun c_1 => ?_)
  · -- 8: nI pt ge
    have c_1 : zs ≤ pt := (nI_leI (a := zs) (b := pt) (by omega) (by omega)).mp (c_1)
    refine lv_iconst (v := nI 0) hx hb dX10_isAt_41 (by decide) ?_
    exact e_Ri hx hb hr rfl hlocks (dec_f (fun h => by
      first
      | omega
      | (have a1 := (sB_lt htv hlo.2).mp (by assumption); omega)
      | (have a2 := (sB_gt (v := tb pt) (by omega) hhi).mp (by assumption); omega))) dX10_isAt_42
  · -- 8: nI pt lt
    have c_1 : pt < zs := by have h := mt (nI_leI (a := zs) (b := pt) (by omega) (by omega)).mpr c_1; omega
    have htv := htb pt (by omega)
    have hfv := hf pt (by omega)
    refine lv_aload_n hx hb dX10_isAt_11 rfl (lv_at hl 0 rfl) ?_
    refine h_get (C := RX10) (T := TX10) (N := 38) hx hb hts i_RX10 hown hI h60 rfl 25 (by decide) f_72 rfl rfl dX10_isAt_12 ?_
    refine lv_aload_n hx hb dX10_isAt_15 rfl (lv_at hl 0 rfl) ?_
    refine h_get (C := RX10) (T := TX10) (N := 38) hx hb hts i_RX10 hown hI h60 rfl 27 (by decide) f_161 rfl rfl dX10_isAt_16 ?_
    refine h_bald (i := pt) hx hb hI h80 (by omega) (by decide) dX10_isAt_19 ?_
    refine n_eq (show _ = sB (tb pt) from hfv) ?_
    refine lv_iload_n hx hb dX10_isAt_20 rfl (lv_at hl 1 rfl) ?_
    refine lv_icmp_lt (tgt := 41) hx hb dX10_isAt_21 (by decide) (fun c_2 => ?_) (fun c_2 => ?_)
    · -- 21: sB (tb pt) lt
      refine lv_iconst (v := nI 0) hx hb dX10_isAt_41 (by decide) ?_
      exact e_Ri hx hb hr rfl hlocks (dec_f (fun h => by
      first
      | omega
      | (have a1 := (sB_lt htv hlo.2).mp (by assumption); omega)
      | (have a2 := (sB_gt (v := tb pt) (by omega) hhi).mp (by assumption); omega))) dX10_isAt_42
    · -- 21: sB (tb pt) ge
      refine lv_aload_n hx hb dX10_isAt_24 rfl (lv_at hl 0 rfl) ?_
      refine h_get (C := RX10) (T := TX10) (N := 38) hx hb hts i_RX10 hown hI h60 rfl 25 (by decide) f_72 rfl rfl dX10_isAt_25 ?_
      refine lv_aload_n hx hb dX10_isAt_28 rfl (lv_at hl 0 rfl) ?_
      refine h_get (C := RX10) (T := TX10) (N := 38) hx hb hts i_RX10 hown hI h60 rfl 27 (by decide) f_161 rfl rfl dX10_isAt_29 ?_
      refine h_bald (i := pt) hx hb hI h80 (by omega) (by decide) dX10_isAt_32 ?_
      refine n_eq (show _ = sB (tb pt) from hfv) ?_
      refine lv_iload_n hx hb dX10_isAt_33 rfl (lv_at hl 2 rfl) ?_
      refine lv_icmp_gt (tgt := 41) hx hb dX10_isAt_34 (by decide) (fun c_3 => ?_) (fun c_3 => ?_)
      · -- 34: sB (tb pt) gt
        refine lv_iconst (v := nI 0) hx hb dX10_isAt_41 (by decide) ?_
        exact e_Ri hx hb hr rfl hlocks (dec_f (fun h => by
      first
      | omega
      | (have a1 := (sB_lt htv hlo.2).mp (by assumption); omega)
      | (have a2 := (sB_gt (v := tb pt) (by omega) hhi).mp (by assumption); omega))) dX10_isAt_42
      · -- 34: sB (tb pt) le
        refine lv_iconst (v := nI 1) hx hb dX10_isAt_37 (by decide) ?_
        refine lv_goto (tgt := 42) hx hb dX10_isAt_38 (by decide) ?_
        exact e_Ri hx hb hr rfl hlocks (dec_t (by
      have a1 := mt (sB_lt htv hlo.2).mpr (by assumption : ¬ sB (tb pt) < nI lo)
      have a2 := mt (sB_gt (by omega) hhi).mpr (by assumption : ¬ nI hi < sB (tb pt))
      omega)) dX10_isAt_42

/-- X10_blanks -/
abbrev rm_c_X10_blanks : Room := { frames := 1, cells := 0, slots := 0, locals := 22 }
set_option maxHeartbeats 4000000 in
set_option maxRecDepth 100000 in
theorem c_X10_blanks (l : Launch) (G : GG) (z : Nat) (ad : Nat → Nat) (M : Mem) {th : Nat} {ln : Nat} {on : Nat} {ao : Nat} {vr : Nat} {sn : Nat} {tp : Nat} {pt : Nat} {zs : Nat} {bg : Nat} {fa : Int32} {f : Nat → Int32} {tb : Nat → Nat} (h60 : M 60 = some (cModel ad th ln on ao vr sn tp pt zs bg fa)) (h80 : M 80 = some (aB G 400 f)) (hzs : pt ≤ zs ∧ zs ≤ 400) (htb : ∀ j, j < zs → tb j < 256) (hf : ∀ j, j < zs → f j = sB (tb j)) : Met l yX10_blanks wsX10_blanks rm_c_X10_blanks (Pr G z ad M [.ref (ad 60)]) (Nv G z ad (fun (M' : Mem) => M' 60 = some (cModel ad th ln on ao vr sn tp (run (bl tb) zs pt) zs (run (bl tb) zs pt) fa) ∧ (∀ j : Nat, j ≠ 60 → M' j = M j))) 0 0 (fr z) := by
  refine Met.ofW (cc := cX10_blanks) (maxL := 1) (ret := none) (by decide) rfl ?_
  intro p e s m args below meth c s₁ B hml hv
  obtain ⟨rfl, hv⟩ := hv
  have hI := Iv.entry hv
  have hx := B.exec
  have hb := B.bytes
  have hr := B.returns
  have hts := atoms_spec (ws := wsX10_blanks) B.pre
  have hown : s.vm.findClass RX10 = some m.cls := findClass_of_methodNamed B.named
  have hlocks := B.notSynchronized
  have i_RX10 : ∀ w ∈ u_ws RX10 TX10 38, w ∈ wsX10_blanks := fun w h => List.mem_cons_of_mem _ (iu_X10 w h)
  have f_161 := hts _ (List.mem_cons_of_mem _ (lwg_of t_1040 rfl))
  have f_170 := hts _ (List.mem_cons_of_mem _ (lwg_of t_1042 rfl))
  have hl := lv_entry ([.ref (ad 60)]) (n := 1) (Nat.le_of_ble_eq_true rfl)
  rw [lg_entry_eq]
  generalize (lg_sl ([.ref (ad 60)]) ++ List.replicate (1 - (lg_sl ([.ref (ad 60)])).length) Slot.unset).toArray = ls at hl ⊢
  have hl : lv_has ls 1 [(0, .ref (ad 60))] := hl
  refine w_q (fun Q hQ => ?_)
  have lp0_1 : ∀ (fuel : Nat) (p9 : Nat) (Mx : Mem) (Hx : Heap) (locsx : List Loc) (ls : Array Slot), (zs - p9) < fuel → (p9 ≤ zs) → (run (bl tb) zs p9 = run (bl tb) zs pt) → Iv G z ad Mx s Hx locsx → Mx 60 = some (cModel ad th ln on ao vr sn tp p9 zs bg fa) → (∀ j : Nat, j ≠ 60 → Mx j = M j) → lv_has ls 1 [(0, .ref (ad 60))] → W p l e (headSpec wsX10_blanks rm_c_X10_blanks).room s m ([.ref (ad 60)] : List Value).toArray below meth c Hx locsx 0 0 Q (F0 m 0 ls []) := by
    intro fuel
    induction fuel with
    | zero => intro p9 Mx Hx locsx ls hfu hp9 hrn hI hm_2 hF_4 hl; exact absurd hfu (Nat.not_lt_zero _)
    | succ fuel ih_5 =>
      intro p9 Mx Hx locsx ls hfu hp9 hrn hI hm_2 hF_4 hl
      have hm_6 : Mx 80 = some (aB G 400 f) := by rw [hF_4 80 (by omega)]; exact h80
      refine lv_aload_n hx hb dX10_blanks_0 rfl (lv_at hl 0 rfl) ?_
      refine lv_bipush (v := nI 32) hx hb dX10_blanks_1 (by decide) ?_
      refine lv_bipush (v := nI 32) hx hb dX10_blanks_3 (by decide) ?_
      refine k_Ri (va_runV (As := [.int (nI 32), .int (nI 32)]) (rest := []) ⟨hx, hb, hml, hown, hts⟩ (c_X10_isAt l G z ad Mx (th := th) (ln := ln) (on := on) (ao := ao) (vr := vr) (sn := sn) (tp := tp) (pt := p9) (zs := zs) (bg := bg) (fa := fa) (f := f) (tb := tb) (lo := 32) (hi := 32) hm_2 hm_6 (by omega) htb hf (by omega) (by omega)) (cwV 2 hts (gV (lwg_of t_1241 rfl) (lwg_of t_1243 rfl) (lwg_of ts_34 rfl) (lwg_of t_13 rfl) (lwg_of t_1244 rfl)) rfl rfl rfl (by decide +kernel) ⟨Nat.le_of_ble_eq_true rfl, Nat.le_of_ble_eq_true rfl⟩) (hI.preV hm_2 rfl) rfl rfl hl.1 rfl (lv_room (Nat.le_of_ble_eq_true rfl)) dX10_blanks_5 ⟨Nat.le_of_ble_eq_true rfl, Nat.le_of_ble_eq_true rfl⟩) (fun _ h => h) (fun r_7 hp_8 => ?_)
      rw [hp_8]
      refine lv_if_eq (tgt := 24) hx hb dX10_blanks_8 (by decide) (fun c_9 => ?_) (fun c_9 => ?_)
      · -- 8: bI (isA tb zs p9 32 32) eq
        have c_9 : isA tb zs p9 32 32 = false := bI_f (c_9)
        refine lv_aload_n hx hb dX10_blanks_24 rfl (lv_at hl 0 rfl) ?_
        refine lv_aload_n hx hb dX10_blanks_25 rfl (lv_at hl 0 rfl) ?_
        refine h_get (C := RX10) (T := TX10) (N := 38) hx hb hts i_RX10 hown hI hm_2 rfl 27 (by decide) f_161 rfl rfl dX10_blanks_26 ?_
        refine h_put (C := RX10) (T := TX10) (N := 38) hx hb hts i_RX10 tyX10 tyX10_ok nmX10 hown hI hm_2 rfl 29 (by decide) f_170 rfl rfl rfl rfl (Nat.le_of_ble_eq_true rfl) dX10_blanks_29 (fun M_10 H_11 locs_12 eM_13 hI => ?_)
        have hm_14 : M_10 80 = some (aB G 400 f) := by rw [eM_13, va_up_ne _ _ (by decide)]; exact hm_6
        have hm_15 : M_10 60 = some (cModel ad th ln on ao vr sn tp p9 zs p9 fa) := by rw [eM_13]; exact va_up_self _ _ _
        have hF_16 : ∀ j : Nat, j ≠ 60 → M_10 j = M j := fun j q0 => by rw [eM_13, va_up_ne _ _ q0]; exact hF_4 j q0
        subst hQ
        exact e_Nv hx hb hr hlocks hI ⟨(by rw [← hrn, isA_stop (bl_is tb) (by assumption)]; exact hm_15), (fun j q0 => hF_16 j q0)⟩ dX10_blanks_32
      · -- 8: bI (isA tb zs p9 32 32) ne
        have c_9 : isA tb zs p9 32 32 = true := bI_t (c_9)
        refine lv_aload_n hx hb dX10_blanks_11 rfl (lv_at hl 0 rfl) ?_
        refine lv_dup hx hb dX10_blanks_12 rfl ?_
        refine h_get (C := RX10) (T := TX10) (N := 38) hx hb hts i_RX10 hown hI hm_2 rfl 27 (by decide) f_161 rfl rfl dX10_blanks_13 ?_
        refine lv_iconst (v := nI 1) hx hb dX10_blanks_16 (by decide) ?_
        refine lv_iadd hx hb dX10_blanks_17 ?_
        refine n_eq (nI_add p9 1) ?_
        refine h_put (C := RX10) (T := TX10) (N := 38) hx hb hts i_RX10 tyX10 tyX10_ok nmX10 hown hI hm_2 rfl 27 (by decide) f_161 rfl rfl rfl rfl (Nat.le_of_ble_eq_true rfl) dX10_blanks_18 (fun M_17 H_18 locs_19 eM_20 hI => ?_)
        have hm_21 : M_17 80 = some (aB G 400 f) := by rw [eM_20, va_up_ne _ _ (by decide)]; exact hm_6
        have hm_22 : M_17 60 = some (cModel ad th ln on ao vr sn tp (p9 + 1) zs bg fa) := by rw [eM_20]; exact va_up_self _ _ _
        have hF_23 : ∀ j : Nat, j ≠ 60 → M_17 j = M j := fun j q0 => by rw [eM_20, va_up_ne _ _ q0]; exact hF_4 j q0
        refine lv_goto (tgt := 0) hx hb dX10_blanks_21 (by decide) ?_
        exact ih_5 (p9 + 1) M_17 H_18 locs_19 ls (by have := isA_lt (by assumption : isA tb zs p9 32 32 = true); omega) (by have := isA_lt (by assumption : isA tb zs p9 32 32 = true); omega) ((isA_run (bl_is tb) (by assumption)).symm.trans hrn) hI hm_22 (fun j q0 => hF_23 j q0) (lv_sub hl [0] rfl)
  exact lp0_1 ((zs - pt) + 1) pt M s.heap [] ls (Nat.lt_succ_self _) (by omega) (rfl) hI h60 (fun j _ => rfl) (lv_sub hl [0] rfl)

/-- X10_word -/
abbrev rm_c_X10_word : Room := { frames := 2, cells := 0, slots := 0, locals := 42 }
set_option maxHeartbeats 4000000 in
set_option maxRecDepth 100000 in
theorem c_X10_word (l : Launch) (G : GG) (z : Nat) (ad : Nat → Nat) (M : Mem) {th : Nat} {ln : Nat} {on : Nat} {ao : Nat} {vr : Nat} {sn : Nat} {tp : Nat} {pt : Nat} {zs : Nat} {bg : Nat} {fa : Int32} {f : Nat → Int32} {tb : Nat → Nat} (h60 : M 60 = some (cModel ad th ln on ao vr sn tp pt zs bg fa)) (h80 : M 80 = some (aB G 400 f)) (hzs : pt ≤ zs ∧ zs ≤ 400) (htb : ∀ j, j < zs → tb j < 256) (hf : ∀ j, j < zs → f j = sB (tb j)) : Met l yX10_word wsX10_word rm_c_X10_word (Pr G z ad M [.ref (ad 60)]) (Nv G z ad (fun (M' : Mem) => M' 60 = some (cModel ad th ln on ao vr sn tp (run (ltr tb) zs (run (bl tb) zs pt)) zs (run (bl tb) zs pt) fa) ∧ (∀ j : Nat, j ≠ 60 → M' j = M j))) 0 0 (fr z) := by
  refine Met.ofW (cc := cX10_word) (maxL := 1) (ret := none) (by decide) rfl ?_
  intro p e s m args below meth c s₁ B hml hv
  obtain ⟨rfl, hv⟩ := hv
  have hI := Iv.entry hv
  have hx := B.exec
  have hb := B.bytes
  have hr := B.returns
  have hts := atoms_spec (ws := wsX10_word) B.pre
  have hown : s.vm.findClass RX10 = some m.cls := findClass_of_methodNamed B.named
  have hlocks := B.notSynchronized
  have i_RX10 : ∀ w ∈ u_ws RX10 TX10 38, w ∈ wsX10_word := fun w h => List.mem_cons_of_mem _ (iu_X10 w h)
  have f_161 := hts _ (List.mem_cons_of_mem _ (lwg_of t_1040 rfl))
  have hl := lv_entry ([.ref (ad 60)]) (n := 1) (Nat.le_of_ble_eq_true rfl)
  rw [lg_entry_eq]
  generalize (lg_sl ([.ref (ad 60)]) ++ List.replicate (1 - (lg_sl ([.ref (ad 60)])).length) Slot.unset).toArray = ls at hl ⊢
  have hl : lv_has ls 1 [(0, .ref (ad 60))] := hl
  refine w_q (fun Q hQ => ?_)
  have hsk := run_le (P := bl tb) hzs.1
  refine lv_aload_n hx hb dX10_word_0 rfl (lv_at hl 0 rfl) ?_
  refine k_Nv (va_runV (As := []) (rest := []) ⟨hx, hb, hml, hown, hts⟩ (c_X10_blanks l G z ad M (th := th) (ln := ln) (on := on) (ao := ao) (vr := vr) (sn := sn) (tp := tp) (pt := pt) (zs := zs) (bg := bg) (fa := fa) (f := f) (tb := tb) h60 h80 (by omega) htb hf) (cwV 0 hts (gV (lwg_of t_1237 rfl) (lwg_of t_1239 rfl) (lwg_of ts_33 rfl) (lwg_of t_13 rfl) (lwg_of t_1240 rfl)) rfl rfl rfl (by decide +kernel) ⟨Nat.le_of_ble_eq_true rfl, Nat.le_of_ble_eq_true rfl⟩) (hI.preV h60 rfl) rfl rfl hl.1 rfl (lv_room (Nat.le_of_ble_eq_true rfl)) dX10_word_1 ⟨Nat.le_of_ble_eq_true rfl, Nat.le_of_ble_eq_true rfl⟩) hI (fun M_3 H_4 locs_5 hp_2 hI => ?_)
  obtain ⟨hm_6, hF_7⟩ := hp_2
  have hm_8 : M_3 80 = some (aB G 400 f) := by rw [hF_7 80 (by omega)]; exact h80
  have hF_9 : ∀ j : Nat, j ≠ 60 → M_3 j = M j := fun j q0 => (hF_7 j q0)
  have lp4_10 : ∀ (fuel : Nat) (p9 : Nat) (Mx : Mem) (Hx : Heap) (locsx : List Loc) (ls : Array Slot), (zs - p9) < fuel → (p9 ≤ zs) → (run (ltr tb) zs p9 = run (ltr tb) zs (run (bl tb) zs pt)) → Iv G z ad Mx s Hx locsx → Mx 60 = some (cModel ad th ln on ao vr sn tp p9 zs (run (bl tb) zs pt) fa) → (∀ j : Nat, j ≠ 60 → Mx j = M j) → lv_has ls 1 [(0, .ref (ad 60))] → W p l e (headSpec wsX10_word rm_c_X10_word).room s m ([.ref (ad 60)] : List Value).toArray below meth c Hx locsx 0 0 Q (F0 m 4 ls []) := by
    intro fuel
    induction fuel with
    | zero => intro p9 Mx Hx locsx ls hfu hp9 hrn hI hm_11 hF_13 hl; exact absurd hfu (Nat.not_lt_zero _)
    | succ fuel ih_14 =>
      intro p9 Mx Hx locsx ls hfu hp9 hrn hI hm_11 hF_13 hl
      have hm_15 : Mx 80 = some (aB G 400 f) := by rw [hF_13 80 (by omega)]; exact h80
      refine lv_aload_n hx hb dX10_word_4 rfl (lv_at hl 0 rfl) ?_
      refine lv_bipush (v := nI 97) hx hb dX10_word_5 (by decide) ?_
      refine lv_bipush (v := nI 122) hx hb dX10_word_7 (by decide) ?_
      refine k_Ri (va_runV (As := [.int (nI 97), .int (nI 122)]) (rest := []) ⟨hx, hb, hml, hown, hts⟩ (c_X10_isAt l G z ad Mx (th := th) (ln := ln) (on := on) (ao := ao) (vr := vr) (sn := sn) (tp := tp) (pt := p9) (zs := zs) (bg := run (bl tb) zs pt) (fa := fa) (f := f) (tb := tb) (lo := 97) (hi := 122) hm_11 hm_15 (by omega) htb hf (by omega) (by omega)) (cwV 2 hts (gV (lwg_of t_1241 rfl) (lwg_of t_1243 rfl) (lwg_of ts_34 rfl) (lwg_of t_13 rfl) (lwg_of t_1244 rfl)) rfl rfl rfl (by decide +kernel) ⟨Nat.le_of_ble_eq_true rfl, Nat.le_of_ble_eq_true rfl⟩) (hI.preV hm_11 rfl) rfl rfl hl.1 rfl (lv_room (Nat.le_of_ble_eq_true rfl)) dX10_word_9 ⟨Nat.le_of_ble_eq_true rfl, Nat.le_of_ble_eq_true rfl⟩) (fun _ h => h) (fun r_16 hp_17 => ?_)
      rw [hp_17]
      refine lv_if_eq (tgt := 28) hx hb dX10_word_12 (by decide) (fun c_18 => ?_) (fun c_18 => ?_)
      · -- 12: bI (isA tb zs p9 97 122) eq
        have c_18 : isA tb zs p9 97 122 = false := bI_f (c_18)
        subst hQ
        exact e_Nv hx hb hr hlocks hI ⟨(by rw [← hrn, isA_stop (ltr_is tb) (by assumption)]; exact hm_11), (fun j q0 => hF_13 j q0)⟩ dX10_word_28
      · -- 12: bI (isA tb zs p9 97 122) ne
        have c_18 : isA tb zs p9 97 122 = true := bI_t (c_18)
        refine lv_aload_n hx hb dX10_word_15 rfl (lv_at hl 0 rfl) ?_
        refine lv_dup hx hb dX10_word_16 rfl ?_
        refine h_get (C := RX10) (T := TX10) (N := 38) hx hb hts i_RX10 hown hI hm_11 rfl 27 (by decide) f_161 rfl rfl dX10_word_17 ?_
        refine lv_iconst (v := nI 1) hx hb dX10_word_20 (by decide) ?_
        refine lv_iadd hx hb dX10_word_21 ?_
        refine n_eq (nI_add p9 1) ?_
        refine h_put (C := RX10) (T := TX10) (N := 38) hx hb hts i_RX10 tyX10 tyX10_ok nmX10 hown hI hm_11 rfl 27 (by decide) f_161 rfl rfl rfl rfl (Nat.le_of_ble_eq_true rfl) dX10_word_22 (fun M_19 H_20 locs_21 eM_22 hI => ?_)
        have hm_23 : M_19 80 = some (aB G 400 f) := by rw [eM_22, va_up_ne _ _ (by decide)]; exact hm_15
        have hm_24 : M_19 60 = some (cModel ad th ln on ao vr sn tp (p9 + 1) zs (run (bl tb) zs pt) fa) := by rw [eM_22]; exact va_up_self _ _ _
        have hF_25 : ∀ j : Nat, j ≠ 60 → M_19 j = M j := fun j q0 => by rw [eM_22, va_up_ne _ _ q0]; exact hF_13 j q0
        refine lv_goto (tgt := 4) hx hb dX10_word_25 (by decide) ?_
        exact ih_14 (p9 + 1) M_19 H_20 locs_21 ls (by have := isA_lt (by assumption : isA tb zs p9 97 122 = true); omega) (by have := isA_lt (by assumption : isA tb zs p9 97 122 = true); omega) ((isA_run (ltr_is tb) (by assumption)).symm.trans hrn) hI hm_24 (fun j q0 => hF_25 j q0) (lv_sub hl [0] rfl)
  exact lp4_10 ((zs - (run (bl tb) zs pt)) + 1) (run (bl tb) zs pt) M_3 H_4 locs_5 ls (Nat.lt_succ_self _) (by omega) (rfl) hI hm_6 (fun j q0 => hF_9 j q0) (lv_sub hl [0] rfl)

/-- X10_sign -/
abbrev rm_c_X10_sign : Room := { frames := 2, cells := 0, slots := 0, locals := 42 }
set_option maxHeartbeats 4000000 in
set_option maxRecDepth 100000 in
theorem c_X10_sign (l : Launch) (G : GG) (z : Nat) (ad : Nat → Nat) (M : Mem) {th : Nat} {ln : Nat} {on : Nat} {ao : Nat} {vr : Nat} {sn : Nat} {tp : Nat} {pt : Nat} {zs : Nat} {bg : Nat} {fa : Int32} {f : Nat → Int32} {tb : Nat → Nat} {c0 : Nat} (h60 : M 60 = some (cModel ad th ln on ao vr sn tp pt zs bg fa)) (h80 : M 80 = some (aB G 400 f)) (hzs : pt ≤ zs ∧ zs ≤ 400) (htb : ∀ j, j < zs → tb j < 256) (hf : ∀ j, j < zs → f j = sB (tb j)) (hc0 : 0 < c0 ∧ c0 < 128) : Met l yX10_sign wsX10_sign rm_c_X10_sign (Pr G z ad M [.ref (ad 60), .int (nI c0)]) (Ni G z ad (fun (r : Int32) (M' : Mem) => r = bI (isA tb zs (run (bl tb) zs pt) c0 c0) ∧ M' 60 = some (cModel ad th ln on ao vr sn tp (if isA tb zs (run (bl tb) zs pt) c0 c0 = true then run (bl tb) zs pt + 1 else run (bl tb) zs pt) zs (run (bl tb) zs pt) fa) ∧ (∀ j : Nat, j ≠ 60 → M' j = M j))) 0 0 (fr z) := by
  refine Met.ofW (cc := cX10_sign) (maxL := 2) (ret := (some .boolean)) (by decide) rfl ?_
  intro p e s m args below meth c s₁ B hml hv
  obtain ⟨rfl, hv⟩ := hv
  have hI := Iv.entry hv
  have hx := B.exec
  have hb := B.bytes
  have hr := B.returns
  have hts := atoms_spec (ws := wsX10_sign) B.pre
  have hown : s.vm.findClass RX10 = some m.cls := findClass_of_methodNamed B.named
  have hlocks := B.notSynchronized
  have i_RX10 : ∀ w ∈ u_ws RX10 TX10 38, w ∈ wsX10_sign := fun w h => List.mem_cons_of_mem _ (iu_X10 w h)
  have f_161 := hts _ (List.mem_cons_of_mem _ (lwg_of t_1040 rfl))
  have hl := lv_entry ([.ref (ad 60), .int (nI c0)]) (n := 2) (Nat.le_of_ble_eq_true rfl)
  rw [lg_entry_eq]
  generalize (lg_sl ([.ref (ad 60), .int (nI c0)]) ++ List.replicate (2 - (lg_sl ([.ref (ad 60), .int (nI c0)])).length) Slot.unset).toArray = ls at hl ⊢
  have hl : lv_has ls 2 [(0, .ref (ad 60)), (1, .int (nI c0))] := hl
  have hsk := run_le (P := bl tb) hzs.1
  refine lv_aload_n hx hb dX10_sign_0 rfl (lv_at hl 0 rfl) ?_
  refine k_Nv (va_runV (As := []) (rest := []) ⟨hx, hb, hml, hown, hts⟩ (c_X10_blanks l G z ad M (th := th) (ln := ln) (on := on) (ao := ao) (vr := vr) (sn := sn) (tp := tp) (pt := pt) (zs := zs) (bg := bg) (fa := fa) (f := f) (tb := tb) h60 h80 (by omega) htb hf) (cwV 0 hts (gV (lwg_of t_1237 rfl) (lwg_of t_1239 rfl) (lwg_of ts_33 rfl) (lwg_of t_13 rfl) (lwg_of t_1240 rfl)) rfl rfl rfl (by decide +kernel) ⟨Nat.le_of_ble_eq_true rfl, Nat.le_of_ble_eq_true rfl⟩) (hI.preV h60 rfl) rfl rfl hl.1 rfl (lv_room (Nat.le_of_ble_eq_true rfl)) dX10_sign_1 ⟨Nat.le_of_ble_eq_true rfl, Nat.le_of_ble_eq_true rfl⟩) hI (fun M_3 H_4 locs_5 hp_2 hI => ?_)
  obtain ⟨hm_6, hF_7⟩ := hp_2
  have hm_8 : M_3 80 = some (aB G 400 f) := by rw [hF_7 80 (by omega)]; exact h80
  have hF_9 : ∀ j : Nat, j ≠ 60 → M_3 j = M j := fun j q0 => (hF_7 j q0)
  refine lv_aload_n hx hb dX10_sign_4 rfl (lv_at hl 0 rfl) ?_
  refine lv_iload_n hx hb dX10_sign_5 rfl (lv_at hl 1 rfl) ?_
  refine lv_iload_n hx hb dX10_sign_6 rfl (lv_at hl 1 rfl) ?_
  refine k_Ri (va_runV (As := [.int (nI c0), .int (nI c0)]) (rest := []) ⟨hx, hb, hml, hown, hts⟩ (c_X10_isAt l G z ad M_3 (th := th) (ln := ln) (on := on) (ao := ao) (vr := vr) (sn := sn) (tp := tp) (pt := run (bl tb) zs pt) (zs := zs) (bg := run (bl tb) zs pt) (fa := fa) (f := f) (tb := tb) (lo := c0) (hi := c0) hm_6 hm_8 (by omega) htb hf (by omega) (by omega)) (cwV 2 hts (gV (lwg_of t_1241 rfl) (lwg_of t_1243 rfl) (lwg_of ts_34 rfl) (lwg_of t_13 rfl) (lwg_of t_1244 rfl)) rfl rfl rfl (by decide +kernel) ⟨Nat.le_of_ble_eq_true rfl, Nat.le_of_ble_eq_true rfl⟩) (hI.preV hm_6 rfl) rfl rfl hl.1 rfl (lv_room (Nat.le_of_ble_eq_true rfl)) dX10_sign_7 ⟨Nat.le_of_ble_eq_true rfl, Nat.le_of_ble_eq_true rfl⟩) (fun _ h => h) (fun r_10 hp_11 => ?_)
  rw [hp_11]
  refine lv_if_ne (tgt := 15) hx hb dX10_sign_10 (by decide) (fun c_12 => ?_) (fun c_12 => ?_)
  · -- 10: bI (isA tb zs (run (bl tb) zs pt) c0 c0) ne
    have c_12 : isA tb zs (run (bl tb) zs pt) c0 c0 = true := bI_t (c_12)
    refine lv_aload_n hx hb dX10_sign_15 rfl (lv_at hl 0 rfl) ?_
    refine lv_dup hx hb dX10_sign_16 rfl ?_
    refine h_get (C := RX10) (T := TX10) (N := 38) hx hb hts i_RX10 hown hI hm_6 rfl 27 (by decide) f_161 rfl rfl dX10_sign_17 ?_
    refine lv_iconst (v := nI 1) hx hb dX10_sign_20 (by decide) ?_
    refine lv_iadd hx hb dX10_sign_21 ?_
    refine n_eq (nI_add (run (bl tb) zs pt) 1) ?_
    refine h_put (C := RX10) (T := TX10) (N := 38) hx hb hts i_RX10 tyX10 tyX10_ok nmX10 hown hI hm_6 rfl 27 (by decide) f_161 rfl rfl rfl rfl (Nat.le_of_ble_eq_true rfl) dX10_sign_22 (fun M_13 H_14 locs_15 eM_16 hI => ?_)
    have hm_17 : M_13 60 = some (cModel ad th ln on ao vr sn tp ((run (bl tb) zs pt) + 1) zs (run (bl tb) zs pt) fa) := by rw [eM_16]; exact va_up_self _ _ _
    have hm_18 : M_13 80 = some (aB G 400 f) := by rw [eM_16, va_up_ne _ _ (by decide)]; exact hm_8
    have hF_19 : ∀ j : Nat, j ≠ 60 → M_13 j = M j := fun j q0 => by rw [eM_16, va_up_ne _ _ q0]; exact hF_9 j q0
    refine lv_iconst (v := nI 1) hx hb dX10_sign_25 (by decide) ?_
    exact e_Ni hx hb hr rfl hlocks hI ⟨(by rw [show isA tb zs (run (bl tb) zs pt) c0 c0 = true by assumption]; rfl), (by rw [if_pos (by assumption)]; exact hm_17), (fun j q0 => hF_19 j q0)⟩ dX10_sign_26
  · -- 10: bI (isA tb zs (run (bl tb) zs pt) c0 c0) eq
    have c_12 : isA tb zs (run (bl tb) zs pt) c0 c0 = false := bI_f (c_12)
    refine lv_iconst (v := nI 0) hx hb dX10_sign_13 (by decide) ?_
    exact e_Ni hx hb hr rfl hlocks hI ⟨(by rw [show isA tb zs (run (bl tb) zs pt) c0 c0 = false by assumption]; rfl), (by rw [if_neg (by rw [show isA tb zs (run (bl tb) zs pt) c0 c0 = false by assumption]; exact Bool.false_ne_true)]; exact hm_6), (fun j q0 => hF_9 j q0)⟩ dX10_sign_14
