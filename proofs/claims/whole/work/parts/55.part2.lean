/-- X10_readPart -/
abbrev rm_c_X10_readPart : Room := { frames := 5, cells := 0, slots := 0, locals := 108 }
set_option maxHeartbeats 4000000 in
set_option maxRecDepth 100000 in
theorem c_X10_readPart (l : Launch) (G : GG) (z : Nat) (ad : Nat → Nat) (M : Mem) {th : Nat} {ln : Nat} {on : Nat} {ao : Nat} {vr : Nat} {sn : Nat} {tp : Nat} {pt : Nat} {zs : Nat} {bg : Nat} {fa : Int32} {f : Nat → Int32} {tb : Nat → Nat} {ap : Nat → Nat} {pr : Nat → Int32} {pf : Nat → Int32} {nt : Nat → Bool} {i : Nat} (h60 : M 60 = some (cModel ad th ln on ao vr sn tp pt zs bg fa)) (h80 : M 80 = some (aB G 400 f)) (h77 : M 77 = some (aI G 12 (nF ap))) (h78 : M 78 = some (aI G 48 pr)) (h79 : M 79 = some (aI G 48 pf)) (h76 : M 76 = some (aZ G 12 (bF nt))) (hzs : pt ≤ zs ∧ zs ≤ 400) (htb : ∀ j, j < zs → tb j < 256) (hf : ∀ j, j < zs → f j = sB (tb j)) (hi : 6 ≤ i ∧ i < 12) (hap : ap i < 4) (hsn : sn < 8) : Met l yX10_readPart wsX10_readPart rm_c_X10_readPart (Pr G z ad M [.ref (ad 60), .int (nI i)]) (Ni G z ad (fun (r : Int32) (M' : Mem) => ∃ b2 : Bool, ∃ pt2 : Nat, ∃ bg2 : Nat, ∃ sn2 : Nat, ∃ ap2 : Nat → Nat, ∃ pr2 : Nat → Int32, ∃ pf2 : Nat → Int32, M' 60 = some (cModel ad th ln on ao vr sn2 tp pt2 zs bg2 fa) ∧ M' 77 = some (aI G 12 (nF ap2)) ∧ M' 78 = some (aI G 48 pr2) ∧ M' 79 = some (aI G 48 pf2) ∧ (∀ j : Nat, j ≠ 60 → j ≠ 77 → j ≠ 78 → j ≠ 79 → M' j = M j) ∧ (r = bI b2 ∧ pt2 ≤ zs ∧ (∀ j, j < 4 * i → pr2 j = pr j ∧ pf2 j = pf j) ∧ (b2 = false ∧ rdPart tb zs (nt i) sn pt = .inl bg2 ∧ ap2 = ap ∨ b2 = true ∧ ∃ x t, rdPart tb zs (nt i) sn pt = .inr (pt2, x, t, sn2) ∧ x < 6 ∧ t < 43 ∧ sn2 < 8 ∧ ap2 = va_up ap i (ap i + 1) ∧ pr2 = upd pr (4 * i + ap i) (nI x) ∧ pf2 = upd pf (4 * i + ap i) (tmI t))))) 0 0 (fr z) := by
  refine Met.ofW (cc := cX10_readPart) (maxL := 4) (ret := (some .boolean)) (by decide) rfl ?_
  intro p e s m args below meth c s₁ B hml hv
  obtain ⟨rfl, hv⟩ := hv
  have hI := Iv.entry hv
  have hx := B.exec
  have hb := B.bytes
  have hr := B.returns
  have hts := atoms_spec (ws := wsX10_readPart) B.pre
  have hown : s.vm.findClass RX10 = some m.cls := findClass_of_methodNamed B.named
  have hlocks := B.notSynchronized
  have i_RX10 : ∀ w ∈ u_ws RX10 TX10 38, w ∈ wsX10_readPart := fun w h => List.mem_cons_of_mem _ (iu_X10 w h)
  have f_63 := hts _ (List.mem_cons_of_mem _ (lwg_of t_1032 rfl))
  have f_66 := hts _ (List.mem_cons_of_mem _ (lwg_of t_1033 rfl))
  have f_60 := hts _ (List.mem_cons_of_mem _ (lwg_of t_1031 rfl))
  have f_69 := hts _ (List.mem_cons_of_mem _ (lwg_of t_1034 rfl))
  have f_207 := hts _ (List.mem_cons_of_mem _ (lwg_of t_1037 rfl))
  have hl := lv_entry ([.ref (ad 60), .int (nI i)]) (n := 4) (Nat.le_of_ble_eq_true rfl)
  rw [lg_entry_eq]
  generalize (lg_sl ([.ref (ad 60), .int (nI i)]) ++ List.replicate (4 - (lg_sl ([.ref (ad 60), .int (nI i)])).length) Slot.unset).toArray = ls at hl ⊢
  have hl : lv_has ls 4 [(0, .ref (ad 60)), (1, .int (nI i))] := hl
  have ple1 := ps_le (tb := tb) hzs.1
  have ple2 := ps_le (tb := tb) ple1
  have ple3 := ps_le (tb := tb) ple2
  have ple4 := ps_le (tb := tb) ple3
  refine lv_iconst (v := nI 4) hx hb dX10_readPart_0 (by decide) ?_
  refine lv_iload_n hx hb dX10_readPart_1 rfl (lv_at hl 1 rfl) ?_
  refine lv_imul hx hb dX10_readPart_2 ?_
  refine n_eq (pk_mul 4 i) ?_
  refine lv_aload_n hx hb dX10_readPart_3 rfl (lv_at hl 0 rfl) ?_
  refine h_get (C := RX10) (T := TX10) (N := 38) hx hb hts i_RX10 hown hI h60 rfl 19 (by decide) f_63 rfl rfl dX10_readPart_4 ?_
  refine lv_iload_n hx hb dX10_readPart_7 rfl (lv_at hl 1 rfl) ?_
  refine h_iald (i := i) hx hb hI h77 (by omega) (by decide) dX10_readPart_8 ?_
  refine lv_iadd hx hb dX10_readPart_9 ?_
  refine n_eq (nI_add (4 * i) (ap i)) ?_
  refine lv_istore_n (lv' := [(2, .int (nI ((4 * i) + (ap i)))), (0, .ref (ad 60)), (1, .int (nI i))]) hx hb dX10_readPart_10 rfl hl (by decide) rfl (fun ls hl => ?_)
  refine lv_aload_n hx hb dX10_readPart_11 rfl (lv_at hl 1 rfl) ?_
  refine k_Nv (va_runV (As := []) (rest := []) ⟨hx, hb, hml, hown, hts⟩ (c_X10_word l G z ad M (th := th) (ln := ln) (on := on) (ao := ao) (vr := vr) (sn := sn) (tp := tp) (pt := pt) (zs := zs) (bg := bg) (fa := fa) (f := f) (tb := tb) h60 h80 ⟨hzs.1, hzs.2⟩ htb hf) (cwV 0 hts (gV (lwg_of t_1233 rfl) (lwg_of t_1235 rfl) (lwg_of ts_32 rfl) (lwg_of t_13 rfl) (lwg_of t_1236 rfl)) rfl rfl rfl (by decide +kernel) ⟨Nat.le_of_ble_eq_true rfl, Nat.le_of_ble_eq_true rfl⟩) (hI.preV h60 rfl) rfl rfl hl.1 rfl (lv_room (Nat.le_of_ble_eq_true rfl)) dX10_readPart_12 ⟨Nat.le_of_ble_eq_true rfl, Nat.le_of_ble_eq_true rfl⟩) hI (fun M_3 H_4 locs_5 hp_2 hI => ?_)
  obtain ⟨hm_6, hF_7⟩ := hp_2
  have hm_8 : M_3 80 = some (aB G 400 f) := by rw [hF_7 80 (by omega)]; exact h80
  have hm_9 : M_3 77 = some (aI G 12 (nF ap)) := by rw [hF_7 77 (by omega)]; exact h77
  have hm_10 : M_3 78 = some (aI G 48 pr) := by rw [hF_7 78 (by omega)]; exact h78
  have hm_11 : M_3 79 = some (aI G 48 pf) := by rw [hF_7 79 (by omega)]; exact h79
  have hm_12 : M_3 76 = some (aZ G 12 (bF nt)) := by rw [hF_7 76 (by omega)]; exact h76
  have hF_13 : ∀ j : Nat, j ≠ 60 → M_3 j = M j := fun j q0 => (hF_7 j q0)
  refine lv_aload_n hx hb dX10_readPart_15 rfl (lv_at hl 1 rfl) ?_
  refine va_ldcS hx hb hown (iv_str hI (k := 0) (own := "LineStoreModel") (is := 189) (text := "\x72") rfl) dX10_readPart_16 ?_
  refine k_Ni (va_runV (As := [.ref (G.2.2.1 0)]) (rest := []) ⟨hx, hb, hml, hown, hts⟩ (c_X10_isWord l G z ad M_3 (th := th) (ln := ln) (on := on) (ao := ao) (vr := vr) (sn := sn) (tp := tp) (pt := run (ltr tb) zs (run (bl tb) zs pt)) (zs := zs) (bg := run (bl tb) zs pt) (fa := fa) (f := f) (tb := tb) (k := 0) hm_6 hm_8 ⟨run_le (run_le hzs.1), hzs.2⟩ htb hf (run_ge _ _ _) (by omega)) (cwV 1 hts (gV (lwg_of t_1246 rfl) (lwg_of t_1248 rfl) (lwg_of ts_35 rfl) (lwg_of t_13 rfl) (lwg_of t_1249 rfl)) rfl rfl rfl (by decide +kernel) ⟨Nat.le_of_ble_eq_true rfl, Nat.le_of_ble_eq_true rfl⟩) (hI.preV hm_6 rfl) rfl rfl hl.1 rfl (lv_room (Nat.le_of_ble_eq_true rfl)) dX10_readPart_18 ⟨Nat.le_of_ble_eq_true rfl, Nat.le_of_ble_eq_true rfl⟩) hI (fun r_14 M_16 H_17 locs_18 hp_15 hI => ?_)
  obtain ⟨hr_19, hF_20⟩ := hp_15
  have hm_21 : M_16 60 = some (cModel ad th ln on ao vr sn tp (run (ltr tb) zs (run (bl tb) zs pt)) zs (run (bl tb) zs pt) fa) := by rw [hF_20 60 ]; exact hm_6
  have hm_22 : M_16 80 = some (aB G 400 f) := by rw [hF_20 80 ]; exact hm_8
  have hm_23 : M_16 77 = some (aI G 12 (nF ap)) := by rw [hF_20 77 ]; exact hm_9
  have hm_24 : M_16 78 = some (aI G 48 pr) := by rw [hF_20 78 ]; exact hm_10
  have hm_25 : M_16 79 = some (aI G 48 pf) := by rw [hF_20 79 ]; exact hm_11
  have hm_26 : M_16 76 = some (aZ G 12 (bF nt)) := by rw [hF_20 76 ]; exact hm_12
  have hF_27 : ∀ j : Nat, j ≠ 60 → M_16 j = M j := fun j q0 => (hF_20 j).trans (hF_13 j q0)
  rw [hr_19]
  refine lv_if_ne (tgt := 26) hx hb dX10_readPart_21 (by decide) (fun c_28 => ?_) (fun c_28 => ?_)
  · -- 21: bI (isW tb (run (bl tb) zs pt) (run (ltr tb) zs (run (bl tb) ne
    have c_28 : isW tb (run (bl tb) zs pt) (run (ltr tb) zs (run (bl tb) zs pt)) 0 = true := bI_t (c_28)
    obtain ⟨k114, e_k114⟩ := tW_y (k := 0) (c := 114) (p := pt) htb rfl rfl (by decide) (by assumption)
    rw [e_k114] at hm_21
    refine lv_aload_n hx hb dX10_readPart_26 rfl (lv_at hl 1 rfl) ?_
    refine h_get (C := RX10) (T := TX10) (N := 38) hx hb hts i_RX10 hown hI hm_21 rfl 20 (by decide) f_66 rfl rfl dX10_readPart_27 ?_
    refine lv_iload_n hx hb dX10_readPart_30 rfl (lv_at hl 0 rfl) ?_
    refine lv_aload_n hx hb dX10_readPart_31 rfl (lv_at hl 1 rfl) ?_
    refine lv_iconst (v := nI 5) hx hb dX10_readPart_32 (by decide) ?_
    refine k_Ni (va_runV (As := [.int (nI 5)]) (rest := [.int (nI ((4 * i) + (ap i))), .ref (ad 78)]) ⟨hx, hb, hml, hown, hts⟩ (c_X10_number l G z ad M_16 (th := th) (ln := ln) (on := on) (ao := ao) (vr := vr) (sn := sn) (tp := tp) (pt := ps tb zs pt) (zs := zs) (bg := run (bl tb) zs pt) (fa := fa) (f := f) (tb := tb) (hi := 5) hm_21 hm_22 ⟨ple1, hzs.2⟩ htb hf (by omega)) (cwV 1 hts (gV (lwg_of t_1297 rfl) (lwg_of t_1299 rfl) (lwg_of ts_36 rfl) (lwg_of t_13 rfl) (lwg_of t_1300 rfl)) rfl rfl rfl (by decide +kernel) ⟨Nat.le_of_ble_eq_true rfl, Nat.le_of_ble_eq_true rfl⟩) (hI.preV hm_21 rfl) rfl rfl hl.1 rfl (lv_room (Nat.le_of_ble_eq_true rfl)) dX10_readPart_33 ⟨Nat.le_of_ble_eq_true rfl, Nat.le_of_ble_eq_true rfl⟩) hI (fun r_29 M_31 H_32 locs_33 hp_30 hI => ?_)
    obtain ⟨hr_34, hm_35, hF_36⟩ := hp_30
    have hm_37 : M_31 80 = some (aB G 400 f) := by rw [hF_36 80 (by omega)]; exact hm_22
    have hm_38 : M_31 77 = some (aI G 12 (nF ap)) := by rw [hF_36 77 (by omega)]; exact hm_23
    have hm_39 : M_31 78 = some (aI G 48 pr) := by rw [hF_36 78 (by omega)]; exact hm_24
    have hm_40 : M_31 79 = some (aI G 48 pf) := by rw [hF_36 79 (by omega)]; exact hm_25
    have hm_41 : M_31 76 = some (aZ G 12 (bF nt)) := by rw [hF_36 76 (by omega)]; exact hm_26
    have hF_42 : ∀ j : Nat, j ≠ 60 → M_31 j = M j := fun j q0 => (hF_36 j q0).trans (hF_27 j q0)
    rw [hr_34]
    refine h_iast (i := (4 * i) + (ap i)) (x := oI (nbr tb zs (run (bl tb) zs (ps tb zs pt)) 5)) hx hb hI hm_39 (by omega) (by decide) dX10_readPart_36 (fun M_43 H_44 locs_45 eM_46 hI => ?_)
    have hm_47 : M_43 60 = some (cModel ad th ln on ao vr sn tp (run (dgt tb) zs (run (bl tb) zs (ps tb zs pt))) zs (run (bl tb) zs (ps tb zs pt)) fa) := by rw [eM_46, va_up_ne _ _ (by decide)]; exact hm_35
    have hm_48 : M_43 80 = some (aB G 400 f) := by rw [eM_46, va_up_ne _ _ (by decide)]; exact hm_37
    have hm_49 : M_43 77 = some (aI G 12 (nF ap)) := by rw [eM_46, va_up_ne _ _ (by decide)]; exact hm_38
    have hm_50 : M_43 78 = some (aI G 48 (upd pr ((4 * i) + (ap i)) (oI (nbr tb zs (run (bl tb) zs (ps tb zs pt)) 5)))) := by rw [eM_46]; exact va_up_self _ _ _
    have hm_51 : M_43 79 = some (aI G 48 pf) := by rw [eM_46, va_up_ne _ _ (by decide)]; exact hm_40
    have hm_52 : M_43 76 = some (aZ G 12 (bF nt)) := by rw [eM_46, va_up_ne _ _ (by decide)]; exact hm_41
    have hF_53 : ∀ j : Nat, j ≠ 60 → j ≠ 78 → M_43 j = M j := fun j q0 q1 => by rw [eM_46, va_up_ne _ _ q1]; exact hF_42 j q0
    by_cases hc_54 : nmb tb zs (ps tb zs pt) 6 = true
    · skip
      refine lv_aload_n hx hb dX10_readPart_37 rfl (lv_at hl 1 rfl) ?_
      refine h_get (C := RX10) (T := TX10) (N := 38) hx hb hts i_RX10 hown hI hm_47 rfl 20 (by decide) f_66 rfl rfl dX10_readPart_38 ?_
      refine lv_iload_n hx hb dX10_readPart_41 rfl (lv_at hl 0 rfl) ?_
      have hn6 := hc_54
      have hq6 := (nmb_val (bd := 6) htb (by decide) hn6).2
      refine h_iald (i := (4 * i) + (ap i)) hx hb hI hm_50 (by omega) (by decide) dX10_readPart_42 ?_
      refine n_eq (show _ = nI (nmq tb zs (ps tb zs pt)) from (up_self _ _ _).trans (congrArg oI (nb_y (bd := 6) htb (by decide) hn6).1)) ?_
      refine lv_if_ge (tgt := 48) hx hb dX10_readPart_43 (by decide) (fun c_55 => ?_) (fun c_55 => ?_)
      · -- 43: nI (nmq tb zs (ps tb zs pt)) ge
        have c_55 : 0 ≤ nmq tb zs (ps tb zs pt) := (nI_leI (a := 0) (b := nmq tb zs (ps tb zs pt)) (by omega) (by omega)).mp (c_55)
        rw [(nb_y (bd := 6) htb (by decide) hn6).2] at hm_47
        refine lv_aload_n hx hb dX10_readPart_48 rfl (lv_at hl 1 rfl) ?_
        refine k_Nv (va_runV (As := []) (rest := []) ⟨hx, hb, hml, hown, hts⟩ (c_X10_word l G z ad M_43 (th := th) (ln := ln) (on := on) (ao := ao) (vr := vr) (sn := sn) (tp := tp) (pt := ps tb zs (ps tb zs pt)) (zs := zs) (bg := run (bl tb) zs (ps tb zs pt)) (fa := fa) (f := f) (tb := tb) hm_47 hm_48 ⟨ple2, hzs.2⟩ htb hf) (cwV 0 hts (gV (lwg_of t_1233 rfl) (lwg_of t_1235 rfl) (lwg_of ts_32 rfl) (lwg_of t_13 rfl) (lwg_of t_1236 rfl)) rfl rfl rfl (by decide +kernel) ⟨Nat.le_of_ble_eq_true rfl, Nat.le_of_ble_eq_true rfl⟩) (hI.preV hm_47 rfl) rfl rfl hl.1 rfl (lv_room (Nat.le_of_ble_eq_true rfl)) dX10_readPart_49 ⟨Nat.le_of_ble_eq_true rfl, Nat.le_of_ble_eq_true rfl⟩) hI (fun M_58 H_59 locs_60 hp_57 hI => ?_)
        obtain ⟨hm_61, hF_62⟩ := hp_57
        have hm_63 : M_58 80 = some (aB G 400 f) := by rw [hF_62 80 (by omega)]; exact hm_48
        have hm_64 : M_58 77 = some (aI G 12 (nF ap)) := by rw [hF_62 77 (by omega)]; exact hm_49
        have hm_65 : M_58 78 = some (aI G 48 (upd pr ((4 * i) + (ap i)) (oI (nbr tb zs (run (bl tb) zs (ps tb zs pt)) 5)))) := by rw [hF_62 78 (by omega)]; exact hm_50
        have hm_66 : M_58 79 = some (aI G 48 pf) := by rw [hF_62 79 (by omega)]; exact hm_51
        have hm_67 : M_58 76 = some (aZ G 12 (bF nt)) := by rw [hF_62 76 (by omega)]; exact hm_52
        have hF_68 : ∀ j : Nat, j ≠ 60 → j ≠ 78 → M_58 j = M j := fun j q0 q1 => (hF_62 j q0).trans (hF_53 j q0 q1)
        refine lv_aload_n hx hb dX10_readPart_52 rfl (lv_at hl 1 rfl) ?_
        refine va_ldcS hx hb hown (iv_str hI (k := 1) (own := "LineStoreModel") (is := 199) (text := "t") rfl) dX10_readPart_53 ?_
        refine k_Ni (va_runV (As := [.ref (G.2.2.1 1)]) (rest := []) ⟨hx, hb, hml, hown, hts⟩ (c_X10_isWord l G z ad M_58 (th := th) (ln := ln) (on := on) (ao := ao) (vr := vr) (sn := sn) (tp := tp) (pt := run (ltr tb) zs (run (bl tb) zs (ps tb zs (ps tb zs pt)))) (zs := zs) (bg := run (bl tb) zs (ps tb zs (ps tb zs pt))) (fa := fa) (f := f) (tb := tb) (k := 1) hm_61 hm_63 ⟨run_le (run_le ple2), hzs.2⟩ htb hf (run_ge _ _ _) (by omega)) (cwV 1 hts (gV (lwg_of t_1246 rfl) (lwg_of t_1248 rfl) (lwg_of ts_35 rfl) (lwg_of t_13 rfl) (lwg_of t_1249 rfl)) rfl rfl rfl (by decide +kernel) ⟨Nat.le_of_ble_eq_true rfl, Nat.le_of_ble_eq_true rfl⟩) (hI.preV hm_61 rfl) rfl rfl hl.1 rfl (lv_room (Nat.le_of_ble_eq_true rfl)) dX10_readPart_55 ⟨Nat.le_of_ble_eq_true rfl, Nat.le_of_ble_eq_true rfl⟩) hI (fun r_69 M_71 H_72 locs_73 hp_70 hI => ?_)
        obtain ⟨hr_74, hF_75⟩ := hp_70
        have hm_76 : M_71 60 = some (cModel ad th ln on ao vr sn tp (run (ltr tb) zs (run (bl tb) zs (ps tb zs (ps tb zs pt)))) zs (run (bl tb) zs (ps tb zs (ps tb zs pt))) fa) := by rw [hF_75 60 ]; exact hm_61
        have hm_77 : M_71 80 = some (aB G 400 f) := by rw [hF_75 80 ]; exact hm_63
        have hm_78 : M_71 77 = some (aI G 12 (nF ap)) := by rw [hF_75 77 ]; exact hm_64
        have hm_79 : M_71 78 = some (aI G 48 (upd pr ((4 * i) + (ap i)) (oI (nbr tb zs (run (bl tb) zs (ps tb zs pt)) 5)))) := by rw [hF_75 78 ]; exact hm_65
        have hm_80 : M_71 79 = some (aI G 48 pf) := by rw [hF_75 79 ]; exact hm_66
        have hm_81 : M_71 76 = some (aZ G 12 (bF nt)) := by rw [hF_75 76 ]; exact hm_67
        have hF_82 : ∀ j : Nat, j ≠ 60 → j ≠ 78 → M_71 j = M j := fun j q0 q1 => (hF_75 j).trans (hF_68 j q0 q1)
        rw [hr_74]
        refine lv_if_eq (tgt := 84) hx hb dX10_readPart_58 (by decide) (fun c_83 => ?_) (fun c_83 => ?_)
        · -- 58: bI (isW tb (run (bl tb) zs (ps tb zs (ps tb zs pt))) (run (l eq
          have c_83 : isW tb (run (bl tb) zs (ps tb zs (ps tb zs pt))) (run (ltr tb) zs (run (bl tb) zs (ps tb zs (ps tb zs pt)))) 1 = false := bI_f (c_83)
          have kn116 := tW_n (k := 1) (c := 116) (p := ps tb zs (ps tb zs pt)) htb rfl rfl (by decide) (by assumption)
          refine lv_aload_n hx hb dX10_readPart_84 rfl (lv_at hl 1 rfl) ?_
          refine va_ldcS hx hb hown (iv_str hI (k := 2) (own := "LineStoreModel") (is := 201) (text := "a") rfl) dX10_readPart_85 ?_
          refine k_Ni (va_runV (As := [.ref (G.2.2.1 2)]) (rest := []) ⟨hx, hb, hml, hown, hts⟩ (c_X10_isWord l G z ad M_71 (th := th) (ln := ln) (on := on) (ao := ao) (vr := vr) (sn := sn) (tp := tp) (pt := run (ltr tb) zs (run (bl tb) zs (ps tb zs (ps tb zs pt)))) (zs := zs) (bg := run (bl tb) zs (ps tb zs (ps tb zs pt))) (fa := fa) (f := f) (tb := tb) (k := 2) hm_76 hm_77 ⟨run_le (run_le ple2), hzs.2⟩ htb hf (run_ge _ _ _) (by omega)) (cwV 1 hts (gV (lwg_of t_1246 rfl) (lwg_of t_1248 rfl) (lwg_of ts_35 rfl) (lwg_of t_13 rfl) (lwg_of t_1249 rfl)) rfl rfl rfl (by decide +kernel) ⟨Nat.le_of_ble_eq_true rfl, Nat.le_of_ble_eq_true rfl⟩) (hI.preV hm_76 rfl) rfl rfl hl.1 rfl (lv_room (Nat.le_of_ble_eq_true rfl)) dX10_readPart_87 ⟨Nat.le_of_ble_eq_true rfl, Nat.le_of_ble_eq_true rfl⟩) hI (fun r_84 M_86 H_87 locs_88 hp_85 hI => ?_)
          obtain ⟨hr_89, hF_90⟩ := hp_85
          have hm_91 : M_86 60 = some (cModel ad th ln on ao vr sn tp (run (ltr tb) zs (run (bl tb) zs (ps tb zs (ps tb zs pt)))) zs (run (bl tb) zs (ps tb zs (ps tb zs pt))) fa) := by rw [hF_90 60 ]; exact hm_76
          have hm_92 : M_86 80 = some (aB G 400 f) := by rw [hF_90 80 ]; exact hm_77
          have hm_93 : M_86 77 = some (aI G 12 (nF ap)) := by rw [hF_90 77 ]; exact hm_78
          have hm_94 : M_86 78 = some (aI G 48 (upd pr ((4 * i) + (ap i)) (oI (nbr tb zs (run (bl tb) zs (ps tb zs pt)) 5)))) := by rw [hF_90 78 ]; exact hm_79
          have hm_95 : M_86 79 = some (aI G 48 pf) := by rw [hF_90 79 ]; exact hm_80
          have hm_96 : M_86 76 = some (aZ G 12 (bF nt)) := by rw [hF_90 76 ]; exact hm_81
          have hF_97 : ∀ j : Nat, j ≠ 60 → j ≠ 78 → M_86 j = M j := fun j q0 q1 => (hF_90 j).trans (hF_82 j q0 q1)
          rw [hr_89]
          refine lv_if_eq (tgt := 97) hx hb dX10_readPart_90 (by decide) (fun c_98 => ?_) (fun c_98 => ?_)
          · -- 90: bI (isW tb (run (bl tb) zs (ps tb zs (ps tb zs pt))) (run (l eq
            have c_98 : isW tb (run (bl tb) zs (ps tb zs (ps tb zs pt))) (run (ltr tb) zs (run (bl tb) zs (ps tb zs (ps tb zs pt)))) 2 = false := bI_f (c_98)
            have kn97 := tW_n (k := 2) (c := 97) (p := ps tb zs (ps tb zs pt)) htb rfl rfl (by decide) (by assumption)
            refine lv_aload_n hx hb dX10_readPart_97 rfl (lv_at hl 1 rfl) ?_
            refine va_ldcS hx hb hown (iv_str hI (k := 3) (own := "LineStoreModel") (is := 203) (text := "b") rfl) dX10_readPart_98 ?_
            refine k_Ni (va_runV (As := [.ref (G.2.2.1 3)]) (rest := []) ⟨hx, hb, hml, hown, hts⟩ (c_X10_isWord l G z ad M_86 (th := th) (ln := ln) (on := on) (ao := ao) (vr := vr) (sn := sn) (tp := tp) (pt := run (ltr tb) zs (run (bl tb) zs (ps tb zs (ps tb zs pt)))) (zs := zs) (bg := run (bl tb) zs (ps tb zs (ps tb zs pt))) (fa := fa) (f := f) (tb := tb) (k := 3) hm_91 hm_92 ⟨run_le (run_le ple2), hzs.2⟩ htb hf (run_ge _ _ _) (by omega)) (cwV 1 hts (gV (lwg_of t_1246 rfl) (lwg_of t_1248 rfl) (lwg_of ts_35 rfl) (lwg_of t_13 rfl) (lwg_of t_1249 rfl)) rfl rfl rfl (by decide +kernel) ⟨Nat.le_of_ble_eq_true rfl, Nat.le_of_ble_eq_true rfl⟩) (hI.preV hm_91 rfl) rfl rfl hl.1 rfl (lv_room (Nat.le_of_ble_eq_true rfl)) dX10_readPart_100 ⟨Nat.le_of_ble_eq_true rfl, Nat.le_of_ble_eq_true rfl⟩) hI (fun r_99 M_101 H_102 locs_103 hp_100 hI => ?_)
            obtain ⟨hr_104, hF_105⟩ := hp_100
            have hm_106 : M_101 60 = some (cModel ad th ln on ao vr sn tp (run (ltr tb) zs (run (bl tb) zs (ps tb zs (ps tb zs pt)))) zs (run (bl tb) zs (ps tb zs (ps tb zs pt))) fa) := by rw [hF_105 60 ]; exact hm_91
            have hm_107 : M_101 80 = some (aB G 400 f) := by rw [hF_105 80 ]; exact hm_92
            have hm_108 : M_101 77 = some (aI G 12 (nF ap)) := by rw [hF_105 77 ]; exact hm_93
            have hm_109 : M_101 78 = some (aI G 48 (upd pr ((4 * i) + (ap i)) (oI (nbr tb zs (run (bl tb) zs (ps tb zs pt)) 5)))) := by rw [hF_105 78 ]; exact hm_94
            have hm_110 : M_101 79 = some (aI G 48 pf) := by rw [hF_105 79 ]; exact hm_95
            have hm_111 : M_101 76 = some (aZ G 12 (bF nt)) := by rw [hF_105 76 ]; exact hm_96
            have hF_112 : ∀ j : Nat, j ≠ 60 → j ≠ 78 → M_101 j = M j := fun j q0 q1 => (hF_105 j).trans (hF_97 j q0 q1)
            rw [hr_104]
            refine lv_if_eq (tgt := 110) hx hb dX10_readPart_103 (by decide) (fun c_113 => ?_) (fun c_113 => ?_)
            · -- 103: bI (isW tb (run (bl tb) zs (ps tb zs (ps tb zs pt))) (run (l eq
              have c_113 : isW tb (run (bl tb) zs (ps tb zs (ps tb zs pt))) (run (ltr tb) zs (run (bl tb) zs (ps tb zs (ps tb zs pt)))) 3 = false := bI_f (c_113)
              have kn98 := tW_n (k := 3) (c := 98) (p := ps tb zs (ps tb zs pt)) htb rfl rfl (by decide) (by assumption)
              refine lv_aload_n hx hb dX10_readPart_110 rfl (lv_at hl 1 rfl) ?_
              refine va_ldcS hx hb hown (iv_str hI (k := 4) (own := "LineStoreModel") (is := 205) (text := "c") rfl) dX10_readPart_111 ?_
              refine k_Ni (va_runV (As := [.ref (G.2.2.1 4)]) (rest := []) ⟨hx, hb, hml, hown, hts⟩ (c_X10_isWord l G z ad M_101 (th := th) (ln := ln) (on := on) (ao := ao) (vr := vr) (sn := sn) (tp := tp) (pt := run (ltr tb) zs (run (bl tb) zs (ps tb zs (ps tb zs pt)))) (zs := zs) (bg := run (bl tb) zs (ps tb zs (ps tb zs pt))) (fa := fa) (f := f) (tb := tb) (k := 4) hm_106 hm_107 ⟨run_le (run_le ple2), hzs.2⟩ htb hf (run_ge _ _ _) (by omega)) (cwV 1 hts (gV (lwg_of t_1246 rfl) (lwg_of t_1248 rfl) (lwg_of ts_35 rfl) (lwg_of t_13 rfl) (lwg_of t_1249 rfl)) rfl rfl rfl (by decide +kernel) ⟨Nat.le_of_ble_eq_true rfl, Nat.le_of_ble_eq_true rfl⟩) (hI.preV hm_106 rfl) rfl rfl hl.1 rfl (lv_room (Nat.le_of_ble_eq_true rfl)) dX10_readPart_113 ⟨Nat.le_of_ble_eq_true rfl, Nat.le_of_ble_eq_true rfl⟩) hI (fun r_114 M_116 H_117 locs_118 hp_115 hI => ?_)
              obtain ⟨hr_119, hF_120⟩ := hp_115
              have hm_121 : M_116 60 = some (cModel ad th ln on ao vr sn tp (run (ltr tb) zs (run (bl tb) zs (ps tb zs (ps tb zs pt)))) zs (run (bl tb) zs (ps tb zs (ps tb zs pt))) fa) := by rw [hF_120 60 ]; exact hm_106
              have hm_122 : M_116 80 = some (aB G 400 f) := by rw [hF_120 80 ]; exact hm_107
              have hm_123 : M_116 77 = some (aI G 12 (nF ap)) := by rw [hF_120 77 ]; exact hm_108
              have hm_124 : M_116 78 = some (aI G 48 (upd pr ((4 * i) + (ap i)) (oI (nbr tb zs (run (bl tb) zs (ps tb zs pt)) 5)))) := by rw [hF_120 78 ]; exact hm_109
              have hm_125 : M_116 79 = some (aI G 48 pf) := by rw [hF_120 79 ]; exact hm_110
              have hm_126 : M_116 76 = some (aZ G 12 (bF nt)) := by rw [hF_120 76 ]; exact hm_111
              have hF_127 : ∀ j : Nat, j ≠ 60 → j ≠ 78 → M_116 j = M j := fun j q0 q1 => (hF_120 j).trans (hF_112 j q0 q1)
              rw [hr_119]
              refine lv_if_eq (tgt := 123) hx hb dX10_readPart_116 (by decide) (fun c_128 => ?_) (fun c_128 => ?_)
              · -- 116: bI (isW tb (run (bl tb) zs (ps tb zs (ps tb zs pt))) (run (l eq
                have c_128 : isW tb (run (bl tb) zs (ps tb zs (ps tb zs pt))) (run (ltr tb) zs (run (bl tb) zs (ps tb zs (ps tb zs pt)))) 4 = false := bI_f (c_128)
                have kn99 := tW_n (k := 4) (c := 99) (p := ps tb zs (ps tb zs pt)) htb rfl rfl (by decide) (by assumption)
                refine lv_iconst (v := (-1)) hx hb dX10_readPart_123 (by decide) ?_
                refine lv_istore_n (lv' := [(3, .int (-1)), (2, .int (nI ((4 * i) + (ap i)))), (0, .ref (ad 60)), (1, .int (nI i))]) hx hb dX10_readPart_124 rfl hl (by decide) rfl (fun ls hl => ?_)
                refine lv_iload_n hx hb dX10_readPart_125 rfl (lv_at hl 0 rfl) ?_
                refine lv_if_lt (tgt := 149) hx hb dX10_readPart_126 (by decide) (fun c_129 => ?_) (fun c_129 => ?_)
                · -- 126: (-1) lt
                  refine lv_iconst (v := nI 0) hx hb dX10_readPart_149 (by decide) ?_
                  exact e_Ni hx hb hr rfl hlocks hI ⟨false, run (ltr tb) zs (run (bl tb) zs (ps tb zs (ps tb zs pt))), run (bl tb) zs (ps tb zs (ps tb zs pt)), sn, ap, upd pr ((4 * i) + (ap i)) (oI (nbr tb zs (run (bl tb) zs (ps tb zs pt)) 5)), pf, hm_121, hm_123, hm_124, hm_125, (fun j q0 q1 q2 q3 => hF_127 j q0 q2), ⟨rfl, run_le (run_le ple2), fun j hj => ⟨up_ne _ _ (by omega), rfl⟩, Or.inl ⟨rfl, (by simp only [rdPart]; rw [if_neg (Decidable.not_not.mpr k114), if_neg (by rw [hn6]; exact Bool.noConfusion), if_neg kn116, if_pos (abc_n kn97 kn98 kn99)]; try rfl), rfl⟩⟩⟩ dX10_readPart_150
                · -- 126: (-1) ge
                  exact absurd (by decide) c_129
              · -- 116: bI (isW tb (run (bl tb) zs (ps tb zs (ps tb zs pt))) (run (l ne
                have c_128 : isW tb (run (bl tb) zs (ps tb zs (ps tb zs pt))) (run (ltr tb) zs (run (bl tb) zs (ps tb zs (ps tb zs pt)))) 4 = true := bI_t (c_128)
                obtain ⟨kv, e_kv⟩ := tW_y (k := 4) (c := 97 + 2) (p := ps tb zs (ps tb zs pt)) htb rfl rfl (by decide) (by assumption)
                rw [e_kv] at hm_121
                refine lv_iconst (v := nI 2) hx hb dX10_readPart_119 (by decide) ?_
                refine lv_goto (tgt := 124) hx hb dX10_readPart_120 (by decide) ?_
                refine lv_istore_n (lv' := [(3, .int (nI 2)), (2, .int (nI ((4 * i) + (ap i)))), (0, .ref (ad 60)), (1, .int (nI i))]) hx hb dX10_readPart_124 rfl hl (by decide) rfl (fun ls hl => ?_)
                refine lv_iload_n hx hb dX10_readPart_125 rfl (lv_at hl 0 rfl) ?_
                refine lv_if_lt (tgt := 149) hx hb dX10_readPart_126 (by decide) (fun c_130 => ?_) (fun c_130 => ?_)
                · -- 126: nI 2 lt
                  exact absurd c_130 (by decide)
                · -- 126: nI 2 ge
                  refine lv_aload_n hx hb dX10_readPart_129 rfl (lv_at hl 2 rfl) ?_
                  refine h_get (C := RX10) (T := TX10) (N := 38) hx hb hts i_RX10 hown hI hm_121 rfl 18 (by decide) f_60 rfl rfl dX10_readPart_130 ?_
                  refine lv_iload_n hx hb dX10_readPart_133 rfl (lv_at hl 3 rfl) ?_
                  refine h_zald (i := i) hx hb hI hm_126 (by omega) (by decide) dX10_readPart_134 ?_
                  refine lv_if_eq (tgt := 151) hx hb dX10_readPart_135 (by decide) (fun c_131 => ?_) (fun c_131 => ?_)
                  · -- 135: bI (nt i) eq
                    have c_131 : nt i = false := bI_f (c_131)
                    refine lv_aload_n hx hb dX10_readPart_151 rfl (lv_at hl 2 rfl) ?_
                    refine h_get (C := RX10) (T := TX10) (N := 38) hx hb hts i_RX10 hown hI hm_121 rfl 21 (by decide) f_69 rfl rfl dX10_readPart_152 ?_
                    refine lv_iload_n hx hb dX10_readPart_155 rfl (lv_at hl 1 rfl) ?_
                    refine lv_iconst (v := (-1)) hx hb dX10_readPart_156 (by decide) ?_
                    refine lv_iload_n hx hb dX10_readPart_157 rfl (lv_at hl 0 rfl) ?_
                    refine lv_isub hx hb dX10_readPart_158 ?_
                    refine n_eq (show _ = tmI (40 + 2) from by decide) ?_
                    refine h_iast (i := (4 * i) + (ap i)) (x := tmI (40 + 2)) hx hb hI hm_125 (by omega) (by decide) dX10_readPart_159 (fun M_132 H_133 locs_134 eM_135 hI => ?_)
                    have hm_136 : M_132 60 = some (cModel ad th ln on ao vr sn tp (ps tb zs (ps tb zs (ps tb zs pt))) zs (run (bl tb) zs (ps tb zs (ps tb zs pt))) fa) := by rw [eM_135, va_up_ne _ _ (by decide)]; exact hm_121
                    have hm_137 : M_132 80 = some (aB G 400 f) := by rw [eM_135, va_up_ne _ _ (by decide)]; exact hm_122
                    have hm_138 : M_132 77 = some (aI G 12 (nF ap)) := by rw [eM_135, va_up_ne _ _ (by decide)]; exact hm_123
                    have hm_139 : M_132 78 = some (aI G 48 (upd pr ((4 * i) + (ap i)) (oI (nbr tb zs (run (bl tb) zs (ps tb zs pt)) 5)))) := by rw [eM_135, va_up_ne _ _ (by decide)]; exact hm_124
                    have hm_140 : M_132 79 = some (aI G 48 (upd pf ((4 * i) + (ap i)) (tmI (40 + 2)))) := by rw [eM_135]; exact va_up_self _ _ _
                    have hm_141 : M_132 76 = some (aZ G 12 (bF nt)) := by rw [eM_135, va_up_ne _ _ (by decide)]; exact hm_126
                    have hF_142 : ∀ j : Nat, j ≠ 60 → j ≠ 78 → j ≠ 79 → M_132 j = M j := fun j q0 q1 q2 => by rw [eM_135, va_up_ne _ _ q2]; exact hF_127 j q0 q1
                    refine lv_aload_n hx hb dX10_readPart_160 rfl (lv_at hl 2 rfl) ?_
                    refine h_get (C := RX10) (T := TX10) (N := 38) hx hb hts i_RX10 hown hI hm_136 rfl 18 (by decide) f_60 rfl rfl dX10_readPart_161 ?_
                    refine lv_iload_n hx hb dX10_readPart_164 rfl (lv_at hl 3 rfl) ?_
                    refine h_zald (i := i) hx hb hI hm_141 (by omega) (by decide) dX10_readPart_165 ?_
                    refine lv_if_ne (tgt := 181) hx hb dX10_readPart_166 (by decide) (fun c_143 => ?_) (fun c_143 => ?_)
                    · -- 166: bI (nt i) ne
                      have c_143 : nt i = true := bI_t (c_143)
                      exact Bool.noConfusion ((by assumption : nt i = true).symm.trans (by assumption : nt i = false))
                    · -- 166: bI (nt i) eq
                      have c_143 : nt i = false := bI_f (c_143)
                      refine lv_aload_n hx hb dX10_readPart_169 rfl (lv_at hl 2 rfl) ?_
                      refine lv_dup hx hb dX10_readPart_170 rfl ?_
                      refine h_get (C := RX10) (T := TX10) (N := 38) hx hb hts i_RX10 hown hI hm_136 rfl 24 (by decide) f_207 rfl rfl dX10_readPart_171 ?_
                      refine lv_iconst (v := nI 1) hx hb dX10_readPart_174 (by decide) ?_
                      refine lv_iload_n hx hb dX10_readPart_175 rfl (lv_at hl 0 rfl) ?_
                      refine lv_ishl hx hb dX10_readPart_176 ?_
                      refine n_eq (show _ = nI (2 ^ 2) from nI_shl1 2 (by decide)) ?_
                      refine lv_ior hx hb dX10_readPart_177 ?_
                      refine n_eq (show _ = nI (sn ||| 2 ^ 2) from nI_or _ _) ?_
                      refine h_put (C := RX10) (T := TX10) (N := 38) hx hb hts i_RX10 tyX10 tyX10_ok nmX10 hown hI hm_136 rfl 24 (by decide) f_207 rfl rfl rfl rfl (Nat.le_of_ble_eq_true rfl) dX10_readPart_178 (fun M_144 H_145 locs_146 eM_147 hI => ?_)
                      have hm_148 : M_144 60 = some (cModel ad th ln on ao vr (sn ||| 2 ^ 2) tp (ps tb zs (ps tb zs (ps tb zs pt))) zs (run (bl tb) zs (ps tb zs (ps tb zs pt))) fa) := by rw [eM_147]; exact va_up_self _ _ _
                      have hm_149 : M_144 80 = some (aB G 400 f) := by rw [eM_147, va_up_ne _ _ (by decide)]; exact hm_137
                      have hm_150 : M_144 77 = some (aI G 12 (nF ap)) := by rw [eM_147, va_up_ne _ _ (by decide)]; exact hm_138
                      have hm_151 : M_144 78 = some (aI G 48 (upd pr ((4 * i) + (ap i)) (oI (nbr tb zs (run (bl tb) zs (ps tb zs pt)) 5)))) := by rw [eM_147, va_up_ne _ _ (by decide)]; exact hm_139
                      have hm_152 : M_144 79 = some (aI G 48 (upd pf ((4 * i) + (ap i)) (tmI (40 + 2)))) := by rw [eM_147, va_up_ne _ _ (by decide)]; exact hm_140
                      have hm_153 : M_144 76 = some (aZ G 12 (bF nt)) := by rw [eM_147, va_up_ne _ _ (by decide)]; exact hm_141
                      have hF_154 : ∀ j : Nat, j ≠ 60 → j ≠ 78 → j ≠ 79 → M_144 j = M j := fun j q0 q1 q2 => by rw [eM_147, va_up_ne _ _ q0]; exact hF_142 j q0 q1 q2
                      refine lv_aload_n hx hb dX10_readPart_181 rfl (lv_at hl 2 rfl) ?_
                      refine h_get (C := RX10) (T := TX10) (N := 38) hx hb hts i_RX10 hown hI hm_148 rfl 19 (by decide) f_63 rfl rfl dX10_readPart_182 ?_
                      refine lv_iload_n hx hb dX10_readPart_185 rfl (lv_at hl 3 rfl) ?_
                      refine lv_dup2_11 hx hb dX10_readPart_186 rfl rfl ?_
                      refine h_iald (i := i) hx hb hI hm_150 (by omega) (by decide) dX10_readPart_187 ?_
                      refine lv_iconst (v := nI 1) hx hb dX10_readPart_188 (by decide) ?_
                      refine lv_iadd hx hb dX10_readPart_189 ?_
                      refine n_eq (nI_add (ap i) 1) ?_
                      refine h_iast (i := i) (x := nI ((ap i) + 1)) hx hb hI hm_150 (by omega) (by decide) dX10_readPart_190 (fun M_155 H_156 locs_157 eM_158 hI => ?_)
                      rw [upd_nF] at eM_158
                      have hm_159 : M_155 60 = some (cModel ad th ln on ao vr (sn ||| 2 ^ 2) tp (ps tb zs (ps tb zs (ps tb zs pt))) zs (run (bl tb) zs (ps tb zs (ps tb zs pt))) fa) := by rw [eM_158, va_up_ne _ _ (by decide)]; exact hm_148
                      have hm_160 : M_155 80 = some (aB G 400 f) := by rw [eM_158, va_up_ne _ _ (by decide)]; exact hm_149
                      have hm_161 : M_155 77 = some (aI G 12 (nF (va_up ap i ((ap i) + 1)))) := by rw [eM_158]; exact va_up_self _ _ _
                      have hm_162 : M_155 78 = some (aI G 48 (upd pr ((4 * i) + (ap i)) (oI (nbr tb zs (run (bl tb) zs (ps tb zs pt)) 5)))) := by rw [eM_158, va_up_ne _ _ (by decide)]; exact hm_151
                      have hm_163 : M_155 79 = some (aI G 48 (upd pf ((4 * i) + (ap i)) (tmI (40 + 2)))) := by rw [eM_158, va_up_ne _ _ (by decide)]; exact hm_152
                      have hm_164 : M_155 76 = some (aZ G 12 (bF nt)) := by rw [eM_158, va_up_ne _ _ (by decide)]; exact hm_153
                      have hF_165 : ∀ j : Nat, j ≠ 60 → j ≠ 78 → j ≠ 79 → j ≠ 77 → M_155 j = M j := fun j q0 q1 q2 q3 => by rw [eM_158, va_up_ne _ _ q3]; exact hF_154 j q0 q1 q2
                      refine lv_iconst (v := nI 1) hx hb dX10_readPart_191 (by decide) ?_
                      exact e_Ni hx hb hr rfl hlocks hI ⟨true, ps tb zs (ps tb zs (ps tb zs pt)), run (bl tb) zs (ps tb zs (ps tb zs pt)), sn ||| 2 ^ 2, (va_up ap i ((ap i) + 1)), upd pr ((4 * i) + (ap i)) (oI (nbr tb zs (run (bl tb) zs (ps tb zs pt)) 5)), upd pf ((4 * i) + (ap i)) (tmI (40 + 2)), hm_159, hm_161, hm_162, hm_163, (fun j q0 q1 q2 q3 => hF_165 j q0 q2 q3 q1), ⟨rfl, ple3, fun j hj => ⟨up_ne _ _ (by omega), up_ne _ _ (by omega)⟩, Or.inr ⟨rfl, nmq tb zs (ps tb zs pt), 40 + 2, (by simp only [rdPart]; rw [if_neg (Decidable.not_not.mpr k114), if_neg (by rw [hn6]; exact Bool.noConfusion), if_neg (by rw [kv]; exact (abc_y 2 (by decide)).2.2), kv, if_neg (abc_y 2 (by decide)).1, (abc_y 2 (by decide)).2.1, if_neg (fun h9 => Bool.noConfusion (h9.1.symm.trans (by assumption : nt i = false)))]; try rfl), hq6, by decide, (bit3 sn hsn 2 (by decide)).2, rfl, by rw [(nb_y (bd := 6) htb (by decide) hn6).1]; rfl, rfl⟩⟩⟩ dX10_readPart_192
                  · -- 135: bI (nt i) ne
                    have c_131 : nt i = true := bI_t (c_131)
                    refine lv_aload_n hx hb dX10_readPart_138 rfl (lv_at hl 2 rfl) ?_
                    refine h_get (C := RX10) (T := TX10) (N := 38) hx hb hts i_RX10 hown hI hm_121 rfl 24 (by decide) f_207 rfl rfl dX10_readPart_139 ?_
                    refine lv_iload_n hx hb dX10_readPart_142 rfl (lv_at hl 0 rfl) ?_
                    refine lv_ishr hx hb dX10_readPart_143 ?_
                    refine lv_iconst (v := nI 1) hx hb dX10_readPart_144 (by decide) ?_
                    refine lv_iand hx hb dX10_readPart_145 ?_
                    refine n_eq (show _ = bI (sn.testBit 2) from shr3 sn hsn 2 (by decide)) ?_
                    refine lv_if_ne (tgt := 151) hx hb dX10_readPart_146 (by decide) (fun c_166 => ?_) (fun c_166 => ?_)
                    · -- 146: bI (sn.testBit 2) ne
                      have c_166 : sn.testBit 2 = true := bI_t (c_166)
                      refine lv_aload_n hx hb dX10_readPart_151 rfl (lv_at hl 2 rfl) ?_
                      refine h_get (C := RX10) (T := TX10) (N := 38) hx hb hts i_RX10 hown hI hm_121 rfl 21 (by decide) f_69 rfl rfl dX10_readPart_152 ?_
                      refine lv_iload_n hx hb dX10_readPart_155 rfl (lv_at hl 1 rfl) ?_
                      refine lv_iconst (v := (-1)) hx hb dX10_readPart_156 (by decide) ?_
                      refine lv_iload_n hx hb dX10_readPart_157 rfl (lv_at hl 0 rfl) ?_
                      refine lv_isub hx hb dX10_readPart_158 ?_
                      refine n_eq (show _ = tmI (40 + 2) from by decide) ?_
                      refine h_iast (i := (4 * i) + (ap i)) (x := tmI (40 + 2)) hx hb hI hm_125 (by omega) (by decide) dX10_readPart_159 (fun M_167 H_168 locs_169 eM_170 hI => ?_)
                      have hm_171 : M_167 60 = some (cModel ad th ln on ao vr sn tp (ps tb zs (ps tb zs (ps tb zs pt))) zs (run (bl tb) zs (ps tb zs (ps tb zs pt))) fa) := by rw [eM_170, va_up_ne _ _ (by decide)]; exact hm_121
                      have hm_172 : M_167 80 = some (aB G 400 f) := by rw [eM_170, va_up_ne _ _ (by decide)]; exact hm_122
                      have hm_173 : M_167 77 = some (aI G 12 (nF ap)) := by rw [eM_170, va_up_ne _ _ (by decide)]; exact hm_123
                      have hm_174 : M_167 78 = some (aI G 48 (upd pr ((4 * i) + (ap i)) (oI (nbr tb zs (run (bl tb) zs (ps tb zs pt)) 5)))) := by rw [eM_170, va_up_ne _ _ (by decide)]; exact hm_124
                      have hm_175 : M_167 79 = some (aI G 48 (upd pf ((4 * i) + (ap i)) (tmI (40 + 2)))) := by rw [eM_170]; exact va_up_self _ _ _
                      have hm_176 : M_167 76 = some (aZ G 12 (bF nt)) := by rw [eM_170, va_up_ne _ _ (by decide)]; exact hm_126
                      have hF_177 : ∀ j : Nat, j ≠ 60 → j ≠ 78 → j ≠ 79 → M_167 j = M j := fun j q0 q1 q2 => by rw [eM_170, va_up_ne _ _ q2]; exact hF_127 j q0 q1
                      refine lv_aload_n hx hb dX10_readPart_160 rfl (lv_at hl 2 rfl) ?_
                      refine h_get (C := RX10) (T := TX10) (N := 38) hx hb hts i_RX10 hown hI hm_171 rfl 18 (by decide) f_60 rfl rfl dX10_readPart_161 ?_
                      refine lv_iload_n hx hb dX10_readPart_164 rfl (lv_at hl 3 rfl) ?_
                      refine h_zald (i := i) hx hb hI hm_176 (by omega) (by decide) dX10_readPart_165 ?_
                      refine lv_if_ne (tgt := 181) hx hb dX10_readPart_166 (by decide) (fun c_178 => ?_) (fun c_178 => ?_)
                      · -- 166: bI (nt i) ne
                        have c_178 : nt i = true := bI_t (c_178)
                        refine lv_aload_n hx hb dX10_readPart_181 rfl (lv_at hl 2 rfl) ?_
                        refine h_get (C := RX10) (T := TX10) (N := 38) hx hb hts i_RX10 hown hI hm_171 rfl 19 (by decide) f_63 rfl rfl dX10_readPart_182 ?_
                        refine lv_iload_n hx hb dX10_readPart_185 rfl (lv_at hl 3 rfl) ?_
                        refine lv_dup2_11 hx hb dX10_readPart_186 rfl rfl ?_
                        refine h_iald (i := i) hx hb hI hm_173 (by omega) (by decide) dX10_readPart_187 ?_
                        refine lv_iconst (v := nI 1) hx hb dX10_readPart_188 (by decide) ?_
                        refine lv_iadd hx hb dX10_readPart_189 ?_
                        refine n_eq (nI_add (ap i) 1) ?_
                        refine h_iast (i := i) (x := nI ((ap i) + 1)) hx hb hI hm_173 (by omega) (by decide) dX10_readPart_190 (fun M_179 H_180 locs_181 eM_182 hI => ?_)
                        rw [upd_nF] at eM_182
                        have hm_183 : M_179 60 = some (cModel ad th ln on ao vr sn tp (ps tb zs (ps tb zs (ps tb zs pt))) zs (run (bl tb) zs (ps tb zs (ps tb zs pt))) fa) := by rw [eM_182, va_up_ne _ _ (by decide)]; exact hm_171
                        have hm_184 : M_179 80 = some (aB G 400 f) := by rw [eM_182, va_up_ne _ _ (by decide)]; exact hm_172
                        have hm_185 : M_179 77 = some (aI G 12 (nF (va_up ap i ((ap i) + 1)))) := by rw [eM_182]; exact va_up_self _ _ _
                        have hm_186 : M_179 78 = some (aI G 48 (upd pr ((4 * i) + (ap i)) (oI (nbr tb zs (run (bl tb) zs (ps tb zs pt)) 5)))) := by rw [eM_182, va_up_ne _ _ (by decide)]; exact hm_174
                        have hm_187 : M_179 79 = some (aI G 48 (upd pf ((4 * i) + (ap i)) (tmI (40 + 2)))) := by rw [eM_182, va_up_ne _ _ (by decide)]; exact hm_175
                        have hm_188 : M_179 76 = some (aZ G 12 (bF nt)) := by rw [eM_182, va_up_ne _ _ (by decide)]; exact hm_176
                        have hF_189 : ∀ j : Nat, j ≠ 60 → j ≠ 78 → j ≠ 79 → j ≠ 77 → M_179 j = M j := fun j q0 q1 q2 q3 => by rw [eM_182, va_up_ne _ _ q3]; exact hF_177 j q0 q1 q2
                        refine lv_iconst (v := nI 1) hx hb dX10_readPart_191 (by decide) ?_
                        exact e_Ni hx hb hr rfl hlocks hI ⟨true, ps tb zs (ps tb zs (ps tb zs pt)), run (bl tb) zs (ps tb zs (ps tb zs pt)), sn, (va_up ap i ((ap i) + 1)), upd pr ((4 * i) + (ap i)) (oI (nbr tb zs (run (bl tb) zs (ps tb zs pt)) 5)), upd pf ((4 * i) + (ap i)) (tmI (40 + 2)), hm_183, hm_185, hm_186, hm_187, (fun j q0 q1 q2 q3 => hF_189 j q0 q2 q3 q1), ⟨rfl, ple3, fun j hj => ⟨up_ne _ _ (by omega), up_ne _ _ (by omega)⟩, Or.inr ⟨rfl, nmq tb zs (ps tb zs pt), 40 + 2, (by simp only [rdPart]; rw [if_neg (Decidable.not_not.mpr k114), if_neg (by rw [hn6]; exact Bool.noConfusion), if_neg (by rw [kv]; exact (abc_y 2 (by decide)).2.2), kv, if_neg (abc_y 2 (by decide)).1, (abc_y 2 (by decide)).2.1, if_neg (fun h9 => Bool.noConfusion ((by assumption : sn.testBit 2 = true).symm.trans h9.2))]; rw [bit_or sn hsn 2 (by decide) (by assumption)]; try rfl), hq6, by decide, hsn, rfl, by rw [(nb_y (bd := 6) htb (by decide) hn6).1]; rfl, rfl⟩⟩⟩ dX10_readPart_192
                      · -- 166: bI (nt i) eq
                        have c_178 : nt i = false := bI_f (c_178)
                        exact Bool.noConfusion ((by assumption : nt i = true).symm.trans (by assumption : nt i = false))
                    · -- 146: bI (sn.testBit 2) eq
                      have c_166 : sn.testBit 2 = false := bI_f (c_166)
                      refine lv_iconst (v := nI 0) hx hb dX10_readPart_149 (by decide) ?_
                      exact e_Ni hx hb hr rfl hlocks hI ⟨false, ps tb zs (ps tb zs (ps tb zs pt)), run (bl tb) zs (ps tb zs (ps tb zs pt)), sn, ap, upd pr ((4 * i) + (ap i)) (oI (nbr tb zs (run (bl tb) zs (ps tb zs pt)) 5)), pf, hm_121, hm_123, hm_124, hm_125, (fun j q0 q1 q2 q3 => hF_127 j q0 q2), ⟨rfl, ple3, fun j hj => ⟨up_ne _ _ (by omega), rfl⟩, Or.inl ⟨rfl, (by simp only [rdPart]; rw [if_neg (Decidable.not_not.mpr k114), if_neg (by rw [hn6]; exact Bool.noConfusion), if_neg (by rw [kv]; exact (abc_y 2 (by decide)).2.2), kv, if_neg (abc_y 2 (by decide)).1, (abc_y 2 (by decide)).2.1, if_pos ⟨by assumption, by assumption⟩]; try rfl), rfl⟩⟩⟩ dX10_readPart_150
            · -- 103: bI (isW tb (run (bl tb) zs (ps tb zs (ps tb zs pt))) (run (l ne
              have c_113 : isW tb (run (bl tb) zs (ps tb zs (ps tb zs pt))) (run (ltr tb) zs (run (bl tb) zs (ps tb zs (ps tb zs pt)))) 3 = true := bI_t (c_113)
              obtain ⟨kv, e_kv⟩ := tW_y (k := 3) (c := 97 + 1) (p := ps tb zs (ps tb zs pt)) htb rfl rfl (by decide) (by assumption)
              rw [e_kv] at hm_106
              refine lv_iconst (v := nI 1) hx hb dX10_readPart_106 (by decide) ?_
              refine lv_goto (tgt := 124) hx hb dX10_readPart_107 (by decide) ?_
              refine lv_istore_n (lv' := [(3, .int (nI 1)), (2, .int (nI ((4 * i) + (ap i)))), (0, .ref (ad 60)), (1, .int (nI i))]) hx hb dX10_readPart_124 rfl hl (by decide) rfl (fun ls hl => ?_)
              refine lv_iload_n hx hb dX10_readPart_125 rfl (lv_at hl 0 rfl) ?_
              refine lv_if_lt (tgt := 149) hx hb dX10_readPart_126 (by decide) (fun c_190 => ?_) (fun c_190 => ?_)
              · -- 126: nI 1 lt
                exact absurd c_190 (by decide)
              · -- 126: nI 1 ge
                refine lv_aload_n hx hb dX10_readPart_129 rfl (lv_at hl 2 rfl) ?_
                refine h_get (C := RX10) (T := TX10) (N := 38) hx hb hts i_RX10 hown hI hm_106 rfl 18 (by decide) f_60 rfl rfl dX10_readPart_130 ?_
                refine lv_iload_n hx hb dX10_readPart_133 rfl (lv_at hl 3 rfl) ?_
                refine h_zald (i := i) hx hb hI hm_111 (by omega) (by decide) dX10_readPart_134 ?_
                refine lv_if_eq (tgt := 151) hx hb dX10_readPart_135 (by decide) (fun c_191 => ?_) (fun c_191 => ?_)
                · -- 135: bI (nt i) eq
                  have c_191 : nt i = false := bI_f (c_191)
                  refine lv_aload_n hx hb dX10_readPart_151 rfl (lv_at hl 2 rfl) ?_
                  refine h_get (C := RX10) (T := TX10) (N := 38) hx hb hts i_RX10 hown hI hm_106 rfl 21 (by decide) f_69 rfl rfl dX10_readPart_152 ?_
                  refine lv_iload_n hx hb dX10_readPart_155 rfl (lv_at hl 1 rfl) ?_
                  refine lv_iconst (v := (-1)) hx hb dX10_readPart_156 (by decide) ?_
                  refine lv_iload_n hx hb dX10_readPart_157 rfl (lv_at hl 0 rfl) ?_
                  refine lv_isub hx hb dX10_readPart_158 ?_
                  refine n_eq (show _ = tmI (40 + 1) from by decide) ?_
                  refine h_iast (i := (4 * i) + (ap i)) (x := tmI (40 + 1)) hx hb hI hm_110 (by omega) (by decide) dX10_readPart_159 (fun M_192 H_193 locs_194 eM_195 hI => ?_)
                  have hm_196 : M_192 60 = some (cModel ad th ln on ao vr sn tp (ps tb zs (ps tb zs (ps tb zs pt))) zs (run (bl tb) zs (ps tb zs (ps tb zs pt))) fa) := by rw [eM_195, va_up_ne _ _ (by decide)]; exact hm_106
                  have hm_197 : M_192 80 = some (aB G 400 f) := by rw [eM_195, va_up_ne _ _ (by decide)]; exact hm_107
                  have hm_198 : M_192 77 = some (aI G 12 (nF ap)) := by rw [eM_195, va_up_ne _ _ (by decide)]; exact hm_108
                  have hm_199 : M_192 78 = some (aI G 48 (upd pr ((4 * i) + (ap i)) (oI (nbr tb zs (run (bl tb) zs (ps tb zs pt)) 5)))) := by rw [eM_195, va_up_ne _ _ (by decide)]; exact hm_109
                  have hm_200 : M_192 79 = some (aI G 48 (upd pf ((4 * i) + (ap i)) (tmI (40 + 1)))) := by rw [eM_195]; exact va_up_self _ _ _
                  have hm_201 : M_192 76 = some (aZ G 12 (bF nt)) := by rw [eM_195, va_up_ne _ _ (by decide)]; exact hm_111
                  have hF_202 : ∀ j : Nat, j ≠ 60 → j ≠ 78 → j ≠ 79 → M_192 j = M j := fun j q0 q1 q2 => by rw [eM_195, va_up_ne _ _ q2]; exact hF_112 j q0 q1
                  refine lv_aload_n hx hb dX10_readPart_160 rfl (lv_at hl 2 rfl) ?_
                  refine h_get (C := RX10) (T := TX10) (N := 38) hx hb hts i_RX10 hown hI hm_196 rfl 18 (by decide) f_60 rfl rfl dX10_readPart_161 ?_
                  refine lv_iload_n hx hb dX10_readPart_164 rfl (lv_at hl 3 rfl) ?_
                  refine h_zald (i := i) hx hb hI hm_201 (by omega) (by decide) dX10_readPart_165 ?_
                  refine lv_if_ne (tgt := 181) hx hb dX10_readPart_166 (by decide) (fun c_203 => ?_) (fun c_203 => ?_)
                  · -- 166: bI (nt i) ne
                    have c_203 : nt i = true := bI_t (c_203)
                    exact Bool.noConfusion ((by assumption : nt i = true).symm.trans (by assumption : nt i = false))
                  · -- 166: bI (nt i) eq
                    have c_203 : nt i = false := bI_f (c_203)
                    refine lv_aload_n hx hb dX10_readPart_169 rfl (lv_at hl 2 rfl) ?_
                    refine lv_dup hx hb dX10_readPart_170 rfl ?_
                    refine h_get (C := RX10) (T := TX10) (N := 38) hx hb hts i_RX10 hown hI hm_196 rfl 24 (by decide) f_207 rfl rfl dX10_readPart_171 ?_
                    refine lv_iconst (v := nI 1) hx hb dX10_readPart_174 (by decide) ?_
                    refine lv_iload_n hx hb dX10_readPart_175 rfl (lv_at hl 0 rfl) ?_
                    refine lv_ishl hx hb dX10_readPart_176 ?_
                    refine n_eq (show _ = nI (2 ^ 1) from nI_shl1 1 (by decide)) ?_
                    refine lv_ior hx hb dX10_readPart_177 ?_
                    refine n_eq (show _ = nI (sn ||| 2 ^ 1) from nI_or _ _) ?_
                    refine h_put (C := RX10) (T := TX10) (N := 38) hx hb hts i_RX10 tyX10 tyX10_ok nmX10 hown hI hm_196 rfl 24 (by decide) f_207 rfl rfl rfl rfl (Nat.le_of_ble_eq_true rfl) dX10_readPart_178 (fun M_204 H_205 locs_206 eM_207 hI => ?_)
                    have hm_208 : M_204 60 = some (cModel ad th ln on ao vr (sn ||| 2 ^ 1) tp (ps tb zs (ps tb zs (ps tb zs pt))) zs (run (bl tb) zs (ps tb zs (ps tb zs pt))) fa) := by rw [eM_207]; exact va_up_self _ _ _
                    have hm_209 : M_204 80 = some (aB G 400 f) := by rw [eM_207, va_up_ne _ _ (by decide)]; exact hm_197
                    have hm_210 : M_204 77 = some (aI G 12 (nF ap)) := by rw [eM_207, va_up_ne _ _ (by decide)]; exact hm_198
                    have hm_211 : M_204 78 = some (aI G 48 (upd pr ((4 * i) + (ap i)) (oI (nbr tb zs (run (bl tb) zs (ps tb zs pt)) 5)))) := by rw [eM_207, va_up_ne _ _ (by decide)]; exact hm_199
                    have hm_212 : M_204 79 = some (aI G 48 (upd pf ((4 * i) + (ap i)) (tmI (40 + 1)))) := by rw [eM_207, va_up_ne _ _ (by decide)]; exact hm_200
                    have hm_213 : M_204 76 = some (aZ G 12 (bF nt)) := by rw [eM_207, va_up_ne _ _ (by decide)]; exact hm_201
                    have hF_214 : ∀ j : Nat, j ≠ 60 → j ≠ 78 → j ≠ 79 → M_204 j = M j := fun j q0 q1 q2 => by rw [eM_207, va_up_ne _ _ q0]; exact hF_202 j q0 q1 q2
                    refine lv_aload_n hx hb dX10_readPart_181 rfl (lv_at hl 2 rfl) ?_
                    refine h_get (C := RX10) (T := TX10) (N := 38) hx hb hts i_RX10 hown hI hm_208 rfl 19 (by decide) f_63 rfl rfl dX10_readPart_182 ?_
                    refine lv_iload_n hx hb dX10_readPart_185 rfl (lv_at hl 3 rfl) ?_
                    refine lv_dup2_11 hx hb dX10_readPart_186 rfl rfl ?_
                    refine h_iald (i := i) hx hb hI hm_210 (by omega) (by decide) dX10_readPart_187 ?_
                    refine lv_iconst (v := nI 1) hx hb dX10_readPart_188 (by decide) ?_
                    refine lv_iadd hx hb dX10_readPart_189 ?_
                    refine n_eq (nI_add (ap i) 1) ?_
                    refine h_iast (i := i) (x := nI ((ap i) + 1)) hx hb hI hm_210 (by omega) (by decide) dX10_readPart_190 (fun M_215 H_216 locs_217 eM_218 hI => ?_)
                    rw [upd_nF] at eM_218
                    have hm_219 : M_215 60 = some (cModel ad th ln on ao vr (sn ||| 2 ^ 1) tp (ps tb zs (ps tb zs (ps tb zs pt))) zs (run (bl tb) zs (ps tb zs (ps tb zs pt))) fa) := by rw [eM_218, va_up_ne _ _ (by decide)]; exact hm_208
                    have hm_220 : M_215 80 = some (aB G 400 f) := by rw [eM_218, va_up_ne _ _ (by decide)]; exact hm_209
                    have hm_221 : M_215 77 = some (aI G 12 (nF (va_up ap i ((ap i) + 1)))) := by rw [eM_218]; exact va_up_self _ _ _
                    have hm_222 : M_215 78 = some (aI G 48 (upd pr ((4 * i) + (ap i)) (oI (nbr tb zs (run (bl tb) zs (ps tb zs pt)) 5)))) := by rw [eM_218, va_up_ne _ _ (by decide)]; exact hm_211
                    have hm_223 : M_215 79 = some (aI G 48 (upd pf ((4 * i) + (ap i)) (tmI (40 + 1)))) := by rw [eM_218, va_up_ne _ _ (by decide)]; exact hm_212
                    have hm_224 : M_215 76 = some (aZ G 12 (bF nt)) := by rw [eM_218, va_up_ne _ _ (by decide)]; exact hm_213
                    have hF_225 : ∀ j : Nat, j ≠ 60 → j ≠ 78 → j ≠ 79 → j ≠ 77 → M_215 j = M j := fun j q0 q1 q2 q3 => by rw [eM_218, va_up_ne _ _ q3]; exact hF_214 j q0 q1 q2
                    refine lv_iconst (v := nI 1) hx hb dX10_readPart_191 (by decide) ?_
                    exact e_Ni hx hb hr rfl hlocks hI ⟨true, ps tb zs (ps tb zs (ps tb zs pt)), run (bl tb) zs (ps tb zs (ps tb zs pt)), sn ||| 2 ^ 1, (va_up ap i ((ap i) + 1)), upd pr ((4 * i) + (ap i)) (oI (nbr tb zs (run (bl tb) zs (ps tb zs pt)) 5)), upd pf ((4 * i) + (ap i)) (tmI (40 + 1)), hm_219, hm_221, hm_222, hm_223, (fun j q0 q1 q2 q3 => hF_225 j q0 q2 q3 q1), ⟨rfl, ple3, fun j hj => ⟨up_ne _ _ (by omega), up_ne _ _ (by omega)⟩, Or.inr ⟨rfl, nmq tb zs (ps tb zs pt), 40 + 1, (by simp only [rdPart]; rw [if_neg (Decidable.not_not.mpr k114), if_neg (by rw [hn6]; exact Bool.noConfusion), if_neg (by rw [kv]; exact (abc_y 1 (by decide)).2.2), kv, if_neg (abc_y 1 (by decide)).1, (abc_y 1 (by decide)).2.1, if_neg (fun h9 => Bool.noConfusion (h9.1.symm.trans (by assumption : nt i = false)))]; try rfl), hq6, by decide, (bit3 sn hsn 1 (by decide)).2, rfl, by rw [(nb_y (bd := 6) htb (by decide) hn6).1]; rfl, rfl⟩⟩⟩ dX10_readPart_192
                · -- 135: bI (nt i) ne
                  have c_191 : nt i = true := bI_t (c_191)
                  refine lv_aload_n hx hb dX10_readPart_138 rfl (lv_at hl 2 rfl) ?_
                  refine h_get (C := RX10) (T := TX10) (N := 38) hx hb hts i_RX10 hown hI hm_106 rfl 24 (by decide) f_207 rfl rfl dX10_readPart_139 ?_
                  refine lv_iload_n hx hb dX10_readPart_142 rfl (lv_at hl 0 rfl) ?_
                  refine lv_ishr hx hb dX10_readPart_143 ?_
                  refine lv_iconst (v := nI 1) hx hb dX10_readPart_144 (by decide) ?_
                  refine lv_iand hx hb dX10_readPart_145 ?_
                  refine n_eq (show _ = bI (sn.testBit 1) from shr3 sn hsn 1 (by decide)) ?_
                  refine lv_if_ne (tgt := 151) hx hb dX10_readPart_146 (by decide) (fun c_226 => ?_) (fun c_226 => ?_)
                  · -- 146: bI (sn.testBit 1) ne
                    have c_226 : sn.testBit 1 = true := bI_t (c_226)
                    refine lv_aload_n hx hb dX10_readPart_151 rfl (lv_at hl 2 rfl) ?_
                    refine h_get (C := RX10) (T := TX10) (N := 38) hx hb hts i_RX10 hown hI hm_106 rfl 21 (by decide) f_69 rfl rfl dX10_readPart_152 ?_
                    refine lv_iload_n hx hb dX10_readPart_155 rfl (lv_at hl 1 rfl) ?_
                    refine lv_iconst (v := (-1)) hx hb dX10_readPart_156 (by decide) ?_
                    refine lv_iload_n hx hb dX10_readPart_157 rfl (lv_at hl 0 rfl) ?_
                    refine lv_isub hx hb dX10_readPart_158 ?_
                    refine n_eq (show _ = tmI (40 + 1) from by decide) ?_
                    refine h_iast (i := (4 * i) + (ap i)) (x := tmI (40 + 1)) hx hb hI hm_110 (by omega) (by decide) dX10_readPart_159 (fun M_227 H_228 locs_229 eM_230 hI => ?_)
                    have hm_231 : M_227 60 = some (cModel ad th ln on ao vr sn tp (ps tb zs (ps tb zs (ps tb zs pt))) zs (run (bl tb) zs (ps tb zs (ps tb zs pt))) fa) := by rw [eM_230, va_up_ne _ _ (by decide)]; exact hm_106
                    have hm_232 : M_227 80 = some (aB G 400 f) := by rw [eM_230, va_up_ne _ _ (by decide)]; exact hm_107
                    have hm_233 : M_227 77 = some (aI G 12 (nF ap)) := by rw [eM_230, va_up_ne _ _ (by decide)]; exact hm_108
                    have hm_234 : M_227 78 = some (aI G 48 (upd pr ((4 * i) + (ap i)) (oI (nbr tb zs (run (bl tb) zs (ps tb zs pt)) 5)))) := by rw [eM_230, va_up_ne _ _ (by decide)]; exact hm_109
                    have hm_235 : M_227 79 = some (aI G 48 (upd pf ((4 * i) + (ap i)) (tmI (40 + 1)))) := by rw [eM_230]; exact va_up_self _ _ _
                    have hm_236 : M_227 76 = some (aZ G 12 (bF nt)) := by rw [eM_230, va_up_ne _ _ (by decide)]; exact hm_111
                    have hF_237 : ∀ j : Nat, j ≠ 60 → j ≠ 78 → j ≠ 79 → M_227 j = M j := fun j q0 q1 q2 => by rw [eM_230, va_up_ne _ _ q2]; exact hF_112 j q0 q1
                    refine lv_aload_n hx hb dX10_readPart_160 rfl (lv_at hl 2 rfl) ?_
                    refine h_get (C := RX10) (T := TX10) (N := 38) hx hb hts i_RX10 hown hI hm_231 rfl 18 (by decide) f_60 rfl rfl dX10_readPart_161 ?_
                    refine lv_iload_n hx hb dX10_readPart_164 rfl (lv_at hl 3 rfl) ?_
                    refine h_zald (i := i) hx hb hI hm_236 (by omega) (by decide) dX10_readPart_165 ?_
                    refine lv_if_ne (tgt := 181) hx hb dX10_readPart_166 (by decide) (fun c_238 => ?_) (fun c_238 => ?_)
                    · -- 166: bI (nt i) ne
                      have c_238 : nt i = true := bI_t (c_238)
                      refine lv_aload_n hx hb dX10_readPart_181 rfl (lv_at hl 2 rfl) ?_
                      refine h_get (C := RX10) (T := TX10) (N := 38) hx hb hts i_RX10 hown hI hm_231 rfl 19 (by decide) f_63 rfl rfl dX10_readPart_182 ?_
                      refine lv_iload_n hx hb dX10_readPart_185 rfl (lv_at hl 3 rfl) ?_
                      refine lv_dup2_11 hx hb dX10_readPart_186 rfl rfl ?_
                      refine h_iald (i := i) hx hb hI hm_233 (by omega) (by decide) dX10_readPart_187 ?_
                      refine lv_iconst (v := nI 1) hx hb dX10_readPart_188 (by decide) ?_
                      refine lv_iadd hx hb dX10_readPart_189 ?_
                      refine n_eq (nI_add (ap i) 1) ?_
                      refine h_iast (i := i) (x := nI ((ap i) + 1)) hx hb hI hm_233 (by omega) (by decide) dX10_readPart_190 (fun M_239 H_240 locs_241 eM_242 hI => ?_)
                      rw [upd_nF] at eM_242
                      have hm_243 : M_239 60 = some (cModel ad th ln on ao vr sn tp (ps tb zs (ps tb zs (ps tb zs pt))) zs (run (bl tb) zs (ps tb zs (ps tb zs pt))) fa) := by rw [eM_242, va_up_ne _ _ (by decide)]; exact hm_231
                      have hm_244 : M_239 80 = some (aB G 400 f) := by rw [eM_242, va_up_ne _ _ (by decide)]; exact hm_232
                      have hm_245 : M_239 77 = some (aI G 12 (nF (va_up ap i ((ap i) + 1)))) := by rw [eM_242]; exact va_up_self _ _ _
                      have hm_246 : M_239 78 = some (aI G 48 (upd pr ((4 * i) + (ap i)) (oI (nbr tb zs (run (bl tb) zs (ps tb zs pt)) 5)))) := by rw [eM_242, va_up_ne _ _ (by decide)]; exact hm_234
                      have hm_247 : M_239 79 = some (aI G 48 (upd pf ((4 * i) + (ap i)) (tmI (40 + 1)))) := by rw [eM_242, va_up_ne _ _ (by decide)]; exact hm_235
                      have hm_248 : M_239 76 = some (aZ G 12 (bF nt)) := by rw [eM_242, va_up_ne _ _ (by decide)]; exact hm_236
                      have hF_249 : ∀ j : Nat, j ≠ 60 → j ≠ 78 → j ≠ 79 → j ≠ 77 → M_239 j = M j := fun j q0 q1 q2 q3 => by rw [eM_242, va_up_ne _ _ q3]; exact hF_237 j q0 q1 q2
                      refine lv_iconst (v := nI 1) hx hb dX10_readPart_191 (by decide) ?_
                      exact e_Ni hx hb hr rfl hlocks hI ⟨true, ps tb zs (ps tb zs (ps tb zs pt)), run (bl tb) zs (ps tb zs (ps tb zs pt)), sn, (va_up ap i ((ap i) + 1)), upd pr ((4 * i) + (ap i)) (oI (nbr tb zs (run (bl tb) zs (ps tb zs pt)) 5)), upd pf ((4 * i) + (ap i)) (tmI (40 + 1)), hm_243, hm_245, hm_246, hm_247, (fun j q0 q1 q2 q3 => hF_249 j q0 q2 q3 q1), ⟨rfl, ple3, fun j hj => ⟨up_ne _ _ (by omega), up_ne _ _ (by omega)⟩, Or.inr ⟨rfl, nmq tb zs (ps tb zs pt), 40 + 1, (by simp only [rdPart]; rw [if_neg (Decidable.not_not.mpr k114), if_neg (by rw [hn6]; exact Bool.noConfusion), if_neg (by rw [kv]; exact (abc_y 1 (by decide)).2.2), kv, if_neg (abc_y 1 (by decide)).1, (abc_y 1 (by decide)).2.1, if_neg (fun h9 => Bool.noConfusion ((by assumption : sn.testBit 1 = true).symm.trans h9.2))]; rw [bit_or sn hsn 1 (by decide) (by assumption)]; try rfl), hq6, by decide, hsn, rfl, by rw [(nb_y (bd := 6) htb (by decide) hn6).1]; rfl, rfl⟩⟩⟩ dX10_readPart_192
                    · -- 166: bI (nt i) eq
                      have c_238 : nt i = false := bI_f (c_238)
                      exact Bool.noConfusion ((by assumption : nt i = true).symm.trans (by assumption : nt i = false))
                  · -- 146: bI (sn.testBit 1) eq
                    have c_226 : sn.testBit 1 = false := bI_f (c_226)
                    refine lv_iconst (v := nI 0) hx hb dX10_readPart_149 (by decide) ?_
                    exact e_Ni hx hb hr rfl hlocks hI ⟨false, ps tb zs (ps tb zs (ps tb zs pt)), run (bl tb) zs (ps tb zs (ps tb zs pt)), sn, ap, upd pr ((4 * i) + (ap i)) (oI (nbr tb zs (run (bl tb) zs (ps tb zs pt)) 5)), pf, hm_106, hm_108, hm_109, hm_110, (fun j q0 q1 q2 q3 => hF_112 j q0 q2), ⟨rfl, ple3, fun j hj => ⟨up_ne _ _ (by omega), rfl⟩, Or.inl ⟨rfl, (by simp only [rdPart]; rw [if_neg (Decidable.not_not.mpr k114), if_neg (by rw [hn6]; exact Bool.noConfusion), if_neg (by rw [kv]; exact (abc_y 1 (by decide)).2.2), kv, if_neg (abc_y 1 (by decide)).1, (abc_y 1 (by decide)).2.1, if_pos ⟨by assumption, by assumption⟩]; try rfl), rfl⟩⟩⟩ dX10_readPart_150
          · -- 90: bI (isW tb (run (bl tb) zs (ps tb zs (ps tb zs pt))) (run (l ne
            have c_98 : isW tb (run (bl tb) zs (ps tb zs (ps tb zs pt))) (run (ltr tb) zs (run (bl tb) zs (ps tb zs (ps tb zs pt)))) 2 = true := bI_t (c_98)
            obtain ⟨kv, e_kv⟩ := tW_y (k := 2) (c := 97 + 0) (p := ps tb zs (ps tb zs pt)) htb rfl rfl (by decide) (by assumption)
            rw [e_kv] at hm_91
            refine lv_iconst (v := nI 0) hx hb dX10_readPart_93 (by decide) ?_
            refine lv_goto (tgt := 124) hx hb dX10_readPart_94 (by decide) ?_
            refine lv_istore_n (lv' := [(3, .int (nI 0)), (2, .int (nI ((4 * i) + (ap i)))), (0, .ref (ad 60)), (1, .int (nI i))]) hx hb dX10_readPart_124 rfl hl (by decide) rfl (fun ls hl => ?_)
            refine lv_iload_n hx hb dX10_readPart_125 rfl (lv_at hl 0 rfl) ?_
            refine lv_if_lt (tgt := 149) hx hb dX10_readPart_126 (by decide) (fun c_250 => ?_) (fun c_250 => ?_)
            · -- 126: nI 0 lt
              exact absurd c_250 (by decide)
            · -- 126: nI 0 ge
              refine lv_aload_n hx hb dX10_readPart_129 rfl (lv_at hl 2 rfl) ?_
              refine h_get (C := RX10) (T := TX10) (N := 38) hx hb hts i_RX10 hown hI hm_91 rfl 18 (by decide) f_60 rfl rfl dX10_readPart_130 ?_
              refine lv_iload_n hx hb dX10_readPart_133 rfl (lv_at hl 3 rfl) ?_
              refine h_zald (i := i) hx hb hI hm_96 (by omega) (by decide) dX10_readPart_134 ?_
              refine lv_if_eq (tgt := 151) hx hb dX10_readPart_135 (by decide) (fun c_251 => ?_) (fun c_251 => ?_)
              · -- 135: bI (nt i) eq
                have c_251 : nt i = false := bI_f (c_251)
                refine lv_aload_n hx hb dX10_readPart_151 rfl (lv_at hl 2 rfl) ?_
                refine h_get (C := RX10) (T := TX10) (N := 38) hx hb hts i_RX10 hown hI hm_91 rfl 21 (by decide) f_69 rfl rfl dX10_readPart_152 ?_
                refine lv_iload_n hx hb dX10_readPart_155 rfl (lv_at hl 1 rfl) ?_
                refine lv_iconst (v := (-1)) hx hb dX10_readPart_156 (by decide) ?_
                refine lv_iload_n hx hb dX10_readPart_157 rfl (lv_at hl 0 rfl) ?_
                refine lv_isub hx hb dX10_readPart_158 ?_
                refine n_eq (show _ = tmI (40 + 0) from by decide) ?_
                refine h_iast (i := (4 * i) + (ap i)) (x := tmI (40 + 0)) hx hb hI hm_95 (by omega) (by decide) dX10_readPart_159 (fun M_252 H_253 locs_254 eM_255 hI => ?_)
                have hm_256 : M_252 60 = some (cModel ad th ln on ao vr sn tp (ps tb zs (ps tb zs (ps tb zs pt))) zs (run (bl tb) zs (ps tb zs (ps tb zs pt))) fa) := by rw [eM_255, va_up_ne _ _ (by decide)]; exact hm_91
                have hm_257 : M_252 80 = some (aB G 400 f) := by rw [eM_255, va_up_ne _ _ (by decide)]; exact hm_92
                have hm_258 : M_252 77 = some (aI G 12 (nF ap)) := by rw [eM_255, va_up_ne _ _ (by decide)]; exact hm_93
                have hm_259 : M_252 78 = some (aI G 48 (upd pr ((4 * i) + (ap i)) (oI (nbr tb zs (run (bl tb) zs (ps tb zs pt)) 5)))) := by rw [eM_255, va_up_ne _ _ (by decide)]; exact hm_94
                have hm_260 : M_252 79 = some (aI G 48 (upd pf ((4 * i) + (ap i)) (tmI (40 + 0)))) := by rw [eM_255]; exact va_up_self _ _ _
                have hm_261 : M_252 76 = some (aZ G 12 (bF nt)) := by rw [eM_255, va_up_ne _ _ (by decide)]; exact hm_96
                have hF_262 : ∀ j : Nat, j ≠ 60 → j ≠ 78 → j ≠ 79 → M_252 j = M j := fun j q0 q1 q2 => by rw [eM_255, va_up_ne _ _ q2]; exact hF_97 j q0 q1
                refine lv_aload_n hx hb dX10_readPart_160 rfl (lv_at hl 2 rfl) ?_
                refine h_get (C := RX10) (T := TX10) (N := 38) hx hb hts i_RX10 hown hI hm_256 rfl 18 (by decide) f_60 rfl rfl dX10_readPart_161 ?_
                refine lv_iload_n hx hb dX10_readPart_164 rfl (lv_at hl 3 rfl) ?_
                refine h_zald (i := i) hx hb hI hm_261 (by omega) (by decide) dX10_readPart_165 ?_
                refine lv_if_ne (tgt := 181) hx hb dX10_readPart_166 (by decide) (fun c_263 => ?_) (fun c_263 => ?_)
                · -- 166: bI (nt i) ne
                  have c_263 : nt i = true := bI_t (c_263)
                  exact Bool.noConfusion ((by assumption : nt i = true).symm.trans (by assumption : nt i = false))
                · -- 166: bI (nt i) eq
                  have c_263 : nt i = false := bI_f (c_263)
                  refine lv_aload_n hx hb dX10_readPart_169 rfl (lv_at hl 2 rfl) ?_
                  refine lv_dup hx hb dX10_readPart_170 rfl ?_
                  refine h_get (C := RX10) (T := TX10) (N := 38) hx hb hts i_RX10 hown hI hm_256 rfl 24 (by decide) f_207 rfl rfl dX10_readPart_171 ?_
                  refine lv_iconst (v := nI 1) hx hb dX10_readPart_174 (by decide) ?_
                  refine lv_iload_n hx hb dX10_readPart_175 rfl (lv_at hl 0 rfl) ?_
                  refine lv_ishl hx hb dX10_readPart_176 ?_
                  refine n_eq (show _ = nI (2 ^ 0) from nI_shl1 0 (by decide)) ?_
                  refine lv_ior hx hb dX10_readPart_177 ?_
                  refine n_eq (show _ = nI (sn ||| 2 ^ 0) from nI_or _ _) ?_
                  refine h_put (C := RX10) (T := TX10) (N := 38) hx hb hts i_RX10 tyX10 tyX10_ok nmX10 hown hI hm_256 rfl 24 (by decide) f_207 rfl rfl rfl rfl (Nat.le_of_ble_eq_true rfl) dX10_readPart_178 (fun M_264 H_265 locs_266 eM_267 hI => ?_)
                  have hm_268 : M_264 60 = some (cModel ad th ln on ao vr (sn ||| 2 ^ 0) tp (ps tb zs (ps tb zs (ps tb zs pt))) zs (run (bl tb) zs (ps tb zs (ps tb zs pt))) fa) := by rw [eM_267]; exact va_up_self _ _ _
                  have hm_269 : M_264 80 = some (aB G 400 f) := by rw [eM_267, va_up_ne _ _ (by decide)]; exact hm_257
                  have hm_270 : M_264 77 = some (aI G 12 (nF ap)) := by rw [eM_267, va_up_ne _ _ (by decide)]; exact hm_258
                  have hm_271 : M_264 78 = some (aI G 48 (upd pr ((4 * i) + (ap i)) (oI (nbr tb zs (run (bl tb) zs (ps tb zs pt)) 5)))) := by rw [eM_267, va_up_ne _ _ (by decide)]; exact hm_259
                  have hm_272 : M_264 79 = some (aI G 48 (upd pf ((4 * i) + (ap i)) (tmI (40 + 0)))) := by rw [eM_267, va_up_ne _ _ (by decide)]; exact hm_260
                  have hm_273 : M_264 76 = some (aZ G 12 (bF nt)) := by rw [eM_267, va_up_ne _ _ (by decide)]; exact hm_261
                  have hF_274 : ∀ j : Nat, j ≠ 60 → j ≠ 78 → j ≠ 79 → M_264 j = M j := fun j q0 q1 q2 => by rw [eM_267, va_up_ne _ _ q0]; exact hF_262 j q0 q1 q2
                  refine lv_aload_n hx hb dX10_readPart_181 rfl (lv_at hl 2 rfl) ?_
                  refine h_get (C := RX10) (T := TX10) (N := 38) hx hb hts i_RX10 hown hI hm_268 rfl 19 (by decide) f_63 rfl rfl dX10_readPart_182 ?_
                  refine lv_iload_n hx hb dX10_readPart_185 rfl (lv_at hl 3 rfl) ?_
                  refine lv_dup2_11 hx hb dX10_readPart_186 rfl rfl ?_
                  refine h_iald (i := i) hx hb hI hm_270 (by omega) (by decide) dX10_readPart_187 ?_
                  refine lv_iconst (v := nI 1) hx hb dX10_readPart_188 (by decide) ?_
                  refine lv_iadd hx hb dX10_readPart_189 ?_
                  refine n_eq (nI_add (ap i) 1) ?_
                  refine h_iast (i := i) (x := nI ((ap i) + 1)) hx hb hI hm_270 (by omega) (by decide) dX10_readPart_190 (fun M_275 H_276 locs_277 eM_278 hI => ?_)
                  rw [upd_nF] at eM_278
                  have hm_279 : M_275 60 = some (cModel ad th ln on ao vr (sn ||| 2 ^ 0) tp (ps tb zs (ps tb zs (ps tb zs pt))) zs (run (bl tb) zs (ps tb zs (ps tb zs pt))) fa) := by rw [eM_278, va_up_ne _ _ (by decide)]; exact hm_268
                  have hm_280 : M_275 80 = some (aB G 400 f) := by rw [eM_278, va_up_ne _ _ (by decide)]; exact hm_269
                  have hm_281 : M_275 77 = some (aI G 12 (nF (va_up ap i ((ap i) + 1)))) := by rw [eM_278]; exact va_up_self _ _ _
                  have hm_282 : M_275 78 = some (aI G 48 (upd pr ((4 * i) + (ap i)) (oI (nbr tb zs (run (bl tb) zs (ps tb zs pt)) 5)))) := by rw [eM_278, va_up_ne _ _ (by decide)]; exact hm_271
                  have hm_283 : M_275 79 = some (aI G 48 (upd pf ((4 * i) + (ap i)) (tmI (40 + 0)))) := by rw [eM_278, va_up_ne _ _ (by decide)]; exact hm_272
                  have hm_284 : M_275 76 = some (aZ G 12 (bF nt)) := by rw [eM_278, va_up_ne _ _ (by decide)]; exact hm_273
                  have hF_285 : ∀ j : Nat, j ≠ 60 → j ≠ 78 → j ≠ 79 → j ≠ 77 → M_275 j = M j := fun j q0 q1 q2 q3 => by rw [eM_278, va_up_ne _ _ q3]; exact hF_274 j q0 q1 q2
                  refine lv_iconst (v := nI 1) hx hb dX10_readPart_191 (by decide) ?_
                  exact e_Ni hx hb hr rfl hlocks hI ⟨true, ps tb zs (ps tb zs (ps tb zs pt)), run (bl tb) zs (ps tb zs (ps tb zs pt)), sn ||| 2 ^ 0, (va_up ap i ((ap i) + 1)), upd pr ((4 * i) + (ap i)) (oI (nbr tb zs (run (bl tb) zs (ps tb zs pt)) 5)), upd pf ((4 * i) + (ap i)) (tmI (40 + 0)), hm_279, hm_281, hm_282, hm_283, (fun j q0 q1 q2 q3 => hF_285 j q0 q2 q3 q1), ⟨rfl, ple3, fun j hj => ⟨up_ne _ _ (by omega), up_ne _ _ (by omega)⟩, Or.inr ⟨rfl, nmq tb zs (ps tb zs pt), 40 + 0, (by simp only [rdPart]; rw [if_neg (Decidable.not_not.mpr k114), if_neg (by rw [hn6]; exact Bool.noConfusion), if_neg (by rw [kv]; exact (abc_y 0 (by decide)).2.2), kv, if_neg (abc_y 0 (by decide)).1, (abc_y 0 (by decide)).2.1, if_neg (fun h9 => Bool.noConfusion (h9.1.symm.trans (by assumption : nt i = false)))]; try rfl), hq6, by decide, (bit3 sn hsn 0 (by decide)).2, rfl, by rw [(nb_y (bd := 6) htb (by decide) hn6).1]; rfl, rfl⟩⟩⟩ dX10_readPart_192
              · -- 135: bI (nt i) ne
                have c_251 : nt i = true := bI_t (c_251)
                refine lv_aload_n hx hb dX10_readPart_138 rfl (lv_at hl 2 rfl) ?_
                refine h_get (C := RX10) (T := TX10) (N := 38) hx hb hts i_RX10 hown hI hm_91 rfl 24 (by decide) f_207 rfl rfl dX10_readPart_139 ?_
                refine lv_iload_n hx hb dX10_readPart_142 rfl (lv_at hl 0 rfl) ?_
                refine lv_ishr hx hb dX10_readPart_143 ?_
                refine lv_iconst (v := nI 1) hx hb dX10_readPart_144 (by decide) ?_
                refine lv_iand hx hb dX10_readPart_145 ?_
                refine n_eq (show _ = bI (sn.testBit 0) from shr3 sn hsn 0 (by decide)) ?_
                refine lv_if_ne (tgt := 151) hx hb dX10_readPart_146 (by decide) (fun c_286 => ?_) (fun c_286 => ?_)
                · -- 146: bI (sn.testBit 0) ne
                  have c_286 : sn.testBit 0 = true := bI_t (c_286)
                  refine lv_aload_n hx hb dX10_readPart_151 rfl (lv_at hl 2 rfl) ?_
                  refine h_get (C := RX10) (T := TX10) (N := 38) hx hb hts i_RX10 hown hI hm_91 rfl 21 (by decide) f_69 rfl rfl dX10_readPart_152 ?_
                  refine lv_iload_n hx hb dX10_readPart_155 rfl (lv_at hl 1 rfl) ?_
                  refine lv_iconst (v := (-1)) hx hb dX10_readPart_156 (by decide) ?_
                  refine lv_iload_n hx hb dX10_readPart_157 rfl (lv_at hl 0 rfl) ?_
                  refine lv_isub hx hb dX10_readPart_158 ?_
                  refine n_eq (show _ = tmI (40 + 0) from by decide) ?_
                  refine h_iast (i := (4 * i) + (ap i)) (x := tmI (40 + 0)) hx hb hI hm_95 (by omega) (by decide) dX10_readPart_159 (fun M_287 H_288 locs_289 eM_290 hI => ?_)
                  have hm_291 : M_287 60 = some (cModel ad th ln on ao vr sn tp (ps tb zs (ps tb zs (ps tb zs pt))) zs (run (bl tb) zs (ps tb zs (ps tb zs pt))) fa) := by rw [eM_290, va_up_ne _ _ (by decide)]; exact hm_91
                  have hm_292 : M_287 80 = some (aB G 400 f) := by rw [eM_290, va_up_ne _ _ (by decide)]; exact hm_92
                  have hm_293 : M_287 77 = some (aI G 12 (nF ap)) := by rw [eM_290, va_up_ne _ _ (by decide)]; exact hm_93
                  have hm_294 : M_287 78 = some (aI G 48 (upd pr ((4 * i) + (ap i)) (oI (nbr tb zs (run (bl tb) zs (ps tb zs pt)) 5)))) := by rw [eM_290, va_up_ne _ _ (by decide)]; exact hm_94
                  have hm_295 : M_287 79 = some (aI G 48 (upd pf ((4 * i) + (ap i)) (tmI (40 + 0)))) := by rw [eM_290]; exact va_up_self _ _ _
                  have hm_296 : M_287 76 = some (aZ G 12 (bF nt)) := by rw [eM_290, va_up_ne _ _ (by decide)]; exact hm_96
                  have hF_297 : ∀ j : Nat, j ≠ 60 → j ≠ 78 → j ≠ 79 → M_287 j = M j := fun j q0 q1 q2 => by rw [eM_290, va_up_ne _ _ q2]; exact hF_97 j q0 q1
                  refine lv_aload_n hx hb dX10_readPart_160 rfl (lv_at hl 2 rfl) ?_
                  refine h_get (C := RX10) (T := TX10) (N := 38) hx hb hts i_RX10 hown hI hm_291 rfl 18 (by decide) f_60 rfl rfl dX10_readPart_161 ?_
                  refine lv_iload_n hx hb dX10_readPart_164 rfl (lv_at hl 3 rfl) ?_
                  refine h_zald (i := i) hx hb hI hm_296 (by omega) (by decide) dX10_readPart_165 ?_
                  refine lv_if_ne (tgt := 181) hx hb dX10_readPart_166 (by decide) (fun c_298 => ?_) (fun c_298 => ?_)
                  · -- 166: bI (nt i) ne
                    have c_298 : nt i = true := bI_t (c_298)
                    refine lv_aload_n hx hb dX10_readPart_181 rfl (lv_at hl 2 rfl) ?_
                    refine h_get (C := RX10) (T := TX10) (N := 38) hx hb hts i_RX10 hown hI hm_291 rfl 19 (by decide) f_63 rfl rfl dX10_readPart_182 ?_
                    refine lv_iload_n hx hb dX10_readPart_185 rfl (lv_at hl 3 rfl) ?_
                    refine lv_dup2_11 hx hb dX10_readPart_186 rfl rfl ?_
                    refine h_iald (i := i) hx hb hI hm_293 (by omega) (by decide) dX10_readPart_187 ?_
                    refine lv_iconst (v := nI 1) hx hb dX10_readPart_188 (by decide) ?_
                    refine lv_iadd hx hb dX10_readPart_189 ?_
                    refine n_eq (nI_add (ap i) 1) ?_
                    refine h_iast (i := i) (x := nI ((ap i) + 1)) hx hb hI hm_293 (by omega) (by decide) dX10_readPart_190 (fun M_299 H_300 locs_301 eM_302 hI => ?_)
                    rw [upd_nF] at eM_302
                    have hm_303 : M_299 60 = some (cModel ad th ln on ao vr sn tp (ps tb zs (ps tb zs (ps tb zs pt))) zs (run (bl tb) zs (ps tb zs (ps tb zs pt))) fa) := by rw [eM_302, va_up_ne _ _ (by decide)]; exact hm_291
                    have hm_304 : M_299 80 = some (aB G 400 f) := by rw [eM_302, va_up_ne _ _ (by decide)]; exact hm_292
                    have hm_305 : M_299 77 = some (aI G 12 (nF (va_up ap i ((ap i) + 1)))) := by rw [eM_302]; exact va_up_self _ _ _
                    have hm_306 : M_299 78 = some (aI G 48 (upd pr ((4 * i) + (ap i)) (oI (nbr tb zs (run (bl tb) zs (ps tb zs pt)) 5)))) := by rw [eM_302, va_up_ne _ _ (by decide)]; exact hm_294
                    have hm_307 : M_299 79 = some (aI G 48 (upd pf ((4 * i) + (ap i)) (tmI (40 + 0)))) := by rw [eM_302, va_up_ne _ _ (by decide)]; exact hm_295
                    have hm_308 : M_299 76 = some (aZ G 12 (bF nt)) := by rw [eM_302, va_up_ne _ _ (by decide)]; exact hm_296
                    have hF_309 : ∀ j : Nat, j ≠ 60 → j ≠ 78 → j ≠ 79 → j ≠ 77 → M_299 j = M j := fun j q0 q1 q2 q3 => by rw [eM_302, va_up_ne _ _ q3]; exact hF_297 j q0 q1 q2
                    refine lv_iconst (v := nI 1) hx hb dX10_readPart_191 (by decide) ?_
                    exact e_Ni hx hb hr rfl hlocks hI ⟨true, ps tb zs (ps tb zs (ps tb zs pt)), run (bl tb) zs (ps tb zs (ps tb zs pt)), sn, (va_up ap i ((ap i) + 1)), upd pr ((4 * i) + (ap i)) (oI (nbr tb zs (run (bl tb) zs (ps tb zs pt)) 5)), upd pf ((4 * i) + (ap i)) (tmI (40 + 0)), hm_303, hm_305, hm_306, hm_307, (fun j q0 q1 q2 q3 => hF_309 j q0 q2 q3 q1), ⟨rfl, ple3, fun j hj => ⟨up_ne _ _ (by omega), up_ne _ _ (by omega)⟩, Or.inr ⟨rfl, nmq tb zs (ps tb zs pt), 40 + 0, (by simp only [rdPart]; rw [if_neg (Decidable.not_not.mpr k114), if_neg (by rw [hn6]; exact Bool.noConfusion), if_neg (by rw [kv]; exact (abc_y 0 (by decide)).2.2), kv, if_neg (abc_y 0 (by decide)).1, (abc_y 0 (by decide)).2.1, if_neg (fun h9 => Bool.noConfusion ((by assumption : sn.testBit 0 = true).symm.trans h9.2))]; rw [bit_or sn hsn 0 (by decide) (by assumption)]; try rfl), hq6, by decide, hsn, rfl, by rw [(nb_y (bd := 6) htb (by decide) hn6).1]; rfl, rfl⟩⟩⟩ dX10_readPart_192
                  · -- 166: bI (nt i) eq
                    have c_298 : nt i = false := bI_f (c_298)
                    exact Bool.noConfusion ((by assumption : nt i = true).symm.trans (by assumption : nt i = false))
                · -- 146: bI (sn.testBit 0) eq
                  have c_286 : sn.testBit 0 = false := bI_f (c_286)
                  refine lv_iconst (v := nI 0) hx hb dX10_readPart_149 (by decide) ?_
                  exact e_Ni hx hb hr rfl hlocks hI ⟨false, ps tb zs (ps tb zs (ps tb zs pt)), run (bl tb) zs (ps tb zs (ps tb zs pt)), sn, ap, upd pr ((4 * i) + (ap i)) (oI (nbr tb zs (run (bl tb) zs (ps tb zs pt)) 5)), pf, hm_91, hm_93, hm_94, hm_95, (fun j q0 q1 q2 q3 => hF_97 j q0 q2), ⟨rfl, ple3, fun j hj => ⟨up_ne _ _ (by omega), rfl⟩, Or.inl ⟨rfl, (by simp only [rdPart]; rw [if_neg (Decidable.not_not.mpr k114), if_neg (by rw [hn6]; exact Bool.noConfusion), if_neg (by rw [kv]; exact (abc_y 0 (by decide)).2.2), kv, if_neg (abc_y 0 (by decide)).1, (abc_y 0 (by decide)).2.1, if_pos ⟨by assumption, by assumption⟩]; try rfl), rfl⟩⟩⟩ dX10_readPart_150
        · -- 58: bI (isW tb (run (bl tb) zs (ps tb zs (ps tb zs pt))) (run (l ne
          have c_83 : isW tb (run (bl tb) zs (ps tb zs (ps tb zs pt))) (run (ltr tb) zs (run (bl tb) zs (ps tb zs (ps tb zs pt)))) 1 = true := bI_t (c_83)
          obtain ⟨k116, e_k116⟩ := tW_y (k := 1) (c := 116) (p := ps tb zs (ps tb zs pt)) htb rfl rfl (by decide) (by assumption)
          rw [e_k116] at hm_76
          refine lv_aload_n hx hb dX10_readPart_61 rfl (lv_at hl 1 rfl) ?_
          refine h_get (C := RX10) (T := TX10) (N := 38) hx hb hts i_RX10 hown hI hm_76 rfl 21 (by decide) f_69 rfl rfl dX10_readPart_62 ?_
          refine lv_iload_n hx hb dX10_readPart_65 rfl (lv_at hl 0 rfl) ?_
          refine lv_aload_n hx hb dX10_readPart_66 rfl (lv_at hl 1 rfl) ?_
          refine lv_bipush (v := nI 39) hx hb dX10_readPart_67 (by decide) ?_
          refine k_Ni (va_runV (As := [.int (nI 39)]) (rest := [.int (nI ((4 * i) + (ap i))), .ref (ad 79)]) ⟨hx, hb, hml, hown, hts⟩ (c_X10_number l G z ad M_71 (th := th) (ln := ln) (on := on) (ao := ao) (vr := vr) (sn := sn) (tp := tp) (pt := ps tb zs (ps tb zs (ps tb zs pt))) (zs := zs) (bg := run (bl tb) zs (ps tb zs (ps tb zs pt))) (fa := fa) (f := f) (tb := tb) (hi := 39) hm_76 hm_77 ⟨ple3, hzs.2⟩ htb hf (by omega)) (cwV 1 hts (gV (lwg_of t_1297 rfl) (lwg_of t_1299 rfl) (lwg_of ts_36 rfl) (lwg_of t_13 rfl) (lwg_of t_1300 rfl)) rfl rfl rfl (by decide +kernel) ⟨Nat.le_of_ble_eq_true rfl, Nat.le_of_ble_eq_true rfl⟩) (hI.preV hm_76 rfl) rfl rfl hl.1 rfl (lv_room (Nat.le_of_ble_eq_true rfl)) dX10_readPart_69 ⟨Nat.le_of_ble_eq_true rfl, Nat.le_of_ble_eq_true rfl⟩) hI (fun r_310 M_312 H_313 locs_314 hp_311 hI => ?_)
          obtain ⟨hr_315, hm_316, hF_317⟩ := hp_311
          have hm_318 : M_312 80 = some (aB G 400 f) := by rw [hF_317 80 (by omega)]; exact hm_77
          have hm_319 : M_312 77 = some (aI G 12 (nF ap)) := by rw [hF_317 77 (by omega)]; exact hm_78
          have hm_320 : M_312 78 = some (aI G 48 (upd pr ((4 * i) + (ap i)) (oI (nbr tb zs (run (bl tb) zs (ps tb zs pt)) 5)))) := by rw [hF_317 78 (by omega)]; exact hm_79
          have hm_321 : M_312 79 = some (aI G 48 pf) := by rw [hF_317 79 (by omega)]; exact hm_80
          have hm_322 : M_312 76 = some (aZ G 12 (bF nt)) := by rw [hF_317 76 (by omega)]; exact hm_81
          have hF_323 : ∀ j : Nat, j ≠ 60 → j ≠ 78 → M_312 j = M j := fun j q0 q1 => (hF_317 j q0).trans (hF_82 j q0 q1)
          rw [hr_315]
          refine h_iast (i := (4 * i) + (ap i)) (x := oI (nbr tb zs (run (bl tb) zs (ps tb zs (ps tb zs (ps tb zs pt)))) 39)) hx hb hI hm_321 (by omega) (by decide) dX10_readPart_72 (fun M_324 H_325 locs_326 eM_327 hI => ?_)
          have hm_328 : M_324 60 = some (cModel ad th ln on ao vr sn tp (run (dgt tb) zs (run (bl tb) zs (ps tb zs (ps tb zs (ps tb zs pt))))) zs (run (bl tb) zs (ps tb zs (ps tb zs (ps tb zs pt)))) fa) := by rw [eM_327, va_up_ne _ _ (by decide)]; exact hm_316
          have hm_329 : M_324 80 = some (aB G 400 f) := by rw [eM_327, va_up_ne _ _ (by decide)]; exact hm_318
          have hm_330 : M_324 77 = some (aI G 12 (nF ap)) := by rw [eM_327, va_up_ne _ _ (by decide)]; exact hm_319
          have hm_331 : M_324 78 = some (aI G 48 (upd pr ((4 * i) + (ap i)) (oI (nbr tb zs (run (bl tb) zs (ps tb zs pt)) 5)))) := by rw [eM_327, va_up_ne _ _ (by decide)]; exact hm_320
          have hm_332 : M_324 79 = some (aI G 48 (upd pf ((4 * i) + (ap i)) (oI (nbr tb zs (run (bl tb) zs (ps tb zs (ps tb zs (ps tb zs pt)))) 39)))) := by rw [eM_327]; exact va_up_self _ _ _
          have hm_333 : M_324 76 = some (aZ G 12 (bF nt)) := by rw [eM_327, va_up_ne _ _ (by decide)]; exact hm_322
          have hF_334 : ∀ j : Nat, j ≠ 60 → j ≠ 78 → j ≠ 79 → M_324 j = M j := fun j q0 q1 q2 => by rw [eM_327, va_up_ne _ _ q2]; exact hF_323 j q0 q1
          by_cases hc_335 : nmb tb zs (ps tb zs (ps tb zs (ps tb zs pt))) 40 = true
          · skip
            refine lv_aload_n hx hb dX10_readPart_73 rfl (lv_at hl 1 rfl) ?_
            refine h_get (C := RX10) (T := TX10) (N := 38) hx hb hts i_RX10 hown hI hm_328 rfl 21 (by decide) f_69 rfl rfl dX10_readPart_74 ?_
            refine lv_iload_n hx hb dX10_readPart_77 rfl (lv_at hl 0 rfl) ?_
            have hn40 := hc_335
            have hq40 := (nmb_val (bd := 40) htb (by decide) hn40).2
            refine h_iald (i := (4 * i) + (ap i)) hx hb hI hm_332 (by omega) (by decide) dX10_readPart_78 ?_
            refine n_eq (show _ = nI (nmq tb zs (ps tb zs (ps tb zs (ps tb zs pt)))) from (up_self _ _ _).trans (congrArg oI (nb_y (bd := 40) htb (by decide) hn40).1)) ?_
            refine lv_if_ge (tgt := 181) hx hb dX10_readPart_79 (by decide) (fun c_336 => ?_) (fun c_336 => ?_)
            · -- 79: nI (nmq tb zs (ps tb zs (ps tb zs (ps tb zs pt)))) ge
              have c_336 : 0 ≤ nmq tb zs (ps tb zs (ps tb zs (ps tb zs pt))) := (nI_leI (a := 0) (b := nmq tb zs (ps tb zs (ps tb zs (ps tb zs pt)))) (by omega) (by omega)).mp (c_336)
              rw [(nb_y (bd := 40) htb (by decide) hn40).2] at hm_328
              refine lv_aload_n hx hb dX10_readPart_181 rfl (lv_at hl 1 rfl) ?_
              refine h_get (C := RX10) (T := TX10) (N := 38) hx hb hts i_RX10 hown hI hm_328 rfl 19 (by decide) f_63 rfl rfl dX10_readPart_182 ?_
              refine lv_iload_n hx hb dX10_readPart_185 rfl (lv_at hl 2 rfl) ?_
              refine lv_dup2_11 hx hb dX10_readPart_186 rfl rfl ?_
              refine h_iald (i := i) hx hb hI hm_330 (by omega) (by decide) dX10_readPart_187 ?_
              refine lv_iconst (v := nI 1) hx hb dX10_readPart_188 (by decide) ?_
              refine lv_iadd hx hb dX10_readPart_189 ?_
              refine n_eq (nI_add (ap i) 1) ?_
              refine h_iast (i := i) (x := nI ((ap i) + 1)) hx hb hI hm_330 (by omega) (by decide) dX10_readPart_190 (fun M_337 H_338 locs_339 eM_340 hI => ?_)
              rw [upd_nF] at eM_340
              have hm_341 : M_337 60 = some (cModel ad th ln on ao vr sn tp (ps tb zs (ps tb zs (ps tb zs (ps tb zs pt)))) zs (run (bl tb) zs (ps tb zs (ps tb zs (ps tb zs pt)))) fa) := by rw [eM_340, va_up_ne _ _ (by decide)]; exact hm_328
              have hm_342 : M_337 80 = some (aB G 400 f) := by rw [eM_340, va_up_ne _ _ (by decide)]; exact hm_329
              have hm_343 : M_337 77 = some (aI G 12 (nF (va_up ap i ((ap i) + 1)))) := by rw [eM_340]; exact va_up_self _ _ _
              have hm_344 : M_337 78 = some (aI G 48 (upd pr ((4 * i) + (ap i)) (oI (nbr tb zs (run (bl tb) zs (ps tb zs pt)) 5)))) := by rw [eM_340, va_up_ne _ _ (by decide)]; exact hm_331
              have hm_345 : M_337 79 = some (aI G 48 (upd pf ((4 * i) + (ap i)) (oI (nbr tb zs (run (bl tb) zs (ps tb zs (ps tb zs (ps tb zs pt)))) 39)))) := by rw [eM_340, va_up_ne _ _ (by decide)]; exact hm_332
              have hm_346 : M_337 76 = some (aZ G 12 (bF nt)) := by rw [eM_340, va_up_ne _ _ (by decide)]; exact hm_333
              have hF_347 : ∀ j : Nat, j ≠ 60 → j ≠ 78 → j ≠ 79 → j ≠ 77 → M_337 j = M j := fun j q0 q1 q2 q3 => by rw [eM_340, va_up_ne _ _ q3]; exact hF_334 j q0 q1 q2
              refine lv_iconst (v := nI 1) hx hb dX10_readPart_191 (by decide) ?_
              exact e_Ni hx hb hr rfl hlocks hI ⟨true, ps tb zs (ps tb zs (ps tb zs (ps tb zs pt))), run (bl tb) zs (ps tb zs (ps tb zs (ps tb zs pt))), sn, (va_up ap i ((ap i) + 1)), upd pr ((4 * i) + (ap i)) (oI (nbr tb zs (run (bl tb) zs (ps tb zs pt)) 5)), upd pf ((4 * i) + (ap i)) (oI (nbr tb zs (run (bl tb) zs (ps tb zs (ps tb zs (ps tb zs pt)))) 39)), hm_341, hm_343, hm_344, hm_345, (fun j q0 q1 q2 q3 => hF_347 j q0 q2 q3 q1), ⟨rfl, ple4, fun j hj => ⟨up_ne _ _ (by omega), up_ne _ _ (by omega)⟩, Or.inr ⟨rfl, nmq tb zs (ps tb zs pt), nmq tb zs (ps tb zs (ps tb zs (ps tb zs pt))), (by simp only [rdPart]; rw [if_neg (Decidable.not_not.mpr k114), if_neg (by rw [hn6]; exact Bool.noConfusion), if_pos k116, if_pos hn40]; try rfl), hq6, by omega, hsn, rfl, by rw [(nb_y (bd := 6) htb (by decide) hn6).1]; rfl, by rw [(nb_y (bd := 40) htb (by decide) hn40).1]; exact congrArg _ (tm_thing hq40)⟩⟩⟩ dX10_readPart_192
            · -- 79: nI (nmq tb zs (ps tb zs (ps tb zs (ps tb zs pt)))) lt
              have c_336 : nmq tb zs (ps tb zs (ps tb zs (ps tb zs pt))) < 0 := by have h := mt (nI_leI (a := 0) (b := nmq tb zs (ps tb zs (ps tb zs (ps tb zs pt)))) (by omega) (by omega)).mpr c_336; omega
              omega
          · skip
            refine lv_aload_n hx hb dX10_readPart_73 rfl (lv_at hl 1 rfl) ?_
            refine h_get (C := RX10) (T := TX10) (N := 38) hx hb hts i_RX10 hown hI hm_328 rfl 21 (by decide) f_69 rfl rfl dX10_readPart_74 ?_
            refine lv_iload_n hx hb dX10_readPart_77 rfl (lv_at hl 0 rfl) ?_
            refine h_iald (i := (4 * i) + (ap i)) hx hb hI hm_332 (by omega) (by decide) dX10_readPart_78 ?_
            refine n_eq (show _ = (-1) from (up_self _ _ _).trans (congrArg oI (nb_n (bd := 40) htb (by decide) hc_335))) ?_
            refine lv_if_ge (tgt := 181) hx hb dX10_readPart_79 (by decide) (fun c_348 => ?_) (fun c_348 => ?_)
            · -- 79: (-1) ge
              exact absurd c_348 (by decide)
            · -- 79: (-1) lt
              refine lv_iconst (v := nI 0) hx hb dX10_readPart_82 (by decide) ?_
              exact e_Ni hx hb hr rfl hlocks hI ⟨false, run (dgt tb) zs (run (bl tb) zs (ps tb zs (ps tb zs (ps tb zs pt)))), run (bl tb) zs (ps tb zs (ps tb zs (ps tb zs pt))), sn, ap, upd pr ((4 * i) + (ap i)) (oI (nbr tb zs (run (bl tb) zs (ps tb zs pt)) 5)), upd pf ((4 * i) + (ap i)) (oI (nbr tb zs (run (bl tb) zs (ps tb zs (ps tb zs (ps tb zs pt)))) 39)), hm_328, hm_330, hm_331, hm_332, (fun j q0 q1 q2 q3 => hF_334 j q0 q2 q3), ⟨rfl, run_le (run_le ple3), fun j hj => ⟨up_ne _ _ (by omega), up_ne _ _ (by omega)⟩, Or.inl ⟨rfl, (by simp only [rdPart]; rw [if_neg (Decidable.not_not.mpr k114), if_neg (by rw [hn6]; exact Bool.noConfusion), if_pos k116, if_neg hc_335]; try rfl), rfl⟩⟩⟩ dX10_readPart_83
      · -- 43: nI (nmq tb zs (ps tb zs pt)) lt
        have c_55 : nmq tb zs (ps tb zs pt) < 0 := by have h := mt (nI_leI (a := 0) (b := nmq tb zs (ps tb zs pt)) (by omega) (by omega)).mpr c_55; omega
        omega
    · skip
      refine lv_aload_n hx hb dX10_readPart_37 rfl (lv_at hl 1 rfl) ?_
      refine h_get (C := RX10) (T := TX10) (N := 38) hx hb hts i_RX10 hown hI hm_47 rfl 20 (by decide) f_66 rfl rfl dX10_readPart_38 ?_
      refine lv_iload_n hx hb dX10_readPart_41 rfl (lv_at hl 0 rfl) ?_
      refine h_iald (i := (4 * i) + (ap i)) hx hb hI hm_50 (by omega) (by decide) dX10_readPart_42 ?_
      refine n_eq (show _ = (-1) from (up_self _ _ _).trans (congrArg oI (nb_n (bd := 6) htb (by decide) hc_54))) ?_
      refine lv_if_ge (tgt := 48) hx hb dX10_readPart_43 (by decide) (fun c_349 => ?_) (fun c_349 => ?_)
      · -- 43: (-1) ge
        exact absurd c_349 (by decide)
      · -- 43: (-1) lt
        refine lv_iconst (v := nI 0) hx hb dX10_readPart_46 (by decide) ?_
        exact e_Ni hx hb hr rfl hlocks hI ⟨false, run (dgt tb) zs (run (bl tb) zs (ps tb zs pt)), run (bl tb) zs (ps tb zs pt), sn, ap, upd pr ((4 * i) + (ap i)) (oI (nbr tb zs (run (bl tb) zs (ps tb zs pt)) 5)), pf, hm_47, hm_49, hm_50, hm_51, (fun j q0 q1 q2 q3 => hF_53 j q0 q2), ⟨rfl, run_le (run_le ple1), fun j hj => ⟨up_ne _ _ (by omega), rfl⟩, Or.inl ⟨rfl, (by simp only [rdPart]; rw [if_neg (Decidable.not_not.mpr k114), if_pos (Bool.eq_false_iff.mpr hc_54)]; try rfl), rfl⟩⟩⟩ dX10_readPart_47
  · -- 21: bI (isW tb (run (bl tb) zs pt) (run (ltr tb) zs (run (bl tb) eq
    have c_28 : isW tb (run (bl tb) zs pt) (run (ltr tb) zs (run (bl tb) zs pt)) 0 = false := bI_f (c_28)
    have k0 := tW_n (k := 0) (c := 114) (p := pt) htb rfl rfl (by decide) (by assumption)
    refine lv_iconst (v := nI 0) hx hb dX10_readPart_24 (by decide) ?_
    exact e_Ni hx hb hr rfl hlocks hI ⟨false, run (ltr tb) zs (run (bl tb) zs pt), run (bl tb) zs pt, sn, ap, pr, pf, hm_21, hm_23, hm_24, hm_25, (fun j q0 q1 q2 q3 => hF_27 j q0), ⟨rfl, run_le (run_le hzs.1), fun j hj => ⟨rfl, rfl⟩, Or.inl ⟨rfl, (by simp only [rdPart]; rw [if_pos k0]; try rfl), rfl⟩⟩⟩ dX10_readPart_25
