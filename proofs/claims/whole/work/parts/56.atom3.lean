/-- the parts of atom i as the model's arrays hold them -/
def mpR (ap : Nat → Nat) (pr pf : Nat → Int32) (i : Nat) (L : List (Nat × Nat)) : Prop := ap i = L.length ∧ (∀ j, j < L.length → pr (4 * i + j) = nI (L.getD j (0, 0)).1 ∧ pf (4 * i + j) = tmI (L.getD j (0, 0)).2) ∧ ∀ y ∈ L, y.1 < 6 ∧ y.2 < 43
theorem mpR_0 {ap : Nat → Nat} {pr pf : Nat → Int32} {i : Nat} : mpR (va_up ap i 0) pr pf i [] := ⟨va_up_self _ _ _, fun j hj => absurd hj (Nat.not_lt_zero j), fun y hy => by cases hy⟩
theorem mpR_add {ap : Nat → Nat} {pr pf : Nat → Int32} {i x t : Nat} {L : List (Nat × Nat)} (h : mpR ap pr pf i L) (hx : x < 6) (ht : t < 43) : mpR (va_up ap i (ap i + 1)) (upd pr (4 * i + ap i) (nI x)) (upd pf (4 * i + ap i) (tmI t)) i (L ++ [(x, t)]) := by
  obtain ⟨h1, h3, h4⟩ := h
  refine ⟨by rw [va_up_self, h1]; simp, fun j hj => ?_, fun y hy => ?_⟩
  · rw [List.length_append] at hj
    simp only [List.length_cons, List.length_nil] at hj
    by_cases e : j = L.length
    · subst e
      rw [h1, up_self, up_self]
      simp
    · have e3 : (L ++ [(x, t)]).getD j (0, 0) = L.getD j (0, 0) := by simp [List.getD_eq_getElem?_getD, List.getElem?_append_left (show j < L.length by omega)]
      rw [h1, up_ne _ _ (by omega), up_ne _ _ (by omega), e3]
      exact h3 j (by omega)
  · rcases List.mem_append.mp hy with h5 | h5
    · exact h4 y h5
    · simp only [List.mem_singleton] at h5
      subst h5
      exact ⟨hx, ht⟩
def keepM (i : Nat) (ap : Nat → Nat) (pr pf : Nat → Int32) (ap' : Nat → Nat) (pr' pf' : Nat → Int32) : Prop := (∀ j, j < i → ap' j = ap j) ∧ ∀ j, j < 4 * i → pr' j = pr j ∧ pf' j = pf j
section KM
variable {i x y : Nat} {ap apx ap2 : Nat → Nat} {pr pf prx pfx pr2 pf2 : Nat → Int32} {u v : Int32}
theorem keepM_0 : keepM i ap pr pf (va_up ap i x) pr pf := ⟨fun j hj => va_up_ne _ _ (by omega), fun _ _ => ⟨rfl, rfl⟩⟩
theorem keepM_add (h : keepM i ap pr pf apx prx pfx) : keepM i ap pr pf (va_up apx i x) (upd prx (4 * i + y) u) (upd pfx (4 * i + y) v) := ⟨fun j hj => (va_up_ne _ _ (by omega)).trans (h.1 j hj), fun j hj => ⟨(up_ne _ _ (by omega)).trans (h.2 j hj).1, (up_ne _ _ (by omega)).trans (h.2 j hj).2⟩⟩
theorem keepM_f (h : keepM i ap pr pf apx prx pfx) (h1 : ap2 = apx) (h2 : ∀ j, j < 4 * i → pr2 j = prx j ∧ pf2 j = pfx j) : keepM i ap pr pf ap2 pr2 pf2 := ⟨fun j hj => by rw [h1]; exact h.1 j hj, fun j hj => ⟨(h2 j hj).1.trans (h.2 j hj).1, (h2 j hj).2.trans (h.2 j hj).2⟩⟩
end KM

/-- X10_readAtom -/
abbrev rm_c_X10_readAtom : Room := { frames := 6, cells := 0, slots := 0, locals := 131 }
set_option maxHeartbeats 4000000 in
set_option maxRecDepth 100000 in
theorem c_X10_readAtom (l : Launch) (G : GG) (z : Nat) (ad : Nat → Nat) (M : Mem) {th : Nat} {ln : Nat} {on : Nat} {ao : Nat} {vr : Nat} {sn : Nat} {tp : Nat} {pt : Nat} {zs : Nat} {bg : Nat} {fa : Int32} {f : Nat → Int32} {tb : Nat → Nat} {ak : Nat → Int32} {nt : Nat → Bool} {ap : Nat → Nat} {pr : Nat → Int32} {pf : Nat → Int32} {mm : Nat} (h60 : M 60 = some (cModel ad th ln on ao vr sn tp pt zs bg fa)) (h80 : M 80 = some (aB G 400 f)) (h75 : M 75 = some (aI G 12 ak)) (h76 : M 76 = some (aZ G 12 (bF nt))) (h77 : M 77 = some (aI G 12 (nF ap))) (h78 : M 78 = some (aI G 48 pr)) (h79 : M 79 = some (aI G 48 pf)) (hzs : pt ≤ zs ∧ zs ≤ 400) (htb : ∀ j, j < zs → tb j < 256) (hf : ∀ j, j < zs → f j = sB (tb j)) (hm6 : mm < 6) (hsn : sn < 8) : Met l yX10_readAtom wsX10_readAtom rm_c_X10_readAtom (Pr G z ad M [.ref (ad 60), .int (nI mm)]) (Ni G z ad (fun (r : Int32) (M' : Mem) => ∃ b2 : Bool, ∃ pt2 : Nat, ∃ bg2 : Nat, ∃ sn2 : Nat, ∃ ak2 : Nat → Int32, ∃ nt2 : Nat → Bool, ∃ ap2 : Nat → Nat, ∃ pr2 : Nat → Int32, ∃ pf2 : Nat → Int32, M' 60 = some (cModel ad th ln on ao vr sn2 tp pt2 zs bg2 fa) ∧ M' 75 = some (aI G 12 ak2) ∧ M' 76 = some (aZ G 12 (bF nt2)) ∧ M' 77 = some (aI G 12 (nF ap2)) ∧ M' 78 = some (aI G 48 pr2) ∧ M' 79 = some (aI G 48 pf2) ∧ (∀ j : Nat, j ≠ 60 → j ≠ 75 → j ≠ 76 → j ≠ 77 → j ≠ 78 → j ≠ 79 → M' j = M j) ∧ (r = bI b2 ∧ pt2 ≤ zs ∧ ((∀ j, j < 6 + mm → ak2 j = ak j ∧ nt2 j = nt j) ∧ keepM (6 + mm) ap pr pf ap2 pr2 pf2) ∧ (b2 = false ∧ rdAtom tb zs sn pt = .inl bg2 ∨ b2 = true ∧ ∃ k9 L, rdAtom tb zs sn pt = .inr (pt2, (k9, nt2 (6 + mm), L), sn2) ∧ sn2 < 8 ∧ k9 < 6 ∧ ak2 (6 + mm) = nI k9 ∧ mpR ap2 pr2 pf2 (6 + mm) L ∧ L.length ≤ 4)))) 0 0 (fr z) := by
  refine Met.ofW (cc := cX10_readAtom) (maxL := 3) (ret := (some .boolean)) (by decide) rfl ?_
  intro p e s m args below meth c s₁ B hml hv
  obtain ⟨rfl, hv⟩ := hv
  have hI := Iv.entry hv
  have hx := B.exec
  have hb := B.bytes
  have hr := B.returns
  have hts := atoms_spec (ws := wsX10_readAtom) B.pre
  have hown : s.vm.findClass RX10 = some m.cls := findClass_of_methodNamed B.named
  have hlocks := B.notSynchronized
  have i_RX10 : ∀ w ∈ u_ws RX10 TX10 38, w ∈ wsX10_readAtom := fun w h => List.mem_cons_of_mem _ (iu_X10 w h)
  have f_63 := hts _ (List.mem_cons_of_mem _ (lwg_of t_1032 rfl))
  have f_60 := hts _ (List.mem_cons_of_mem _ (lwg_of t_1031 rfl))
  have f_57 := hts _ (List.mem_cons_of_mem _ (lwg_of t_1030 rfl))
  have f_161 := hts _ (List.mem_cons_of_mem _ (lwg_of t_1040 rfl))
  have hl := lv_entry ([.ref (ad 60), .int (nI mm)]) (n := 3) (Nat.le_of_ble_eq_true rfl)
  rw [lg_entry_eq]
  generalize (lg_sl ([.ref (ad 60), .int (nI mm)]) ++ List.replicate (3 - (lg_sl ([.ref (ad 60), .int (nI mm)])).length) Slot.unset).toArray = ls at hl ⊢
  have hl : lv_has ls 3 [(0, .ref (ad 60)), (1, .int (nI mm))] := hl
  refine w_q (fun Q hQ => ?_)
  have ple1 := ps_le (tb := tb) hzs.1
  refine lv_bipush (v := nI 6) hx hb dX10_readAtom_0 (by decide) ?_
  refine lv_iload_n hx hb dX10_readAtom_2 rfl (lv_at hl 1 rfl) ?_
  refine lv_iadd hx hb dX10_readAtom_3 ?_
  refine n_eq (nI_add 6 mm) ?_
  refine lv_istore_n (lv' := [(2, .int (nI (6 + mm))), (0, .ref (ad 60)), (1, .int (nI mm))]) hx hb dX10_readAtom_4 rfl hl (by decide) rfl (fun ls hl => ?_)
  refine lv_aload_n hx hb dX10_readAtom_5 rfl (lv_at hl 1 rfl) ?_
  refine h_get (C := RX10) (T := TX10) (N := 38) hx hb hts i_RX10 hown hI h60 rfl 19 (by decide) f_63 rfl rfl dX10_readAtom_6 ?_
  refine lv_iload_n hx hb dX10_readAtom_9 rfl (lv_at hl 0 rfl) ?_
  refine lv_iconst (v := nI 0) hx hb dX10_readAtom_10 (by decide) ?_
  refine h_iast (i := 6 + mm) (x := nI 0) hx hb hI h77 (by omega) (by decide) dX10_readAtom_11 (fun M_1 H_2 locs_3 eM_4 hI => ?_)
  rw [upd_nF] at eM_4
  have hm_5 : M_1 60 = some (cModel ad th ln on ao vr sn tp pt zs bg fa) := by rw [eM_4, va_up_ne _ _ (by decide)]; exact h60
  have hm_6 : M_1 80 = some (aB G 400 f) := by rw [eM_4, va_up_ne _ _ (by decide)]; exact h80
  have hm_7 : M_1 75 = some (aI G 12 ak) := by rw [eM_4, va_up_ne _ _ (by decide)]; exact h75
  have hm_8 : M_1 76 = some (aZ G 12 (bF nt)) := by rw [eM_4, va_up_ne _ _ (by decide)]; exact h76
  have hm_9 : M_1 77 = some (aI G 12 (nF (va_up ap (6 + mm) 0))) := by rw [eM_4]; exact va_up_self _ _ _
  have hm_10 : M_1 78 = some (aI G 48 pr) := by rw [eM_4, va_up_ne _ _ (by decide)]; exact h78
  have hm_11 : M_1 79 = some (aI G 48 pf) := by rw [eM_4, va_up_ne _ _ (by decide)]; exact h79
  have hF_12 : ∀ j : Nat, j ≠ 77 → M_1 j = M j := fun j q0 => by rw [eM_4, va_up_ne _ _ q0]
  refine lv_aload_n hx hb dX10_readAtom_12 rfl (lv_at hl 1 rfl) ?_
  refine k_Nv (va_runV (As := []) (rest := []) ⟨hx, hb, hml, hown, hts⟩ (c_X10_word l G z ad M_1 (th := th) (ln := ln) (on := on) (ao := ao) (vr := vr) (sn := sn) (tp := tp) (pt := pt) (zs := zs) (bg := bg) (fa := fa) (f := f) (tb := tb) hm_5 hm_6 ⟨hzs.1, hzs.2⟩ htb hf) (cwV 0 hts (gV (lwg_of t_1233 rfl) (lwg_of t_1235 rfl) (lwg_of ts_32 rfl) (lwg_of t_13 rfl) (lwg_of t_1236 rfl)) rfl rfl rfl (by decide +kernel) ⟨Nat.le_of_ble_eq_true rfl, Nat.le_of_ble_eq_true rfl⟩) (hI.preV hm_5 rfl) rfl rfl hl.1 rfl (lv_room (Nat.le_of_ble_eq_true rfl)) dX10_readAtom_13 ⟨Nat.le_of_ble_eq_true rfl, Nat.le_of_ble_eq_true rfl⟩) hI (fun M_15 H_16 locs_17 hp_14 hI => ?_)
  obtain ⟨hm_18, hF_19⟩ := hp_14
  have hm_20 : M_15 80 = some (aB G 400 f) := by rw [hF_19 80 (by omega)]; exact hm_6
  have hm_21 : M_15 75 = some (aI G 12 ak) := by rw [hF_19 75 (by omega)]; exact hm_7
  have hm_22 : M_15 76 = some (aZ G 12 (bF nt)) := by rw [hF_19 76 (by omega)]; exact hm_8
  have hm_23 : M_15 77 = some (aI G 12 (nF (va_up ap (6 + mm) 0))) := by rw [hF_19 77 (by omega)]; exact hm_9
  have hm_24 : M_15 78 = some (aI G 48 pr) := by rw [hF_19 78 (by omega)]; exact hm_10
  have hm_25 : M_15 79 = some (aI G 48 pf) := by rw [hF_19 79 (by omega)]; exact hm_11
  have hF_26 : ∀ j : Nat, j ≠ 77 → j ≠ 60 → M_15 j = M j := fun j q0 q1 => (hF_19 j q1).trans (hF_12 j q0)
  refine lv_aload_n hx hb dX10_readAtom_16 rfl (lv_at hl 1 rfl) ?_
  refine h_get (C := RX10) (T := TX10) (N := 38) hx hb hts i_RX10 hown hI hm_18 rfl 18 (by decide) f_60 rfl rfl dX10_readAtom_17 ?_
  refine lv_iload_n hx hb dX10_readAtom_20 rfl (lv_at hl 0 rfl) ?_
  by_cases hc_27 : isW tb (run (bl tb) zs pt) (run (ltr tb) zs (run (bl tb) zs pt)) 5 = true
  · skip
    refine lv_aload_n hx hb dX10_readAtom_21 rfl (lv_at hl 1 rfl) ?_
    refine va_ldcS hx hb hown (iv_str hI (k := 5) (own := "LineStoreModel") (is := 210) (text := "not") rfl) dX10_readAtom_22 ?_
    refine k_Ni (va_runV (As := [.ref (G.2.2.1 5)]) (rest := [.int (nI (6 + mm)), .ref (ad 76)]) ⟨hx, hb, hml, hown, hts⟩ (c_X10_isWord l G z ad M_15 (th := th) (ln := ln) (on := on) (ao := ao) (vr := vr) (sn := sn) (tp := tp) (pt := run (ltr tb) zs (run (bl tb) zs pt)) (zs := zs) (bg := run (bl tb) zs pt) (fa := fa) (f := f) (tb := tb) (k := 5) hm_18 hm_20 ⟨run_le (run_le hzs.1), hzs.2⟩ htb hf (run_ge _ _ _) (by omega)) (cwV 1 hts (gV (lwg_of t_1246 rfl) (lwg_of t_1248 rfl) (lwg_of ts_35 rfl) (lwg_of t_13 rfl) (lwg_of t_1249 rfl)) rfl rfl rfl (by decide +kernel) ⟨Nat.le_of_ble_eq_true rfl, Nat.le_of_ble_eq_true rfl⟩) (hI.preV hm_18 rfl) rfl rfl hl.1 rfl (lv_room (Nat.le_of_ble_eq_true rfl)) dX10_readAtom_24 ⟨Nat.le_of_ble_eq_true rfl, Nat.le_of_ble_eq_true rfl⟩) hI (fun r_28 M_30 H_31 locs_32 hp_29 hI => ?_)
    obtain ⟨hr_33, hF_34⟩ := hp_29
    have hm_35 : M_30 60 = some (cModel ad th ln on ao vr sn tp (run (ltr tb) zs (run (bl tb) zs pt)) zs (run (bl tb) zs pt) fa) := by rw [hF_34 60 ]; exact hm_18
    have hm_36 : M_30 80 = some (aB G 400 f) := by rw [hF_34 80 ]; exact hm_20
    have hm_37 : M_30 75 = some (aI G 12 ak) := by rw [hF_34 75 ]; exact hm_21
    have hm_38 : M_30 76 = some (aZ G 12 (bF nt)) := by rw [hF_34 76 ]; exact hm_22
    have hm_39 : M_30 77 = some (aI G 12 (nF (va_up ap (6 + mm) 0))) := by rw [hF_34 77 ]; exact hm_23
    have hm_40 : M_30 78 = some (aI G 48 pr) := by rw [hF_34 78 ]; exact hm_24
    have hm_41 : M_30 79 = some (aI G 48 pf) := by rw [hF_34 79 ]; exact hm_25
    have hF_42 : ∀ j : Nat, j ≠ 77 → j ≠ 60 → M_30 j = M j := fun j q0 q1 => (hF_34 j).trans (hF_26 j q0 q1)
    rw [hr_33]
    refine n_eq (show _ = bI true from congrArg bI hc_27) ?_
    refine h_zast (i := 6 + mm) (x := bI true) hx hb hI hm_38 (by omega) (by decide) (bI_vnar _) dX10_readAtom_27 (fun M_43 H_44 locs_45 eM_46 hI => ?_)
    rw [upd_bF] at eM_46
    have hm_47 : M_43 60 = some (cModel ad th ln on ao vr sn tp (run (ltr tb) zs (run (bl tb) zs pt)) zs (run (bl tb) zs pt) fa) := by rw [eM_46, va_up_ne _ _ (by decide)]; exact hm_35
    have hm_48 : M_43 80 = some (aB G 400 f) := by rw [eM_46, va_up_ne _ _ (by decide)]; exact hm_36
    have hm_49 : M_43 75 = some (aI G 12 ak) := by rw [eM_46, va_up_ne _ _ (by decide)]; exact hm_37
    have hm_50 : M_43 76 = some (aZ G 12 (bF (va_up nt (6 + mm) true))) := by rw [eM_46]; exact va_up_self _ _ _
    have hm_51 : M_43 77 = some (aI G 12 (nF (va_up ap (6 + mm) 0))) := by rw [eM_46, va_up_ne _ _ (by decide)]; exact hm_39
    have hm_52 : M_43 78 = some (aI G 48 pr) := by rw [eM_46, va_up_ne _ _ (by decide)]; exact hm_40
    have hm_53 : M_43 79 = some (aI G 48 pf) := by rw [eM_46, va_up_ne _ _ (by decide)]; exact hm_41
    have hF_54 : ∀ j : Nat, j ≠ 77 → j ≠ 60 → j ≠ 76 → M_43 j = M j := fun j q0 q1 q2 => by rw [eM_46, va_up_ne _ _ q2]; exact hF_42 j q0 q1
    refine lv_aload_n hx hb dX10_readAtom_28 rfl (lv_at hl 1 rfl) ?_
    refine h_get (C := RX10) (T := TX10) (N := 38) hx hb hts i_RX10 hown hI hm_47 rfl 18 (by decide) f_60 rfl rfl dX10_readAtom_29 ?_
    refine lv_iload_n hx hb dX10_readAtom_32 rfl (lv_at hl 0 rfl) ?_
    refine h_zald (i := 6 + mm) hx hb hI hm_50 (by omega) (by decide) dX10_readAtom_33 ?_
    refine n_eq (show _ = bI true from congrArg bI (va_up_self _ _ _)) ?_
    refine lv_if_eq (tgt := 41) hx hb dX10_readAtom_34 (by decide) (fun c_55 => ?_) (fun c_55 => ?_)
    · -- 34: bI true eq
      have c_55 : true = false := bI_f (c_55)
      exact absurd (by assumption : true = false) (by decide)
    · -- 34: bI true ne
      have c_55 : true = true := bI_t (c_55)
      rw [(tN_y htb hc_27).2] at hm_47
      refine lv_aload_n hx hb dX10_readAtom_37 rfl (lv_at hl 1 rfl) ?_
      refine k_Nv (va_runV (As := []) (rest := []) ⟨hx, hb, hml, hown, hts⟩ (c_X10_word l G z ad M_43 (th := th) (ln := ln) (on := on) (ao := ao) (vr := vr) (sn := sn) (tp := tp) (pt := ps tb zs pt) (zs := zs) (bg := run (bl tb) zs pt) (fa := fa) (f := f) (tb := tb) hm_47 hm_48 ⟨ple1, hzs.2⟩ htb hf) (cwV 0 hts (gV (lwg_of t_1233 rfl) (lwg_of t_1235 rfl) (lwg_of ts_32 rfl) (lwg_of t_13 rfl) (lwg_of t_1236 rfl)) rfl rfl rfl (by decide +kernel) ⟨Nat.le_of_ble_eq_true rfl, Nat.le_of_ble_eq_true rfl⟩) (hI.preV hm_47 rfl) rfl rfl hl.1 rfl (lv_room (Nat.le_of_ble_eq_true rfl)) dX10_readAtom_38 ⟨Nat.le_of_ble_eq_true rfl, Nat.le_of_ble_eq_true rfl⟩) hI (fun M_58 H_59 locs_60 hp_57 hI => ?_)
      obtain ⟨hm_61, hF_62⟩ := hp_57
      have hm_63 : M_58 80 = some (aB G 400 f) := by rw [hF_62 80 (by omega)]; exact hm_48
      have hm_64 : M_58 75 = some (aI G 12 ak) := by rw [hF_62 75 (by omega)]; exact hm_49
      have hm_65 : M_58 76 = some (aZ G 12 (bF (va_up nt (6 + mm) true))) := by rw [hF_62 76 (by omega)]; exact hm_50
      have hm_66 : M_58 77 = some (aI G 12 (nF (va_up ap (6 + mm) 0))) := by rw [hF_62 77 (by omega)]; exact hm_51
      have hm_67 : M_58 78 = some (aI G 48 pr) := by rw [hF_62 78 (by omega)]; exact hm_52
      have hm_68 : M_58 79 = some (aI G 48 pf) := by rw [hF_62 79 (by omega)]; exact hm_53
      have hF_69 : ∀ j : Nat, j ≠ 77 → j ≠ 60 → j ≠ 76 → M_58 j = M j := fun j q0 q1 q2 => (hF_62 j q1).trans (hF_54 j q0 q1 q2)
      refine lv_aload_n hx hb dX10_readAtom_41 rfl (lv_at hl 1 rfl) ?_
      refine va_ldcS hx hb hown (iv_str hI (k := 6) (own := "LineStoreModel") (is := 212) (text := "k") rfl) dX10_readAtom_42 ?_
      refine k_Ni (va_runV (As := [.ref (G.2.2.1 6)]) (rest := []) ⟨hx, hb, hml, hown, hts⟩ (c_X10_isWord l G z ad M_58 (th := th) (ln := ln) (on := on) (ao := ao) (vr := vr) (sn := sn) (tp := tp) (pt := run (ltr tb) zs (run (bl tb) zs (ps tb zs pt))) (zs := zs) (bg := run (bl tb) zs (ps tb zs pt)) (fa := fa) (f := f) (tb := tb) (k := 6) hm_61 hm_63 ⟨run_le (run_le ple1), hzs.2⟩ htb hf (run_ge _ _ _) (by omega)) (cwV 1 hts (gV (lwg_of t_1246 rfl) (lwg_of t_1248 rfl) (lwg_of ts_35 rfl) (lwg_of t_13 rfl) (lwg_of t_1249 rfl)) rfl rfl rfl (by decide +kernel) ⟨Nat.le_of_ble_eq_true rfl, Nat.le_of_ble_eq_true rfl⟩) (hI.preV hm_61 rfl) rfl rfl hl.1 rfl (lv_room (Nat.le_of_ble_eq_true rfl)) dX10_readAtom_44 ⟨Nat.le_of_ble_eq_true rfl, Nat.le_of_ble_eq_true rfl⟩) hI (fun r_70 M_72 H_73 locs_74 hp_71 hI => ?_)
      obtain ⟨hr_75, hF_76⟩ := hp_71
      have hm_77 : M_72 60 = some (cModel ad th ln on ao vr sn tp (run (ltr tb) zs (run (bl tb) zs (ps tb zs pt))) zs (run (bl tb) zs (ps tb zs pt)) fa) := by rw [hF_76 60 ]; exact hm_61
      have hm_78 : M_72 80 = some (aB G 400 f) := by rw [hF_76 80 ]; exact hm_63
      have hm_79 : M_72 75 = some (aI G 12 ak) := by rw [hF_76 75 ]; exact hm_64
      have hm_80 : M_72 76 = some (aZ G 12 (bF (va_up nt (6 + mm) true))) := by rw [hF_76 76 ]; exact hm_65
      have hm_81 : M_72 77 = some (aI G 12 (nF (va_up ap (6 + mm) 0))) := by rw [hF_76 77 ]; exact hm_66
      have hm_82 : M_72 78 = some (aI G 48 pr) := by rw [hF_76 78 ]; exact hm_67
      have hm_83 : M_72 79 = some (aI G 48 pf) := by rw [hF_76 79 ]; exact hm_68
      have hF_84 : ∀ j : Nat, j ≠ 77 → j ≠ 60 → j ≠ 76 → M_72 j = M j := fun j q0 q1 q2 => (hF_76 j).trans (hF_69 j q0 q1 q2)
      rw [hr_75]
      refine lv_if_ne (tgt := 52) hx hb dX10_readAtom_47 (by decide) (fun c_85 => ?_) (fun c_85 => ?_)
      · -- 47: bI (isW tb (run (bl tb) zs (ps tb zs pt)) (run (ltr tb) zs ( ne
        have c_85 : isW tb (run (bl tb) zs (ps tb zs pt)) (run (ltr tb) zs (run (bl tb) zs (ps tb zs pt))) 6 = true := bI_t (c_85)
        obtain ⟨hc107, e_k⟩ := tW_y (k := 6) (c := 107) (p := ps tb zs pt) htb rfl rfl (by decide) (by assumption)
        rw [e_k] at hm_77
        refine lv_aload_n hx hb dX10_readAtom_52 rfl (lv_at hl 1 rfl) ?_
        refine h_get (C := RX10) (T := TX10) (N := 38) hx hb hts i_RX10 hown hI hm_77 rfl 17 (by decide) f_57 rfl rfl dX10_readAtom_53 ?_
        refine lv_iload_n hx hb dX10_readAtom_56 rfl (lv_at hl 0 rfl) ?_
        refine lv_aload_n hx hb dX10_readAtom_57 rfl (lv_at hl 1 rfl) ?_
        refine lv_iconst (v := nI 5) hx hb dX10_readAtom_58 (by decide) ?_
        refine k_Ni (va_runV (As := [.int (nI 5)]) (rest := [.int (nI (6 + mm)), .ref (ad 75)]) ⟨hx, hb, hml, hown, hts⟩ (c_X10_number l G z ad M_72 (th := th) (ln := ln) (on := on) (ao := ao) (vr := vr) (sn := sn) (tp := tp) (pt := ps tb zs (ps tb zs pt)) (zs := zs) (bg := run (bl tb) zs (ps tb zs pt)) (fa := fa) (f := f) (tb := tb) (hi := 5) hm_77 hm_78 ⟨(ps_le ple1), hzs.2⟩ htb hf (by omega)) (cwV 1 hts (gV (lwg_of t_1297 rfl) (lwg_of t_1299 rfl) (lwg_of ts_36 rfl) (lwg_of t_13 rfl) (lwg_of t_1300 rfl)) rfl rfl rfl (by decide +kernel) ⟨Nat.le_of_ble_eq_true rfl, Nat.le_of_ble_eq_true rfl⟩) (hI.preV hm_77 rfl) rfl rfl hl.1 rfl (lv_room (Nat.le_of_ble_eq_true rfl)) dX10_readAtom_59 ⟨Nat.le_of_ble_eq_true rfl, Nat.le_of_ble_eq_true rfl⟩) hI (fun r_86 M_88 H_89 locs_90 hp_87 hI => ?_)
        obtain ⟨hr_91, hm_92, hF_93⟩ := hp_87
        have hm_94 : M_88 80 = some (aB G 400 f) := by rw [hF_93 80 (by omega)]; exact hm_78
        have hm_95 : M_88 75 = some (aI G 12 ak) := by rw [hF_93 75 (by omega)]; exact hm_79
        have hm_96 : M_88 76 = some (aZ G 12 (bF (va_up nt (6 + mm) true))) := by rw [hF_93 76 (by omega)]; exact hm_80
        have hm_97 : M_88 77 = some (aI G 12 (nF (va_up ap (6 + mm) 0))) := by rw [hF_93 77 (by omega)]; exact hm_81
        have hm_98 : M_88 78 = some (aI G 48 pr) := by rw [hF_93 78 (by omega)]; exact hm_82
        have hm_99 : M_88 79 = some (aI G 48 pf) := by rw [hF_93 79 (by omega)]; exact hm_83
        have hF_100 : ∀ j : Nat, j ≠ 77 → j ≠ 60 → j ≠ 76 → M_88 j = M j := fun j q0 q1 q2 => (hF_93 j q1).trans (hF_84 j q0 q1 q2)
        rw [hr_91]
        refine h_iast (i := 6 + mm) (x := oI (nbr tb zs (run (bl tb) zs (ps tb zs (ps tb zs pt))) 5)) hx hb hI hm_95 (by omega) (by decide) dX10_readAtom_62 (fun M_101 H_102 locs_103 eM_104 hI => ?_)
        have hm_105 : M_101 60 = some (cModel ad th ln on ao vr sn tp (run (dgt tb) zs (run (bl tb) zs (ps tb zs (ps tb zs pt)))) zs (run (bl tb) zs (ps tb zs (ps tb zs pt))) fa) := by rw [eM_104, va_up_ne _ _ (by decide)]; exact hm_92
        have hm_106 : M_101 80 = some (aB G 400 f) := by rw [eM_104, va_up_ne _ _ (by decide)]; exact hm_94
        have hm_107 : M_101 75 = some (aI G 12 (upd ak (6 + mm) (oI (nbr tb zs (run (bl tb) zs (ps tb zs (ps tb zs pt))) 5)))) := by rw [eM_104]; exact va_up_self _ _ _
        have hm_108 : M_101 76 = some (aZ G 12 (bF (va_up nt (6 + mm) true))) := by rw [eM_104, va_up_ne _ _ (by decide)]; exact hm_96
        have hm_109 : M_101 77 = some (aI G 12 (nF (va_up ap (6 + mm) 0))) := by rw [eM_104, va_up_ne _ _ (by decide)]; exact hm_97
        have hm_110 : M_101 78 = some (aI G 48 pr) := by rw [eM_104, va_up_ne _ _ (by decide)]; exact hm_98
        have hm_111 : M_101 79 = some (aI G 48 pf) := by rw [eM_104, va_up_ne _ _ (by decide)]; exact hm_99
        have hF_112 : ∀ j : Nat, j ≠ 77 → j ≠ 60 → j ≠ 76 → j ≠ 75 → M_101 j = M j := fun j q0 q1 q2 q3 => by rw [eM_104, va_up_ne _ _ q3]; exact hF_100 j q0 q1 q2
        by_cases hc_113 : nmb tb zs (ps tb zs (ps tb zs pt)) 6 = true
        · skip
          refine lv_aload_n hx hb dX10_readAtom_63 rfl (lv_at hl 1 rfl) ?_
          refine h_get (C := RX10) (T := TX10) (N := 38) hx hb hts i_RX10 hown hI hm_105 rfl 17 (by decide) f_57 rfl rfl dX10_readAtom_64 ?_
          refine lv_iload_n hx hb dX10_readAtom_67 rfl (lv_at hl 0 rfl) ?_
          have hn6 := hc_113
          have hq6 := (nmb_val (bd := 6) htb (by decide) hn6).2
          refine h_iald (i := 6 + mm) hx hb hI hm_107 (by omega) (by decide) dX10_readAtom_68 ?_
          refine n_eq (show _ = nI (nmq tb zs (ps tb zs (ps tb zs pt))) from (up_self _ _ _).trans (congrArg oI (nb_y (bd := 6) htb (by decide) hn6).1)) ?_
          refine lv_if_lt (tgt := 81) hx hb dX10_readAtom_69 (by decide) (fun c_114 => ?_) (fun c_114 => ?_)
          · -- 69: nI (nmq tb zs (ps tb zs (ps tb zs pt))) lt
            have c_114 : nmq tb zs (ps tb zs (ps tb zs pt)) < 0 := (nI_ltI (a := nmq tb zs (ps tb zs (ps tb zs pt))) (b := 0) (by omega) (by omega)).mp (c_114)
            omega
          · -- 69: nI (nmq tb zs (ps tb zs (ps tb zs pt))) ge
            have c_114 : 0 ≤ nmq tb zs (ps tb zs (ps tb zs pt)) := by have h := mt (nI_ltI (a := nmq tb zs (ps tb zs (ps tb zs pt))) (b := 0) (by omega) (by omega)).mpr c_114; omega
            rw [(nb_y (bd := 6) htb (by decide) hn6).2] at hm_105
            refine lv_aload_n hx hb dX10_readAtom_72 rfl (lv_at hl 1 rfl) ?_
            refine lv_bipush (v := nI 40) hx hb dX10_readAtom_73 (by decide) ?_
            refine k_Ni (va_runV (As := [.int (nI 40)]) (rest := []) ⟨hx, hb, hml, hown, hts⟩ (c_X10_sign l G z ad M_101 (th := th) (ln := ln) (on := on) (ao := ao) (vr := vr) (sn := sn) (tp := tp) (pt := ps tb zs (ps tb zs (ps tb zs pt))) (zs := zs) (bg := run (bl tb) zs (ps tb zs (ps tb zs pt))) (fa := fa) (f := f) (tb := tb) (c0 := 40) hm_105 hm_106 ⟨(ps_le (ps_le ple1)), hzs.2⟩ htb hf (by omega)) (cwV 1 hts (gV (lwg_of t_1301 rfl) (lwg_of t_1303 rfl) (lwg_of ts_37 rfl) (lwg_of t_13 rfl) (lwg_of t_1304 rfl)) rfl rfl rfl (by decide +kernel) ⟨Nat.le_of_ble_eq_true rfl, Nat.le_of_ble_eq_true rfl⟩) (hI.preV hm_105 rfl) rfl rfl hl.1 rfl (lv_room (Nat.le_of_ble_eq_true rfl)) dX10_readAtom_75 ⟨Nat.le_of_ble_eq_true rfl, Nat.le_of_ble_eq_true rfl⟩) hI (fun r_115 M_117 H_118 locs_119 hp_116 hI => ?_)
            obtain ⟨hr_120, hm_121, hF_122⟩ := hp_116
            have hm_123 : M_117 80 = some (aB G 400 f) := by rw [hF_122 80 (by omega)]; exact hm_106
            have hm_124 : M_117 75 = some (aI G 12 (upd ak (6 + mm) (oI (nbr tb zs (run (bl tb) zs (ps tb zs (ps tb zs pt))) 5)))) := by rw [hF_122 75 (by omega)]; exact hm_107
            have hm_125 : M_117 76 = some (aZ G 12 (bF (va_up nt (6 + mm) true))) := by rw [hF_122 76 (by omega)]; exact hm_108
            have hm_126 : M_117 77 = some (aI G 12 (nF (va_up ap (6 + mm) 0))) := by rw [hF_122 77 (by omega)]; exact hm_109
            have hm_127 : M_117 78 = some (aI G 48 pr) := by rw [hF_122 78 (by omega)]; exact hm_110
            have hm_128 : M_117 79 = some (aI G 48 pf) := by rw [hF_122 79 (by omega)]; exact hm_111
            have hF_129 : ∀ j : Nat, j ≠ 77 → j ≠ 60 → j ≠ 76 → j ≠ 75 → M_117 j = M j := fun j q0 q1 q2 q3 => (hF_122 j q1).trans (hF_112 j q0 q1 q2 q3)
            rw [hr_120]
            refine lv_if_ne (tgt := 83) hx hb dX10_readAtom_78 (by decide) (fun c_130 => ?_) (fun c_130 => ?_)
            · -- 78: bI (isA tb zs (run (bl tb) zs (ps tb zs (ps tb zs (ps tb zs  ne
              have c_130 : isA tb zs (run (bl tb) zs (ps tb zs (ps tb zs (ps tb zs pt)))) 40 40 = true := bI_t (c_130)
              have lp83_131 : ∀ (fuel : Nat) (p9 : Nat) (gx : Nat) (snx : Nat) (apx : Nat → Nat) (prx : Nat → Int32) (pfx : Nat → Int32) (Lx : List (Nat × Nat)) (Mx : Mem) (Hx : Heap) (locsx : List Loc) (ls : Array Slot), (4 - Lx.length) < fuel → (p9 ≤ zs) → (snx < 8) → (Lx.length < 4) → (mpR apx prx pfx (6 + mm) Lx) → (keepM (6 + mm) ap pr pf apx prx pfx) → (rdParts tb zs true 4 (sk tb zs (ps tb zs (ps tb zs (ps tb zs pt)))) sn (ps tb zs (ps tb zs (ps tb zs (ps tb zs pt)))) = preR Lx (rdParts tb zs true (4 - Lx.length) gx snx p9)) → Iv G z ad Mx s Hx locsx → Mx 60 = some (cModel ad th ln on ao vr snx tp p9 zs gx fa) → Mx 75 = some (aI G 12 (upd ak (6 + mm) (oI (nbr tb zs (run (bl tb) zs (ps tb zs (ps tb zs pt))) 5)))) → Mx 76 = some (aZ G 12 (bF (va_up nt (6 + mm) true))) → Mx 77 = some (aI G 12 (nF apx)) → Mx 78 = some (aI G 48 prx) → Mx 79 = some (aI G 48 pfx) → (∀ j : Nat, j ≠ 60 → j ≠ 75 → j ≠ 76 → j ≠ 77 → j ≠ 78 → j ≠ 79 → Mx j = M j) → lv_has ls 3 [(0, .ref (ad 60)), (2, .int (nI (6 + mm)))] → W p l e (headSpec wsX10_readAtom rm_c_X10_readAtom).room s m ([.ref (ad 60), .int (nI mm)] : List Value).toArray below meth c Hx locsx 0 0 Q (F0 m 83 ls []) := by
                intro fuel
                induction fuel with
                | zero => intro p9 gx snx apx prx pfx Lx Mx Hx locsx ls hfu hp9 hsnx hLl hmp hkeep hrd hI hm_132 hm_133 hm_134 hm_135 hm_136 hm_137 hF_139 hl; exact absurd hfu (Nat.not_lt_zero _)
                | succ fuel ih_140 =>
                  intro p9 gx snx apx prx pfx Lx Mx Hx locsx ls hfu hp9 hsnx hLl hmp hkeep hrd hI hm_132 hm_133 hm_134 hm_135 hm_136 hm_137 hF_139 hl
                  have hm_141 : Mx 80 = some (aB G 400 f) := by rw [hF_139 80 (by omega) (by omega) (by omega) (by omega) (by omega) (by omega)]; exact h80
                  have hc40 : tkn tb zs (ps tb zs (ps tb zs (ps tb zs pt))) = nI 40 := (sg_i (c := 40) (by decide) htb).mpr (by assumption)
                  refine lv_aload_n hx hb dX10_readAtom_83 rfl (lv_at hl 0 rfl) ?_
                  refine lv_iload_n hx hb dX10_readAtom_84 rfl (lv_at hl 1 rfl) ?_
                  refine k_Ni (va_runV (As := [.int (nI (6 + mm))]) (rest := []) ⟨hx, hb, hml, hown, hts⟩ (c_X10_readPart l G z ad Mx (th := th) (ln := ln) (on := on) (ao := ao) (vr := vr) (sn := snx) (tp := tp) (pt := p9) (zs := zs) (bg := gx) (fa := fa) (f := f) (tb := tb) (ap := apx) (pr := prx) (pf := pfx) (nt := (va_up nt (6 + mm) true)) (i := 6 + mm) hm_132 hm_141 hm_135 hm_136 hm_137 hm_134 ⟨hp9, hzs.2⟩ htb hf (by omega) (by rw [hmp.1]; exact hLl) (by omega)) (cwV 1 hts (gV (lwg_of t_1305 rfl) (lwg_of t_1307 rfl) (lwg_of ts_38 rfl) (lwg_of t_13 rfl) (lwg_of t_1308 rfl)) rfl rfl rfl (by decide +kernel) ⟨Nat.le_of_ble_eq_true rfl, Nat.le_of_ble_eq_true rfl⟩) (hI.preV hm_132 rfl) rfl rfl hl.1 rfl (lv_room (Nat.le_of_ble_eq_true rfl)) dX10_readAtom_85 ⟨Nat.le_of_ble_eq_true rfl, Nat.le_of_ble_eq_true rfl⟩) hI (fun r_142 M_144 H_145 locs_146 hp_143 hI => ?_)
                  obtain ⟨b2_153, pt2_154, bg2_155, sn2_156, ap2_157, pr2_158, pf2_159, hm_147, hm_148, hm_149, hm_150, hF_151, hP_152⟩ := hp_143
                  have hm_160 : M_144 80 = some (aB G 400 f) := by rw [hF_151 80 (by omega) (by omega) (by omega) (by omega)]; exact hm_141
                  have hm_161 : M_144 75 = some (aI G 12 (upd ak (6 + mm) (oI (nbr tb zs (run (bl tb) zs (ps tb zs (ps tb zs pt))) 5)))) := by rw [hF_151 75 (by omega) (by omega) (by omega) (by omega)]; exact hm_133
                  have hm_162 : M_144 76 = some (aZ G 12 (bF (va_up nt (6 + mm) true))) := by rw [hF_151 76 (by omega) (by omega) (by omega) (by omega)]; exact hm_134
                  have hF_163 : ∀ j : Nat, j ≠ 60 → j ≠ 75 → j ≠ 76 → j ≠ 77 → j ≠ 78 → j ≠ 79 → M_144 j = M j := fun j q0 q1 q2 q3 q4 q5 => (hF_151 j q0 q3 q4 q5).trans (hF_139 j q0 q1 q2 q3 q4 q5)
                  refine n_eq (show _ = bI b2_153 from hP_152.1) ?_
                  refine lv_if_ne (tgt := 93) hx hb dX10_readAtom_88 (by decide) (fun c_164 => ?_) (fun c_164 => ?_)
                  · -- 88: bI b2_153 ne
                    have c_164 : b2_153 = true := bI_t (c_164)
                    obtain ⟨-, x9, t9, hrp, hx9, ht9, hu9, hap9, hpr9, hpf9⟩ := hP_152.2.2.2.resolve_left (fun h9 => Bool.noConfusion ((by assumption : b2_153 = true).symm.trans h9.1))
                    rw [va_up_self] at hrp
                    have ha8 := hP_152.2.1
                    have hs3 : Lx.length + 1 ≤ 4 := hLl
                    refine lv_aload_n hx hb dX10_readAtom_93 rfl (lv_at hl 0 rfl) ?_
                    refine k_Nv (va_runV (As := []) (rest := []) ⟨hx, hb, hml, hown, hts⟩ (c_X10_blanks l G z ad M_144 (th := th) (ln := ln) (on := on) (ao := ao) (vr := vr) (sn := sn2_156) (tp := tp) (pt := pt2_154) (zs := zs) (bg := bg2_155) (fa := fa) (f := f) (tb := tb) hm_147 hm_160 ⟨ha8, hzs.2⟩ htb hf) (cwV 0 hts (gV (lwg_of t_1237 rfl) (lwg_of t_1239 rfl) (lwg_of ts_33 rfl) (lwg_of t_13 rfl) (lwg_of t_1240 rfl)) rfl rfl rfl (by decide +kernel) ⟨Nat.le_of_ble_eq_true rfl, Nat.le_of_ble_eq_true rfl⟩) (hI.preV hm_147 rfl) rfl rfl hl.1 rfl (lv_room (Nat.le_of_ble_eq_true rfl)) dX10_readAtom_94 ⟨Nat.le_of_ble_eq_true rfl, Nat.le_of_ble_eq_true rfl⟩) hI (fun M_167 H_168 locs_169 hp_166 hI => ?_)
                    obtain ⟨hm_170, hF_171⟩ := hp_166
                    have hm_172 : M_167 80 = some (aB G 400 f) := by rw [hF_171 80 (by omega)]; exact hm_160
                    have hm_173 : M_167 75 = some (aI G 12 (upd ak (6 + mm) (oI (nbr tb zs (run (bl tb) zs (ps tb zs (ps tb zs pt))) 5)))) := by rw [hF_171 75 (by omega)]; exact hm_161
                    have hm_174 : M_167 76 = some (aZ G 12 (bF (va_up nt (6 + mm) true))) := by rw [hF_171 76 (by omega)]; exact hm_162
                    have hm_175 : M_167 77 = some (aI G 12 (nF ap2_157)) := by rw [hF_171 77 (by omega)]; exact hm_148
                    have hm_176 : M_167 78 = some (aI G 48 pr2_158) := by rw [hF_171 78 (by omega)]; exact hm_149
                    have hm_177 : M_167 79 = some (aI G 48 pf2_159) := by rw [hF_171 79 (by omega)]; exact hm_150
                    have hF_178 : ∀ j : Nat, j ≠ 60 → j ≠ 75 → j ≠ 76 → j ≠ 77 → j ≠ 78 → j ≠ 79 → M_167 j = M j := fun j q0 q1 q2 q3 q4 q5 => (hF_171 j q0).trans (hF_163 j q0 q1 q2 q3 q4 q5)
                    refine lv_aload_n hx hb dX10_readAtom_97 rfl (lv_at hl 0 rfl) ?_
                    refine lv_bipush (v := nI 44) hx hb dX10_readAtom_98 (by decide) ?_
                    refine lv_bipush (v := nI 44) hx hb dX10_readAtom_100 (by decide) ?_
                    refine k_Ri (va_runV (As := [.int (nI 44), .int (nI 44)]) (rest := []) ⟨hx, hb, hml, hown, hts⟩ (c_X10_isAt l G z ad M_167 (th := th) (ln := ln) (on := on) (ao := ao) (vr := vr) (sn := sn2_156) (tp := tp) (pt := run (bl tb) zs pt2_154) (zs := zs) (bg := run (bl tb) zs pt2_154) (fa := fa) (f := f) (tb := tb) (lo := 44) (hi := 44) hm_170 hm_172 ⟨(run_le ha8), hzs.2⟩ htb hf (by omega) (by omega)) (cwV 2 hts (gV (lwg_of t_1241 rfl) (lwg_of t_1243 rfl) (lwg_of ts_34 rfl) (lwg_of t_13 rfl) (lwg_of t_1244 rfl)) rfl rfl rfl (by decide +kernel) ⟨Nat.le_of_ble_eq_true rfl, Nat.le_of_ble_eq_true rfl⟩) (hI.preV hm_170 rfl) rfl rfl hl.1 rfl (lv_room (Nat.le_of_ble_eq_true rfl)) dX10_readAtom_102 ⟨Nat.le_of_ble_eq_true rfl, Nat.le_of_ble_eq_true rfl⟩) (fun _ h => h) (fun r_179 hp_180 => ?_)
                    rw [hp_180]
                    refine lv_if_ne (tgt := 111) hx hb dX10_readAtom_105 (by decide) (fun c_181 => ?_) (fun c_181 => ?_)
                    · -- 105: bI (isA tb zs (run (bl tb) zs pt2_154) 44 44) ne
                      have c_181 : isA tb zs (run (bl tb) zs pt2_154) 44 44 = true := bI_t (c_181)
                      refine lv_aload_n hx hb dX10_readAtom_111 rfl (lv_at hl 0 rfl) ?_
                      refine h_get (C := RX10) (T := TX10) (N := 38) hx hb hts i_RX10 hown hI hm_170 rfl 19 (by decide) f_63 rfl rfl dX10_readAtom_112 ?_
                      refine lv_iload_n hx hb dX10_readAtom_115 rfl (lv_at hl 1 rfl) ?_
                      refine h_iald (i := 6 + mm) hx hb hI hm_175 (by omega) (by decide) dX10_readAtom_116 ?_
                      refine n_eq (show _ = nI (Lx.length + 1) from congrArg nI (by rw [hap9, va_up_self, hmp.1])) ?_
                      refine lv_iconst (v := nI 4) hx hb dX10_readAtom_117 (by decide) ?_
                      refine lv_icmp_ne (tgt := 123) hx hb dX10_readAtom_118 (by decide) (fun c_182 => ?_) (fun c_182 => ?_)
                      · -- 118: nI (Lx.length + 1) ne
                        have c_182 : Lx.length + 1 ≠ 4 := by have h := mt (nI_eq (a := Lx.length + 1) (b := 4) (by omega) (by omega)).mpr c_182; omega
                        refine lv_aload_n hx hb dX10_readAtom_123 rfl (lv_at hl 0 rfl) ?_
                        refine lv_dup hx hb dX10_readAtom_124 rfl ?_
                        refine h_get (C := RX10) (T := TX10) (N := 38) hx hb hts i_RX10 hown hI hm_170 rfl 27 (by decide) f_161 rfl rfl dX10_readAtom_125 ?_
                        refine lv_iconst (v := nI 1) hx hb dX10_readAtom_128 (by decide) ?_
                        refine lv_iadd hx hb dX10_readAtom_129 ?_
                        refine n_eq (nI_add (run (bl tb) zs pt2_154) 1) ?_
                        refine h_put (C := RX10) (T := TX10) (N := 38) hx hb hts i_RX10 tyX10 tyX10_ok nmX10 hown hI hm_170 rfl 27 (by decide) f_161 rfl rfl rfl rfl (Nat.le_of_ble_eq_true rfl) dX10_readAtom_130 (fun M_183 H_184 locs_185 eM_186 hI => ?_)
                        have hm_187 : M_183 80 = some (aB G 400 f) := by rw [eM_186, va_up_ne _ _ (by decide)]; exact hm_172
                        have hm_188 : M_183 60 = some (cModel ad th ln on ao vr sn2_156 tp ((run (bl tb) zs pt2_154) + 1) zs (run (bl tb) zs pt2_154) fa) := by rw [eM_186]; exact va_up_self _ _ _
                        have hm_189 : M_183 75 = some (aI G 12 (upd ak (6 + mm) (oI (nbr tb zs (run (bl tb) zs (ps tb zs (ps tb zs pt))) 5)))) := by rw [eM_186, va_up_ne _ _ (by decide)]; exact hm_173
                        have hm_190 : M_183 76 = some (aZ G 12 (bF (va_up nt (6 + mm) true))) := by rw [eM_186, va_up_ne _ _ (by decide)]; exact hm_174
                        have hm_191 : M_183 77 = some (aI G 12 (nF ap2_157)) := by rw [eM_186, va_up_ne _ _ (by decide)]; exact hm_175
                        have hm_192 : M_183 78 = some (aI G 48 pr2_158) := by rw [eM_186, va_up_ne _ _ (by decide)]; exact hm_176
                        have hm_193 : M_183 79 = some (aI G 48 pf2_159) := by rw [eM_186, va_up_ne _ _ (by decide)]; exact hm_177
                        have hF_194 : ∀ j : Nat, j ≠ 60 → j ≠ 75 → j ≠ 76 → j ≠ 77 → j ≠ 78 → j ≠ 79 → M_183 j = M j := fun j q0 q1 q2 q3 q4 q5 => by rw [eM_186, va_up_ne _ _ q0]; exact hF_178 j q0 q1 q2 q3 q4 q5
                        refine lv_goto (tgt := 83) hx hb dX10_readAtom_133 (by decide) ?_
                        rw [← sg_ps (c := 44) (by decide) (by assumption)] at hm_188
                        exact ih_140 (ps tb zs pt2_154) (run (bl tb) zs pt2_154) sn2_156 ap2_157 pr2_158 pf2_159 (Lx ++ [(x9, t9)]) M_183 H_184 locs_185 ls (by rw [List.length_append]; simp only [List.length_cons, List.length_nil]; omega) (ps_le ha8) (hu9) (by rw [List.length_append]; simp only [List.length_cons, List.length_nil]; omega) (by rw [hap9, hpr9, hpf9]; exact mpR_add hmp hx9 ht9) (by rw [hap9, hpr9, hpf9]; exact keepM_add hkeep) (by rw [hrd, show 4 - Lx.length = (4 - (Lx ++ [(x9, t9)]).length) + 1 by rw [List.length_append]; simp only [List.length_cons, List.length_nil]; omega, rdParts_c hrp ((sg_i (by decide) htb).mpr (by assumption)), preR_pre]; rfl) hI hm_188 hm_189 hm_190 hm_191 hm_192 hm_193 (fun j q0 q1 q2 q3 q4 q5 => hF_194 j q0 q1 q2 q3 q4 q5) (lv_sub hl [0, 1] rfl)
                      · -- 118: nI (Lx.length + 1) eq
                        have c_182 : Lx.length + 1 = 4 := (nI_eq (a := Lx.length + 1) (b := 4) (by omega) (by omega)).mp (c_182)
                        refine lv_iconst (v := nI 0) hx hb dX10_readAtom_121 (by decide) ?_
                        subst hQ
                        exact e_Ni hx hb hr rfl hlocks hI ⟨false, run (bl tb) zs pt2_154, run (bl tb) zs pt2_154, sn2_156, upd ak (6 + mm) (oI (nbr tb zs (run (bl tb) zs (ps tb zs (ps tb zs pt))) 5)), (va_up nt (6 + mm) true), ap2_157, pr2_158, pf2_159, hm_170, hm_173, hm_174, hm_175, hm_176, hm_177, (fun j q0 q1 q2 q3 q4 q5 => hF_178 j q0 q1 q2 q3 q4 q5), ⟨rfl, run_le ha8, ⟨fun j hj => ⟨up_ne _ _ (by omega), va_up_ne _ _ (by omega)⟩, (by rw [hap9, hpr9, hpf9]; exact keepM_add hkeep)⟩, Or.inl ⟨rfl, (ra_t (tN_y htb hc_27).1).trans (ra_4 hc107 hn6 hc40 (by rw [hrd, show 4 - Lx.length = 0 + 1 by omega, rdParts_c hrp ((sg_i (by decide) htb).mpr (by assumption)), rdParts]; rfl))⟩⟩⟩ dX10_readAtom_122
                    · -- 105: bI (isA tb zs (run (bl tb) zs pt2_154) 44 44) eq
                      have c_181 : isA tb zs (run (bl tb) zs pt2_154) 44 44 = false := bI_f (c_181)
                      refine lv_goto (tgt := 136) hx hb dX10_readAtom_108 (by decide) ?_
                      by_cases hc_195 : isA tb zs (run (bl tb) zs pt2_154) 41 41 = true
                      · skip
                        refine lv_aload_n hx hb dX10_readAtom_136 rfl (lv_at hl 0 rfl) ?_
                        refine lv_bipush (v := nI 41) hx hb dX10_readAtom_137 (by decide) ?_
                        refine k_Ni (va_runV (As := [.int (nI 41)]) (rest := []) ⟨hx, hb, hml, hown, hts⟩ (c_X10_sign l G z ad M_167 (th := th) (ln := ln) (on := on) (ao := ao) (vr := vr) (sn := sn2_156) (tp := tp) (pt := run (bl tb) zs pt2_154) (zs := zs) (bg := run (bl tb) zs pt2_154) (fa := fa) (f := f) (tb := tb) (c0 := 41) hm_170 hm_172 ⟨(run_le ha8), hzs.2⟩ htb hf (by omega)) (cwV 1 hts (gV (lwg_of t_1301 rfl) (lwg_of t_1303 rfl) (lwg_of ts_37 rfl) (lwg_of t_13 rfl) (lwg_of t_1304 rfl)) rfl rfl rfl (by decide +kernel) ⟨Nat.le_of_ble_eq_true rfl, Nat.le_of_ble_eq_true rfl⟩) (hI.preV hm_170 rfl) rfl rfl hl.1 rfl (lv_room (Nat.le_of_ble_eq_true rfl)) dX10_readAtom_139 ⟨Nat.le_of_ble_eq_true rfl, Nat.le_of_ble_eq_true rfl⟩) hI (fun r_196 M_198 H_199 locs_200 hp_197 hI => ?_)
                        obtain ⟨hr_201, hm_202, hF_203⟩ := hp_197
                        have hm_204 : M_198 80 = some (aB G 400 f) := by rw [hF_203 80 (by omega)]; exact hm_172
                        have hm_205 : M_198 75 = some (aI G 12 (upd ak (6 + mm) (oI (nbr tb zs (run (bl tb) zs (ps tb zs (ps tb zs pt))) 5)))) := by rw [hF_203 75 (by omega)]; exact hm_173
                        have hm_206 : M_198 76 = some (aZ G 12 (bF (va_up nt (6 + mm) true))) := by rw [hF_203 76 (by omega)]; exact hm_174
                        have hm_207 : M_198 77 = some (aI G 12 (nF ap2_157)) := by rw [hF_203 77 (by omega)]; exact hm_175
                        have hm_208 : M_198 78 = some (aI G 48 pr2_158) := by rw [hF_203 78 (by omega)]; exact hm_176
                        have hm_209 : M_198 79 = some (aI G 48 pf2_159) := by rw [hF_203 79 (by omega)]; exact hm_177
                        have hF_210 : ∀ j : Nat, j ≠ 60 → j ≠ 75 → j ≠ 76 → j ≠ 77 → j ≠ 78 → j ≠ 79 → M_198 j = M j := fun j q0 q1 q2 q3 q4 q5 => (hF_203 j q0).trans (hF_178 j q0 q1 q2 q3 q4 q5)
                        rw [hr_201]
                        refine n_eq (show _ = bI true from congrArg bI (by rw [run_idem]; exact hc_195)) ?_
                        rw [run_idem] at hm_202
                        rw [if_pos hc_195, ← sg_ps (by decide) hc_195] at hm_202
                        subst hQ
                        exact e_Ni hx hb hr (bI_nar _) hlocks hI ⟨true, ps tb zs pt2_154, run (bl tb) zs pt2_154, sn2_156, upd ak (6 + mm) (oI (nbr tb zs (run (bl tb) zs (ps tb zs (ps tb zs pt))) 5)), (va_up nt (6 + mm) true), ap2_157, pr2_158, pf2_159, hm_202, hm_205, hm_206, hm_207, hm_208, hm_209, (fun j q0 q1 q2 q3 q4 q5 => hF_210 j q0 q1 q2 q3 q4 q5), ⟨rfl, ps_le ha8, ⟨fun j hj => ⟨up_ne _ _ (by omega), va_up_ne _ _ (by omega)⟩, (by rw [hap9, hpr9, hpf9]; exact keepM_add hkeep)⟩, Or.inr ⟨rfl, nmq tb zs (ps tb zs (ps tb zs pt)), Lx ++ [(x9, t9)], (by rw [va_up_self]; exact (ra_t (tN_y htb hc_27).1).trans (ra_5 hc107 hn6 hc40 (by rw [hrd, show 4 - Lx.length = (3 - Lx.length) + 1 by omega, rdParts_e hrp (sg_n (c := 44) (by decide) htb (by assumption)) ((sg_i (by decide) htb).mpr hc_195)]; rfl))), hu9, hq6, ((up_self _ _ _).trans (congrArg oI (nb_y (bd := 6) htb (by decide) hn6).1)), (by rw [hap9, hpr9, hpf9]; exact mpR_add hmp hx9 ht9), (by rw [List.length_append]; exact hs3)⟩⟩⟩ dX10_readAtom_142
                      · skip
                        refine lv_aload_n hx hb dX10_readAtom_136 rfl (lv_at hl 0 rfl) ?_
                        refine lv_bipush (v := nI 41) hx hb dX10_readAtom_137 (by decide) ?_
                        refine k_Ni (va_runV (As := [.int (nI 41)]) (rest := []) ⟨hx, hb, hml, hown, hts⟩ (c_X10_sign l G z ad M_167 (th := th) (ln := ln) (on := on) (ao := ao) (vr := vr) (sn := sn2_156) (tp := tp) (pt := run (bl tb) zs pt2_154) (zs := zs) (bg := run (bl tb) zs pt2_154) (fa := fa) (f := f) (tb := tb) (c0 := 41) hm_170 hm_172 ⟨(run_le ha8), hzs.2⟩ htb hf (by omega)) (cwV 1 hts (gV (lwg_of t_1301 rfl) (lwg_of t_1303 rfl) (lwg_of ts_37 rfl) (lwg_of t_13 rfl) (lwg_of t_1304 rfl)) rfl rfl rfl (by decide +kernel) ⟨Nat.le_of_ble_eq_true rfl, Nat.le_of_ble_eq_true rfl⟩) (hI.preV hm_170 rfl) rfl rfl hl.1 rfl (lv_room (Nat.le_of_ble_eq_true rfl)) dX10_readAtom_139 ⟨Nat.le_of_ble_eq_true rfl, Nat.le_of_ble_eq_true rfl⟩) hI (fun r_211 M_213 H_214 locs_215 hp_212 hI => ?_)
                        obtain ⟨hr_216, hm_217, hF_218⟩ := hp_212
                        have hm_219 : M_213 80 = some (aB G 400 f) := by rw [hF_218 80 (by omega)]; exact hm_172
                        have hm_220 : M_213 75 = some (aI G 12 (upd ak (6 + mm) (oI (nbr tb zs (run (bl tb) zs (ps tb zs (ps tb zs pt))) 5)))) := by rw [hF_218 75 (by omega)]; exact hm_173
                        have hm_221 : M_213 76 = some (aZ G 12 (bF (va_up nt (6 + mm) true))) := by rw [hF_218 76 (by omega)]; exact hm_174
                        have hm_222 : M_213 77 = some (aI G 12 (nF ap2_157)) := by rw [hF_218 77 (by omega)]; exact hm_175
                        have hm_223 : M_213 78 = some (aI G 48 pr2_158) := by rw [hF_218 78 (by omega)]; exact hm_176
                        have hm_224 : M_213 79 = some (aI G 48 pf2_159) := by rw [hF_218 79 (by omega)]; exact hm_177
                        have hF_225 : ∀ j : Nat, j ≠ 60 → j ≠ 75 → j ≠ 76 → j ≠ 77 → j ≠ 78 → j ≠ 79 → M_213 j = M j := fun j q0 q1 q2 q3 q4 q5 => (hF_218 j q0).trans (hF_178 j q0 q1 q2 q3 q4 q5)
                        rw [hr_216]
                        refine n_eq (show _ = bI false from congrArg bI (by rw [run_idem]; exact Bool.eq_false_iff.mpr hc_195)) ?_
                        rw [run_idem] at hm_217
                        rw [if_neg hc_195] at hm_217
                        subst hQ
                        exact e_Ni hx hb hr (bI_nar _) hlocks hI ⟨false, run (bl tb) zs pt2_154, run (bl tb) zs pt2_154, sn2_156, upd ak (6 + mm) (oI (nbr tb zs (run (bl tb) zs (ps tb zs (ps tb zs pt))) 5)), (va_up nt (6 + mm) true), ap2_157, pr2_158, pf2_159, hm_217, hm_220, hm_221, hm_222, hm_223, hm_224, (fun j q0 q1 q2 q3 q4 q5 => hF_225 j q0 q1 q2 q3 q4 q5), ⟨rfl, run_le ha8, ⟨fun j hj => ⟨up_ne _ _ (by omega), va_up_ne _ _ (by omega)⟩, (by rw [hap9, hpr9, hpf9]; exact keepM_add hkeep)⟩, Or.inl ⟨rfl, (ra_t (tN_y htb hc_27).1).trans (ra_4 hc107 hn6 hc40 (by rw [hrd, show 4 - Lx.length = (3 - Lx.length) + 1 by omega, rdParts_n hrp (sg_n (c := 44) (by decide) htb (by assumption)) (sg_n (c := 41) (by decide) htb (Bool.eq_false_iff.mpr hc_195))]; rfl))⟩⟩⟩ dX10_readAtom_142
                  · -- 88: bI b2_153 eq
                    have c_164 : b2_153 = false := bI_f (c_164)
                    obtain ⟨-, hrp, hap8⟩ := hP_152.2.2.2.resolve_right (fun h9 => Bool.noConfusion ((by assumption : b2_153 = false).symm.trans h9.1))
                    rw [va_up_self] at hrp
                    have ha8 := hP_152.2.1
                    refine lv_iconst (v := nI 0) hx hb dX10_readAtom_91 (by decide) ?_
                    subst hQ
                    exact e_Ni hx hb hr rfl hlocks hI ⟨false, pt2_154, bg2_155, sn2_156, upd ak (6 + mm) (oI (nbr tb zs (run (bl tb) zs (ps tb zs (ps tb zs pt))) 5)), (va_up nt (6 + mm) true), ap2_157, pr2_158, pf2_159, hm_147, hm_161, hm_162, hm_148, hm_149, hm_150, (fun j q0 q1 q2 q3 q4 q5 => hF_163 j q0 q1 q2 q3 q4 q5), ⟨rfl, ha8, ⟨fun j hj => ⟨up_ne _ _ (by omega), va_up_ne _ _ (by omega)⟩, keepM_f hkeep hap8 hP_152.2.2.1⟩, Or.inl ⟨rfl, (ra_t (tN_y htb hc_27).1).trans (ra_4 hc107 hn6 hc40 (by rw [hrd, show 4 - Lx.length = (3 - Lx.length) + 1 by omega, rdParts_f hrp]; rfl))⟩⟩⟩ dX10_readAtom_92
              rw [if_pos (by assumption), ← sg_ps (c := 40) (by decide) (by assumption)] at hm_121
              exact lp83_131 ((4 - ([]).length) + 1) (ps tb zs (ps tb zs (ps tb zs (ps tb zs pt)))) (run (bl tb) zs (ps tb zs (ps tb zs (ps tb zs pt)))) sn (va_up ap (6 + mm) 0) pr pf ([]) M_117 H_118 locs_119 ls (Nat.lt_succ_self _) ((ps_le (ps_le (ps_le ple1)))) (hsn) (by decide) (mpR_0) (keepM_0) ((preR_nil _).symm) hI hm_121 hm_124 hm_125 hm_126 hm_127 hm_128 (fun j q0 q1 q2 q3 q4 q5 => hF_129 j q3 q0 q2 q1) (lv_sub hl [1, 0] rfl)
            · -- 78: bI (isA tb zs (run (bl tb) zs (ps tb zs (ps tb zs (ps tb zs  eq
              have c_130 : isA tb zs (run (bl tb) zs (ps tb zs (ps tb zs (ps tb zs pt)))) 40 40 = false := bI_f (c_130)
              refine lv_iconst (v := nI 0) hx hb dX10_readAtom_81 (by decide) ?_
              subst hQ
              exact e_Ni hx hb hr rfl hlocks hI ⟨false, if isA tb zs (run (bl tb) zs (ps tb zs (ps tb zs (ps tb zs pt)))) 40 40 = true then run (bl tb) zs (ps tb zs (ps tb zs (ps tb zs pt))) + 1 else run (bl tb) zs (ps tb zs (ps tb zs (ps tb zs pt))), run (bl tb) zs (ps tb zs (ps tb zs (ps tb zs pt))), sn, upd ak (6 + mm) (oI (nbr tb zs (run (bl tb) zs (ps tb zs (ps tb zs pt))) 5)), (va_up nt (6 + mm) true), (va_up ap (6 + mm) 0), pr, pf, hm_121, hm_124, hm_125, hm_126, hm_127, hm_128, (fun j q0 q1 q2 q3 q4 q5 => hF_129 j q3 q0 q2 q1), ⟨rfl, (by rw [if_neg (by rw [show isA tb zs (run (bl tb) zs (ps tb zs (ps tb zs (ps tb zs pt)))) 40 40 = false by assumption]; exact Bool.false_ne_true)]; exact run_le (ps_le (ps_le ple1))), ⟨fun j hj => ⟨up_ne _ _ (by omega), va_up_ne _ _ (by omega)⟩, keepM_0⟩, Or.inl ⟨rfl, (ra_t (tN_y htb hc_27).1).trans (ra_3 hc107 hn6 (sg_n (c := 40) (by decide) htb (by assumption)))⟩⟩⟩ dX10_readAtom_82
        · skip
          refine lv_aload_n hx hb dX10_readAtom_63 rfl (lv_at hl 1 rfl) ?_
          refine h_get (C := RX10) (T := TX10) (N := 38) hx hb hts i_RX10 hown hI hm_105 rfl 17 (by decide) f_57 rfl rfl dX10_readAtom_64 ?_
          refine lv_iload_n hx hb dX10_readAtom_67 rfl (lv_at hl 0 rfl) ?_
          refine h_iald (i := 6 + mm) hx hb hI hm_107 (by omega) (by decide) dX10_readAtom_68 ?_
          refine n_eq (show _ = (-1) from (up_self _ _ _).trans (congrArg oI (nb_n (bd := 6) htb (by decide) hc_113))) ?_
          refine lv_if_lt (tgt := 81) hx hb dX10_readAtom_69 (by decide) (fun c_226 => ?_) (fun c_226 => ?_)
          · -- 69: (-1) lt
            refine lv_iconst (v := nI 0) hx hb dX10_readAtom_81 (by decide) ?_
            subst hQ
            exact e_Ni hx hb hr rfl hlocks hI ⟨false, run (dgt tb) zs (run (bl tb) zs (ps tb zs (ps tb zs pt))), run (bl tb) zs (ps tb zs (ps tb zs pt)), sn, upd ak (6 + mm) (oI (nbr tb zs (run (bl tb) zs (ps tb zs (ps tb zs pt))) 5)), (va_up nt (6 + mm) true), (va_up ap (6 + mm) 0), pr, pf, hm_105, hm_107, hm_108, hm_109, hm_110, hm_111, (fun j q0 q1 q2 q3 q4 q5 => hF_112 j q3 q0 q2 q1), ⟨rfl, run_le (run_le (ps_le ple1)), ⟨fun j hj => ⟨up_ne _ _ (by omega), va_up_ne _ _ (by omega)⟩, keepM_0⟩, Or.inl ⟨rfl, (ra_t (tN_y htb hc_27).1).trans (ra_2 hc107 (Bool.eq_false_iff.mpr hc_113))⟩⟩⟩ dX10_readAtom_82
          · -- 69: (-1) ge
            exact absurd (by decide) c_226
      · -- 47: bI (isW tb (run (bl tb) zs (ps tb zs pt)) (run (ltr tb) zs ( eq
        have c_85 : isW tb (run (bl tb) zs (ps tb zs pt)) (run (ltr tb) zs (run (bl tb) zs (ps tb zs pt))) 6 = false := bI_f (c_85)
        have k0 := tW_n (k := 6) (c := 107) (p := ps tb zs pt) htb rfl rfl (by decide) (by assumption)
        refine lv_iconst (v := nI 0) hx hb dX10_readAtom_50 (by decide) ?_
        subst hQ
        exact e_Ni hx hb hr rfl hlocks hI ⟨false, run (ltr tb) zs (run (bl tb) zs (ps tb zs pt)), run (bl tb) zs (ps tb zs pt), sn, ak, (va_up nt (6 + mm) true), (va_up ap (6 + mm) 0), pr, pf, hm_77, hm_79, hm_80, hm_81, hm_82, hm_83, (fun j q0 q1 q2 q3 q4 q5 => hF_84 j q3 q0 q2), ⟨rfl, run_le (run_le ple1), ⟨fun j hj => ⟨rfl, va_up_ne _ _ (by omega)⟩, keepM_0⟩, Or.inl ⟨rfl, (ra_t (tN_y htb hc_27).1).trans (ra_1 k0)⟩⟩⟩ dX10_readAtom_51
  · skip
    refine lv_aload_n hx hb dX10_readAtom_21 rfl (lv_at hl 1 rfl) ?_
    refine va_ldcS hx hb hown (iv_str hI (k := 5) (own := "LineStoreModel") (is := 210) (text := "not") rfl) dX10_readAtom_22 ?_
    refine k_Ni (va_runV (As := [.ref (G.2.2.1 5)]) (rest := [.int (nI (6 + mm)), .ref (ad 76)]) ⟨hx, hb, hml, hown, hts⟩ (c_X10_isWord l G z ad M_15 (th := th) (ln := ln) (on := on) (ao := ao) (vr := vr) (sn := sn) (tp := tp) (pt := run (ltr tb) zs (run (bl tb) zs pt)) (zs := zs) (bg := run (bl tb) zs pt) (fa := fa) (f := f) (tb := tb) (k := 5) hm_18 hm_20 ⟨run_le (run_le hzs.1), hzs.2⟩ htb hf (run_ge _ _ _) (by omega)) (cwV 1 hts (gV (lwg_of t_1246 rfl) (lwg_of t_1248 rfl) (lwg_of ts_35 rfl) (lwg_of t_13 rfl) (lwg_of t_1249 rfl)) rfl rfl rfl (by decide +kernel) ⟨Nat.le_of_ble_eq_true rfl, Nat.le_of_ble_eq_true rfl⟩) (hI.preV hm_18 rfl) rfl rfl hl.1 rfl (lv_room (Nat.le_of_ble_eq_true rfl)) dX10_readAtom_24 ⟨Nat.le_of_ble_eq_true rfl, Nat.le_of_ble_eq_true rfl⟩) hI (fun r_227 M_229 H_230 locs_231 hp_228 hI => ?_)
    obtain ⟨hr_232, hF_233⟩ := hp_228
    have hm_234 : M_229 60 = some (cModel ad th ln on ao vr sn tp (run (ltr tb) zs (run (bl tb) zs pt)) zs (run (bl tb) zs pt) fa) := by rw [hF_233 60 ]; exact hm_18
    have hm_235 : M_229 80 = some (aB G 400 f) := by rw [hF_233 80 ]; exact hm_20
    have hm_236 : M_229 75 = some (aI G 12 ak) := by rw [hF_233 75 ]; exact hm_21
    have hm_237 : M_229 76 = some (aZ G 12 (bF nt)) := by rw [hF_233 76 ]; exact hm_22
    have hm_238 : M_229 77 = some (aI G 12 (nF (va_up ap (6 + mm) 0))) := by rw [hF_233 77 ]; exact hm_23
    have hm_239 : M_229 78 = some (aI G 48 pr) := by rw [hF_233 78 ]; exact hm_24
    have hm_240 : M_229 79 = some (aI G 48 pf) := by rw [hF_233 79 ]; exact hm_25
    have hF_241 : ∀ j : Nat, j ≠ 77 → j ≠ 60 → M_229 j = M j := fun j q0 q1 => (hF_233 j).trans (hF_26 j q0 q1)
    rw [hr_232]
    refine n_eq (show _ = bI false from congrArg bI (Bool.eq_false_iff.mpr hc_27)) ?_
    refine h_zast (i := 6 + mm) (x := bI false) hx hb hI hm_237 (by omega) (by decide) (bI_vnar _) dX10_readAtom_27 (fun M_242 H_243 locs_244 eM_245 hI => ?_)
    rw [upd_bF] at eM_245
    have hm_246 : M_242 60 = some (cModel ad th ln on ao vr sn tp (run (ltr tb) zs (run (bl tb) zs pt)) zs (run (bl tb) zs pt) fa) := by rw [eM_245, va_up_ne _ _ (by decide)]; exact hm_234
    have hm_247 : M_242 80 = some (aB G 400 f) := by rw [eM_245, va_up_ne _ _ (by decide)]; exact hm_235
    have hm_248 : M_242 75 = some (aI G 12 ak) := by rw [eM_245, va_up_ne _ _ (by decide)]; exact hm_236
    have hm_249 : M_242 76 = some (aZ G 12 (bF (va_up nt (6 + mm) false))) := by rw [eM_245]; exact va_up_self _ _ _
    have hm_250 : M_242 77 = some (aI G 12 (nF (va_up ap (6 + mm) 0))) := by rw [eM_245, va_up_ne _ _ (by decide)]; exact hm_238
    have hm_251 : M_242 78 = some (aI G 48 pr) := by rw [eM_245, va_up_ne _ _ (by decide)]; exact hm_239
    have hm_252 : M_242 79 = some (aI G 48 pf) := by rw [eM_245, va_up_ne _ _ (by decide)]; exact hm_240
    have hF_253 : ∀ j : Nat, j ≠ 77 → j ≠ 60 → j ≠ 76 → M_242 j = M j := fun j q0 q1 q2 => by rw [eM_245, va_up_ne _ _ q2]; exact hF_241 j q0 q1
    refine lv_aload_n hx hb dX10_readAtom_28 rfl (lv_at hl 1 rfl) ?_
    refine h_get (C := RX10) (T := TX10) (N := 38) hx hb hts i_RX10 hown hI hm_246 rfl 18 (by decide) f_60 rfl rfl dX10_readAtom_29 ?_
    refine lv_iload_n hx hb dX10_readAtom_32 rfl (lv_at hl 0 rfl) ?_
    refine h_zald (i := 6 + mm) hx hb hI hm_249 (by omega) (by decide) dX10_readAtom_33 ?_
    refine n_eq (show _ = bI false from congrArg bI (va_up_self _ _ _)) ?_
    refine lv_if_eq (tgt := 41) hx hb dX10_readAtom_34 (by decide) (fun c_254 => ?_) (fun c_254 => ?_)
    · -- 34: bI false eq
      have c_254 : false = false := bI_f (c_254)
      refine lv_aload_n hx hb dX10_readAtom_41 rfl (lv_at hl 1 rfl) ?_
      refine va_ldcS hx hb hown (iv_str hI (k := 6) (own := "LineStoreModel") (is := 212) (text := "k") rfl) dX10_readAtom_42 ?_
      refine k_Ni (va_runV (As := [.ref (G.2.2.1 6)]) (rest := []) ⟨hx, hb, hml, hown, hts⟩ (c_X10_isWord l G z ad M_242 (th := th) (ln := ln) (on := on) (ao := ao) (vr := vr) (sn := sn) (tp := tp) (pt := run (ltr tb) zs (run (bl tb) zs pt)) (zs := zs) (bg := run (bl tb) zs pt) (fa := fa) (f := f) (tb := tb) (k := 6) hm_246 hm_247 ⟨run_le (run_le hzs.1), hzs.2⟩ htb hf (run_ge _ _ _) (by omega)) (cwV 1 hts (gV (lwg_of t_1246 rfl) (lwg_of t_1248 rfl) (lwg_of ts_35 rfl) (lwg_of t_13 rfl) (lwg_of t_1249 rfl)) rfl rfl rfl (by decide +kernel) ⟨Nat.le_of_ble_eq_true rfl, Nat.le_of_ble_eq_true rfl⟩) (hI.preV hm_246 rfl) rfl rfl hl.1 rfl (lv_room (Nat.le_of_ble_eq_true rfl)) dX10_readAtom_44 ⟨Nat.le_of_ble_eq_true rfl, Nat.le_of_ble_eq_true rfl⟩) hI (fun r_255 M_257 H_258 locs_259 hp_256 hI => ?_)
      obtain ⟨hr_260, hF_261⟩ := hp_256
      have hm_262 : M_257 60 = some (cModel ad th ln on ao vr sn tp (run (ltr tb) zs (run (bl tb) zs pt)) zs (run (bl tb) zs pt) fa) := by rw [hF_261 60 ]; exact hm_246
      have hm_263 : M_257 80 = some (aB G 400 f) := by rw [hF_261 80 ]; exact hm_247
      have hm_264 : M_257 75 = some (aI G 12 ak) := by rw [hF_261 75 ]; exact hm_248
      have hm_265 : M_257 76 = some (aZ G 12 (bF (va_up nt (6 + mm) false))) := by rw [hF_261 76 ]; exact hm_249
      have hm_266 : M_257 77 = some (aI G 12 (nF (va_up ap (6 + mm) 0))) := by rw [hF_261 77 ]; exact hm_250
      have hm_267 : M_257 78 = some (aI G 48 pr) := by rw [hF_261 78 ]; exact hm_251
      have hm_268 : M_257 79 = some (aI G 48 pf) := by rw [hF_261 79 ]; exact hm_252
      have hF_269 : ∀ j : Nat, j ≠ 77 → j ≠ 60 → j ≠ 76 → M_257 j = M j := fun j q0 q1 q2 => (hF_261 j).trans (hF_253 j q0 q1 q2)
      rw [hr_260]
      refine lv_if_ne (tgt := 52) hx hb dX10_readAtom_47 (by decide) (fun c_270 => ?_) (fun c_270 => ?_)
      · -- 47: bI (isW tb (run (bl tb) zs pt) (run (ltr tb) zs (run (bl tb) ne
        have c_270 : isW tb (run (bl tb) zs pt) (run (ltr tb) zs (run (bl tb) zs pt)) 6 = true := bI_t (c_270)
        obtain ⟨hc107, e_k⟩ := tW_y (k := 6) (c := 107) (p := pt) htb rfl rfl (by decide) (by assumption)
        rw [e_k] at hm_262
        refine lv_aload_n hx hb dX10_readAtom_52 rfl (lv_at hl 1 rfl) ?_
        refine h_get (C := RX10) (T := TX10) (N := 38) hx hb hts i_RX10 hown hI hm_262 rfl 17 (by decide) f_57 rfl rfl dX10_readAtom_53 ?_
        refine lv_iload_n hx hb dX10_readAtom_56 rfl (lv_at hl 0 rfl) ?_
        refine lv_aload_n hx hb dX10_readAtom_57 rfl (lv_at hl 1 rfl) ?_
        refine lv_iconst (v := nI 5) hx hb dX10_readAtom_58 (by decide) ?_
        refine k_Ni (va_runV (As := [.int (nI 5)]) (rest := [.int (nI (6 + mm)), .ref (ad 75)]) ⟨hx, hb, hml, hown, hts⟩ (c_X10_number l G z ad M_257 (th := th) (ln := ln) (on := on) (ao := ao) (vr := vr) (sn := sn) (tp := tp) (pt := ps tb zs pt) (zs := zs) (bg := run (bl tb) zs pt) (fa := fa) (f := f) (tb := tb) (hi := 5) hm_262 hm_263 ⟨(ps_le hzs.1), hzs.2⟩ htb hf (by omega)) (cwV 1 hts (gV (lwg_of t_1297 rfl) (lwg_of t_1299 rfl) (lwg_of ts_36 rfl) (lwg_of t_13 rfl) (lwg_of t_1300 rfl)) rfl rfl rfl (by decide +kernel) ⟨Nat.le_of_ble_eq_true rfl, Nat.le_of_ble_eq_true rfl⟩) (hI.preV hm_262 rfl) rfl rfl hl.1 rfl (lv_room (Nat.le_of_ble_eq_true rfl)) dX10_readAtom_59 ⟨Nat.le_of_ble_eq_true rfl, Nat.le_of_ble_eq_true rfl⟩) hI (fun r_271 M_273 H_274 locs_275 hp_272 hI => ?_)
        obtain ⟨hr_276, hm_277, hF_278⟩ := hp_272
        have hm_279 : M_273 80 = some (aB G 400 f) := by rw [hF_278 80 (by omega)]; exact hm_263
        have hm_280 : M_273 75 = some (aI G 12 ak) := by rw [hF_278 75 (by omega)]; exact hm_264
        have hm_281 : M_273 76 = some (aZ G 12 (bF (va_up nt (6 + mm) false))) := by rw [hF_278 76 (by omega)]; exact hm_265
        have hm_282 : M_273 77 = some (aI G 12 (nF (va_up ap (6 + mm) 0))) := by rw [hF_278 77 (by omega)]; exact hm_266
        have hm_283 : M_273 78 = some (aI G 48 pr) := by rw [hF_278 78 (by omega)]; exact hm_267
        have hm_284 : M_273 79 = some (aI G 48 pf) := by rw [hF_278 79 (by omega)]; exact hm_268
        have hF_285 : ∀ j : Nat, j ≠ 77 → j ≠ 60 → j ≠ 76 → M_273 j = M j := fun j q0 q1 q2 => (hF_278 j q1).trans (hF_269 j q0 q1 q2)
        rw [hr_276]
        refine h_iast (i := 6 + mm) (x := oI (nbr tb zs (run (bl tb) zs (ps tb zs pt)) 5)) hx hb hI hm_280 (by omega) (by decide) dX10_readAtom_62 (fun M_286 H_287 locs_288 eM_289 hI => ?_)
        have hm_290 : M_286 60 = some (cModel ad th ln on ao vr sn tp (run (dgt tb) zs (run (bl tb) zs (ps tb zs pt))) zs (run (bl tb) zs (ps tb zs pt)) fa) := by rw [eM_289, va_up_ne _ _ (by decide)]; exact hm_277
        have hm_291 : M_286 80 = some (aB G 400 f) := by rw [eM_289, va_up_ne _ _ (by decide)]; exact hm_279
        have hm_292 : M_286 75 = some (aI G 12 (upd ak (6 + mm) (oI (nbr tb zs (run (bl tb) zs (ps tb zs pt)) 5)))) := by rw [eM_289]; exact va_up_self _ _ _
        have hm_293 : M_286 76 = some (aZ G 12 (bF (va_up nt (6 + mm) false))) := by rw [eM_289, va_up_ne _ _ (by decide)]; exact hm_281
        have hm_294 : M_286 77 = some (aI G 12 (nF (va_up ap (6 + mm) 0))) := by rw [eM_289, va_up_ne _ _ (by decide)]; exact hm_282
        have hm_295 : M_286 78 = some (aI G 48 pr) := by rw [eM_289, va_up_ne _ _ (by decide)]; exact hm_283
        have hm_296 : M_286 79 = some (aI G 48 pf) := by rw [eM_289, va_up_ne _ _ (by decide)]; exact hm_284
        have hF_297 : ∀ j : Nat, j ≠ 77 → j ≠ 60 → j ≠ 76 → j ≠ 75 → M_286 j = M j := fun j q0 q1 q2 q3 => by rw [eM_289, va_up_ne _ _ q3]; exact hF_285 j q0 q1 q2
        by_cases hc_298 : nmb tb zs (ps tb zs pt) 6 = true
        · skip
          refine lv_aload_n hx hb dX10_readAtom_63 rfl (lv_at hl 1 rfl) ?_
          refine h_get (C := RX10) (T := TX10) (N := 38) hx hb hts i_RX10 hown hI hm_290 rfl 17 (by decide) f_57 rfl rfl dX10_readAtom_64 ?_
          refine lv_iload_n hx hb dX10_readAtom_67 rfl (lv_at hl 0 rfl) ?_
          have hn6 := hc_298
          have hq6 := (nmb_val (bd := 6) htb (by decide) hn6).2
          refine h_iald (i := 6 + mm) hx hb hI hm_292 (by omega) (by decide) dX10_readAtom_68 ?_
          refine n_eq (show _ = nI (nmq tb zs (ps tb zs pt)) from (up_self _ _ _).trans (congrArg oI (nb_y (bd := 6) htb (by decide) hn6).1)) ?_
          refine lv_if_lt (tgt := 81) hx hb dX10_readAtom_69 (by decide) (fun c_299 => ?_) (fun c_299 => ?_)
          · -- 69: nI (nmq tb zs (ps tb zs pt)) lt
            have c_299 : nmq tb zs (ps tb zs pt) < 0 := (nI_ltI (a := nmq tb zs (ps tb zs pt)) (b := 0) (by omega) (by omega)).mp (c_299)
            omega
          · -- 69: nI (nmq tb zs (ps tb zs pt)) ge
            have c_299 : 0 ≤ nmq tb zs (ps tb zs pt) := by have h := mt (nI_ltI (a := nmq tb zs (ps tb zs pt)) (b := 0) (by omega) (by omega)).mpr c_299; omega
            rw [(nb_y (bd := 6) htb (by decide) hn6).2] at hm_290
            refine lv_aload_n hx hb dX10_readAtom_72 rfl (lv_at hl 1 rfl) ?_
            refine lv_bipush (v := nI 40) hx hb dX10_readAtom_73 (by decide) ?_
            refine k_Ni (va_runV (As := [.int (nI 40)]) (rest := []) ⟨hx, hb, hml, hown, hts⟩ (c_X10_sign l G z ad M_286 (th := th) (ln := ln) (on := on) (ao := ao) (vr := vr) (sn := sn) (tp := tp) (pt := ps tb zs (ps tb zs pt)) (zs := zs) (bg := run (bl tb) zs (ps tb zs pt)) (fa := fa) (f := f) (tb := tb) (c0 := 40) hm_290 hm_291 ⟨(ps_le (ps_le hzs.1)), hzs.2⟩ htb hf (by omega)) (cwV 1 hts (gV (lwg_of t_1301 rfl) (lwg_of t_1303 rfl) (lwg_of ts_37 rfl) (lwg_of t_13 rfl) (lwg_of t_1304 rfl)) rfl rfl rfl (by decide +kernel) ⟨Nat.le_of_ble_eq_true rfl, Nat.le_of_ble_eq_true rfl⟩) (hI.preV hm_290 rfl) rfl rfl hl.1 rfl (lv_room (Nat.le_of_ble_eq_true rfl)) dX10_readAtom_75 ⟨Nat.le_of_ble_eq_true rfl, Nat.le_of_ble_eq_true rfl⟩) hI (fun r_300 M_302 H_303 locs_304 hp_301 hI => ?_)
            obtain ⟨hr_305, hm_306, hF_307⟩ := hp_301
            have hm_308 : M_302 80 = some (aB G 400 f) := by rw [hF_307 80 (by omega)]; exact hm_291
            have hm_309 : M_302 75 = some (aI G 12 (upd ak (6 + mm) (oI (nbr tb zs (run (bl tb) zs (ps tb zs pt)) 5)))) := by rw [hF_307 75 (by omega)]; exact hm_292
            have hm_310 : M_302 76 = some (aZ G 12 (bF (va_up nt (6 + mm) false))) := by rw [hF_307 76 (by omega)]; exact hm_293
            have hm_311 : M_302 77 = some (aI G 12 (nF (va_up ap (6 + mm) 0))) := by rw [hF_307 77 (by omega)]; exact hm_294
            have hm_312 : M_302 78 = some (aI G 48 pr) := by rw [hF_307 78 (by omega)]; exact hm_295
            have hm_313 : M_302 79 = some (aI G 48 pf) := by rw [hF_307 79 (by omega)]; exact hm_296
            have hF_314 : ∀ j : Nat, j ≠ 77 → j ≠ 60 → j ≠ 76 → j ≠ 75 → M_302 j = M j := fun j q0 q1 q2 q3 => (hF_307 j q1).trans (hF_297 j q0 q1 q2 q3)
            rw [hr_305]
            refine lv_if_ne (tgt := 83) hx hb dX10_readAtom_78 (by decide) (fun c_315 => ?_) (fun c_315 => ?_)
            · -- 78: bI (isA tb zs (run (bl tb) zs (ps tb zs (ps tb zs pt))) 40 4 ne
              have c_315 : isA tb zs (run (bl tb) zs (ps tb zs (ps tb zs pt))) 40 40 = true := bI_t (c_315)
              have lp83_316 : ∀ (fuel : Nat) (p9 : Nat) (gx : Nat) (snx : Nat) (apx : Nat → Nat) (prx : Nat → Int32) (pfx : Nat → Int32) (Lx : List (Nat × Nat)) (Mx : Mem) (Hx : Heap) (locsx : List Loc) (ls : Array Slot), (4 - Lx.length) < fuel → (p9 ≤ zs) → (snx < 8) → (Lx.length < 4) → (mpR apx prx pfx (6 + mm) Lx) → (keepM (6 + mm) ap pr pf apx prx pfx) → (rdParts tb zs false 4 (sk tb zs (ps tb zs (ps tb zs pt))) sn (ps tb zs (ps tb zs (ps tb zs pt))) = preR Lx (rdParts tb zs false (4 - Lx.length) gx snx p9)) → Iv G z ad Mx s Hx locsx → Mx 60 = some (cModel ad th ln on ao vr snx tp p9 zs gx fa) → Mx 75 = some (aI G 12 (upd ak (6 + mm) (oI (nbr tb zs (run (bl tb) zs (ps tb zs pt)) 5)))) → Mx 76 = some (aZ G 12 (bF (va_up nt (6 + mm) false))) → Mx 77 = some (aI G 12 (nF apx)) → Mx 78 = some (aI G 48 prx) → Mx 79 = some (aI G 48 pfx) → (∀ j : Nat, j ≠ 60 → j ≠ 75 → j ≠ 76 → j ≠ 77 → j ≠ 78 → j ≠ 79 → Mx j = M j) → lv_has ls 3 [(0, .ref (ad 60)), (2, .int (nI (6 + mm)))] → W p l e (headSpec wsX10_readAtom rm_c_X10_readAtom).room s m ([.ref (ad 60), .int (nI mm)] : List Value).toArray below meth c Hx locsx 0 0 Q (F0 m 83 ls []) := by
                intro fuel
                induction fuel with
                | zero => intro p9 gx snx apx prx pfx Lx Mx Hx locsx ls hfu hp9 hsnx hLl hmp hkeep hrd hI hm_317 hm_318 hm_319 hm_320 hm_321 hm_322 hF_324 hl; exact absurd hfu (Nat.not_lt_zero _)
                | succ fuel ih_325 =>
                  intro p9 gx snx apx prx pfx Lx Mx Hx locsx ls hfu hp9 hsnx hLl hmp hkeep hrd hI hm_317 hm_318 hm_319 hm_320 hm_321 hm_322 hF_324 hl
                  have hm_326 : Mx 80 = some (aB G 400 f) := by rw [hF_324 80 (by omega) (by omega) (by omega) (by omega) (by omega) (by omega)]; exact h80
                  have hc40 : tkn tb zs (ps tb zs (ps tb zs pt)) = nI 40 := (sg_i (c := 40) (by decide) htb).mpr (by assumption)
                  refine lv_aload_n hx hb dX10_readAtom_83 rfl (lv_at hl 0 rfl) ?_
                  refine lv_iload_n hx hb dX10_readAtom_84 rfl (lv_at hl 1 rfl) ?_
                  refine k_Ni (va_runV (As := [.int (nI (6 + mm))]) (rest := []) ⟨hx, hb, hml, hown, hts⟩ (c_X10_readPart l G z ad Mx (th := th) (ln := ln) (on := on) (ao := ao) (vr := vr) (sn := snx) (tp := tp) (pt := p9) (zs := zs) (bg := gx) (fa := fa) (f := f) (tb := tb) (ap := apx) (pr := prx) (pf := pfx) (nt := (va_up nt (6 + mm) false)) (i := 6 + mm) hm_317 hm_326 hm_320 hm_321 hm_322 hm_319 ⟨hp9, hzs.2⟩ htb hf (by omega) (by rw [hmp.1]; exact hLl) (by omega)) (cwV 1 hts (gV (lwg_of t_1305 rfl) (lwg_of t_1307 rfl) (lwg_of ts_38 rfl) (lwg_of t_13 rfl) (lwg_of t_1308 rfl)) rfl rfl rfl (by decide +kernel) ⟨Nat.le_of_ble_eq_true rfl, Nat.le_of_ble_eq_true rfl⟩) (hI.preV hm_317 rfl) rfl rfl hl.1 rfl (lv_room (Nat.le_of_ble_eq_true rfl)) dX10_readAtom_85 ⟨Nat.le_of_ble_eq_true rfl, Nat.le_of_ble_eq_true rfl⟩) hI (fun r_327 M_329 H_330 locs_331 hp_328 hI => ?_)
                  obtain ⟨b2_338, pt2_339, bg2_340, sn2_341, ap2_342, pr2_343, pf2_344, hm_332, hm_333, hm_334, hm_335, hF_336, hP_337⟩ := hp_328
                  have hm_345 : M_329 80 = some (aB G 400 f) := by rw [hF_336 80 (by omega) (by omega) (by omega) (by omega)]; exact hm_326
                  have hm_346 : M_329 75 = some (aI G 12 (upd ak (6 + mm) (oI (nbr tb zs (run (bl tb) zs (ps tb zs pt)) 5)))) := by rw [hF_336 75 (by omega) (by omega) (by omega) (by omega)]; exact hm_318
                  have hm_347 : M_329 76 = some (aZ G 12 (bF (va_up nt (6 + mm) false))) := by rw [hF_336 76 (by omega) (by omega) (by omega) (by omega)]; exact hm_319
                  have hF_348 : ∀ j : Nat, j ≠ 60 → j ≠ 75 → j ≠ 76 → j ≠ 77 → j ≠ 78 → j ≠ 79 → M_329 j = M j := fun j q0 q1 q2 q3 q4 q5 => (hF_336 j q0 q3 q4 q5).trans (hF_324 j q0 q1 q2 q3 q4 q5)
                  refine n_eq (show _ = bI b2_338 from hP_337.1) ?_
                  refine lv_if_ne (tgt := 93) hx hb dX10_readAtom_88 (by decide) (fun c_349 => ?_) (fun c_349 => ?_)
                  · -- 88: bI b2_338 ne
                    have c_349 : b2_338 = true := bI_t (c_349)
                    obtain ⟨-, x9, t9, hrp, hx9, ht9, hu9, hap9, hpr9, hpf9⟩ := hP_337.2.2.2.resolve_left (fun h9 => Bool.noConfusion ((by assumption : b2_338 = true).symm.trans h9.1))
                    rw [va_up_self] at hrp
                    have ha8 := hP_337.2.1
                    have hs3 : Lx.length + 1 ≤ 4 := hLl
                    refine lv_aload_n hx hb dX10_readAtom_93 rfl (lv_at hl 0 rfl) ?_
                    refine k_Nv (va_runV (As := []) (rest := []) ⟨hx, hb, hml, hown, hts⟩ (c_X10_blanks l G z ad M_329 (th := th) (ln := ln) (on := on) (ao := ao) (vr := vr) (sn := sn2_341) (tp := tp) (pt := pt2_339) (zs := zs) (bg := bg2_340) (fa := fa) (f := f) (tb := tb) hm_332 hm_345 ⟨ha8, hzs.2⟩ htb hf) (cwV 0 hts (gV (lwg_of t_1237 rfl) (lwg_of t_1239 rfl) (lwg_of ts_33 rfl) (lwg_of t_13 rfl) (lwg_of t_1240 rfl)) rfl rfl rfl (by decide +kernel) ⟨Nat.le_of_ble_eq_true rfl, Nat.le_of_ble_eq_true rfl⟩) (hI.preV hm_332 rfl) rfl rfl hl.1 rfl (lv_room (Nat.le_of_ble_eq_true rfl)) dX10_readAtom_94 ⟨Nat.le_of_ble_eq_true rfl, Nat.le_of_ble_eq_true rfl⟩) hI (fun M_352 H_353 locs_354 hp_351 hI => ?_)
                    obtain ⟨hm_355, hF_356⟩ := hp_351
                    have hm_357 : M_352 80 = some (aB G 400 f) := by rw [hF_356 80 (by omega)]; exact hm_345
                    have hm_358 : M_352 75 = some (aI G 12 (upd ak (6 + mm) (oI (nbr tb zs (run (bl tb) zs (ps tb zs pt)) 5)))) := by rw [hF_356 75 (by omega)]; exact hm_346
                    have hm_359 : M_352 76 = some (aZ G 12 (bF (va_up nt (6 + mm) false))) := by rw [hF_356 76 (by omega)]; exact hm_347
                    have hm_360 : M_352 77 = some (aI G 12 (nF ap2_342)) := by rw [hF_356 77 (by omega)]; exact hm_333
                    have hm_361 : M_352 78 = some (aI G 48 pr2_343) := by rw [hF_356 78 (by omega)]; exact hm_334
                    have hm_362 : M_352 79 = some (aI G 48 pf2_344) := by rw [hF_356 79 (by omega)]; exact hm_335
                    have hF_363 : ∀ j : Nat, j ≠ 60 → j ≠ 75 → j ≠ 76 → j ≠ 77 → j ≠ 78 → j ≠ 79 → M_352 j = M j := fun j q0 q1 q2 q3 q4 q5 => (hF_356 j q0).trans (hF_348 j q0 q1 q2 q3 q4 q5)
                    refine lv_aload_n hx hb dX10_readAtom_97 rfl (lv_at hl 0 rfl) ?_
                    refine lv_bipush (v := nI 44) hx hb dX10_readAtom_98 (by decide) ?_
                    refine lv_bipush (v := nI 44) hx hb dX10_readAtom_100 (by decide) ?_
                    refine k_Ri (va_runV (As := [.int (nI 44), .int (nI 44)]) (rest := []) ⟨hx, hb, hml, hown, hts⟩ (c_X10_isAt l G z ad M_352 (th := th) (ln := ln) (on := on) (ao := ao) (vr := vr) (sn := sn2_341) (tp := tp) (pt := run (bl tb) zs pt2_339) (zs := zs) (bg := run (bl tb) zs pt2_339) (fa := fa) (f := f) (tb := tb) (lo := 44) (hi := 44) hm_355 hm_357 ⟨(run_le ha8), hzs.2⟩ htb hf (by omega) (by omega)) (cwV 2 hts (gV (lwg_of t_1241 rfl) (lwg_of t_1243 rfl) (lwg_of ts_34 rfl) (lwg_of t_13 rfl) (lwg_of t_1244 rfl)) rfl rfl rfl (by decide +kernel) ⟨Nat.le_of_ble_eq_true rfl, Nat.le_of_ble_eq_true rfl⟩) (hI.preV hm_355 rfl) rfl rfl hl.1 rfl (lv_room (Nat.le_of_ble_eq_true rfl)) dX10_readAtom_102 ⟨Nat.le_of_ble_eq_true rfl, Nat.le_of_ble_eq_true rfl⟩) (fun _ h => h) (fun r_364 hp_365 => ?_)
                    rw [hp_365]
                    refine lv_if_ne (tgt := 111) hx hb dX10_readAtom_105 (by decide) (fun c_366 => ?_) (fun c_366 => ?_)
                    · -- 105: bI (isA tb zs (run (bl tb) zs pt2_339) 44 44) ne
                      have c_366 : isA tb zs (run (bl tb) zs pt2_339) 44 44 = true := bI_t (c_366)
                      refine lv_aload_n hx hb dX10_readAtom_111 rfl (lv_at hl 0 rfl) ?_
                      refine h_get (C := RX10) (T := TX10) (N := 38) hx hb hts i_RX10 hown hI hm_355 rfl 19 (by decide) f_63 rfl rfl dX10_readAtom_112 ?_
                      refine lv_iload_n hx hb dX10_readAtom_115 rfl (lv_at hl 1 rfl) ?_
                      refine h_iald (i := 6 + mm) hx hb hI hm_360 (by omega) (by decide) dX10_readAtom_116 ?_
                      refine n_eq (show _ = nI (Lx.length + 1) from congrArg nI (by rw [hap9, va_up_self, hmp.1])) ?_
                      refine lv_iconst (v := nI 4) hx hb dX10_readAtom_117 (by decide) ?_
                      refine lv_icmp_ne (tgt := 123) hx hb dX10_readAtom_118 (by decide) (fun c_367 => ?_) (fun c_367 => ?_)
                      · -- 118: nI (Lx.length + 1) ne
                        have c_367 : Lx.length + 1 ≠ 4 := by have h := mt (nI_eq (a := Lx.length + 1) (b := 4) (by omega) (by omega)).mpr c_367; omega
                        refine lv_aload_n hx hb dX10_readAtom_123 rfl (lv_at hl 0 rfl) ?_
                        refine lv_dup hx hb dX10_readAtom_124 rfl ?_
                        refine h_get (C := RX10) (T := TX10) (N := 38) hx hb hts i_RX10 hown hI hm_355 rfl 27 (by decide) f_161 rfl rfl dX10_readAtom_125 ?_
                        refine lv_iconst (v := nI 1) hx hb dX10_readAtom_128 (by decide) ?_
                        refine lv_iadd hx hb dX10_readAtom_129 ?_
                        refine n_eq (nI_add (run (bl tb) zs pt2_339) 1) ?_
                        refine h_put (C := RX10) (T := TX10) (N := 38) hx hb hts i_RX10 tyX10 tyX10_ok nmX10 hown hI hm_355 rfl 27 (by decide) f_161 rfl rfl rfl rfl (Nat.le_of_ble_eq_true rfl) dX10_readAtom_130 (fun M_368 H_369 locs_370 eM_371 hI => ?_)
                        have hm_372 : M_368 80 = some (aB G 400 f) := by rw [eM_371, va_up_ne _ _ (by decide)]; exact hm_357
                        have hm_373 : M_368 60 = some (cModel ad th ln on ao vr sn2_341 tp ((run (bl tb) zs pt2_339) + 1) zs (run (bl tb) zs pt2_339) fa) := by rw [eM_371]; exact va_up_self _ _ _
                        have hm_374 : M_368 75 = some (aI G 12 (upd ak (6 + mm) (oI (nbr tb zs (run (bl tb) zs (ps tb zs pt)) 5)))) := by rw [eM_371, va_up_ne _ _ (by decide)]; exact hm_358
                        have hm_375 : M_368 76 = some (aZ G 12 (bF (va_up nt (6 + mm) false))) := by rw [eM_371, va_up_ne _ _ (by decide)]; exact hm_359
                        have hm_376 : M_368 77 = some (aI G 12 (nF ap2_342)) := by rw [eM_371, va_up_ne _ _ (by decide)]; exact hm_360
                        have hm_377 : M_368 78 = some (aI G 48 pr2_343) := by rw [eM_371, va_up_ne _ _ (by decide)]; exact hm_361
                        have hm_378 : M_368 79 = some (aI G 48 pf2_344) := by rw [eM_371, va_up_ne _ _ (by decide)]; exact hm_362
                        have hF_379 : ∀ j : Nat, j ≠ 60 → j ≠ 75 → j ≠ 76 → j ≠ 77 → j ≠ 78 → j ≠ 79 → M_368 j = M j := fun j q0 q1 q2 q3 q4 q5 => by rw [eM_371, va_up_ne _ _ q0]; exact hF_363 j q0 q1 q2 q3 q4 q5
                        refine lv_goto (tgt := 83) hx hb dX10_readAtom_133 (by decide) ?_
                        rw [← sg_ps (c := 44) (by decide) (by assumption)] at hm_373
                        exact ih_325 (ps tb zs pt2_339) (run (bl tb) zs pt2_339) sn2_341 ap2_342 pr2_343 pf2_344 (Lx ++ [(x9, t9)]) M_368 H_369 locs_370 ls (by rw [List.length_append]; simp only [List.length_cons, List.length_nil]; omega) (ps_le ha8) (hu9) (by rw [List.length_append]; simp only [List.length_cons, List.length_nil]; omega) (by rw [hap9, hpr9, hpf9]; exact mpR_add hmp hx9 ht9) (by rw [hap9, hpr9, hpf9]; exact keepM_add hkeep) (by rw [hrd, show 4 - Lx.length = (4 - (Lx ++ [(x9, t9)]).length) + 1 by rw [List.length_append]; simp only [List.length_cons, List.length_nil]; omega, rdParts_c hrp ((sg_i (by decide) htb).mpr (by assumption)), preR_pre]; rfl) hI hm_373 hm_374 hm_375 hm_376 hm_377 hm_378 (fun j q0 q1 q2 q3 q4 q5 => hF_379 j q0 q1 q2 q3 q4 q5) (lv_sub hl [0, 1] rfl)
                      · -- 118: nI (Lx.length + 1) eq
                        have c_367 : Lx.length + 1 = 4 := (nI_eq (a := Lx.length + 1) (b := 4) (by omega) (by omega)).mp (c_367)
                        refine lv_iconst (v := nI 0) hx hb dX10_readAtom_121 (by decide) ?_
                        subst hQ
                        exact e_Ni hx hb hr rfl hlocks hI ⟨false, run (bl tb) zs pt2_339, run (bl tb) zs pt2_339, sn2_341, upd ak (6 + mm) (oI (nbr tb zs (run (bl tb) zs (ps tb zs pt)) 5)), (va_up nt (6 + mm) false), ap2_342, pr2_343, pf2_344, hm_355, hm_358, hm_359, hm_360, hm_361, hm_362, (fun j q0 q1 q2 q3 q4 q5 => hF_363 j q0 q1 q2 q3 q4 q5), ⟨rfl, run_le ha8, ⟨fun j hj => ⟨up_ne _ _ (by omega), va_up_ne _ _ (by omega)⟩, (by rw [hap9, hpr9, hpf9]; exact keepM_add hkeep)⟩, Or.inl ⟨rfl, (ra_ff (tN_n htb (Bool.eq_false_iff.mpr hc_27))).trans (ra_4 hc107 hn6 hc40 (by rw [hrd, show 4 - Lx.length = 0 + 1 by omega, rdParts_c hrp ((sg_i (by decide) htb).mpr (by assumption)), rdParts]; rfl))⟩⟩⟩ dX10_readAtom_122
                    · -- 105: bI (isA tb zs (run (bl tb) zs pt2_339) 44 44) eq
                      have c_366 : isA tb zs (run (bl tb) zs pt2_339) 44 44 = false := bI_f (c_366)
                      refine lv_goto (tgt := 136) hx hb dX10_readAtom_108 (by decide) ?_
                      by_cases hc_380 : isA tb zs (run (bl tb) zs pt2_339) 41 41 = true
                      · skip
                        refine lv_aload_n hx hb dX10_readAtom_136 rfl (lv_at hl 0 rfl) ?_
                        refine lv_bipush (v := nI 41) hx hb dX10_readAtom_137 (by decide) ?_
                        refine k_Ni (va_runV (As := [.int (nI 41)]) (rest := []) ⟨hx, hb, hml, hown, hts⟩ (c_X10_sign l G z ad M_352 (th := th) (ln := ln) (on := on) (ao := ao) (vr := vr) (sn := sn2_341) (tp := tp) (pt := run (bl tb) zs pt2_339) (zs := zs) (bg := run (bl tb) zs pt2_339) (fa := fa) (f := f) (tb := tb) (c0 := 41) hm_355 hm_357 ⟨(run_le ha8), hzs.2⟩ htb hf (by omega)) (cwV 1 hts (gV (lwg_of t_1301 rfl) (lwg_of t_1303 rfl) (lwg_of ts_37 rfl) (lwg_of t_13 rfl) (lwg_of t_1304 rfl)) rfl rfl rfl (by decide +kernel) ⟨Nat.le_of_ble_eq_true rfl, Nat.le_of_ble_eq_true rfl⟩) (hI.preV hm_355 rfl) rfl rfl hl.1 rfl (lv_room (Nat.le_of_ble_eq_true rfl)) dX10_readAtom_139 ⟨Nat.le_of_ble_eq_true rfl, Nat.le_of_ble_eq_true rfl⟩) hI (fun r_381 M_383 H_384 locs_385 hp_382 hI => ?_)
                        obtain ⟨hr_386, hm_387, hF_388⟩ := hp_382
                        have hm_389 : M_383 80 = some (aB G 400 f) := by rw [hF_388 80 (by omega)]; exact hm_357
                        have hm_390 : M_383 75 = some (aI G 12 (upd ak (6 + mm) (oI (nbr tb zs (run (bl tb) zs (ps tb zs pt)) 5)))) := by rw [hF_388 75 (by omega)]; exact hm_358
                        have hm_391 : M_383 76 = some (aZ G 12 (bF (va_up nt (6 + mm) false))) := by rw [hF_388 76 (by omega)]; exact hm_359
                        have hm_392 : M_383 77 = some (aI G 12 (nF ap2_342)) := by rw [hF_388 77 (by omega)]; exact hm_360
                        have hm_393 : M_383 78 = some (aI G 48 pr2_343) := by rw [hF_388 78 (by omega)]; exact hm_361
                        have hm_394 : M_383 79 = some (aI G 48 pf2_344) := by rw [hF_388 79 (by omega)]; exact hm_362
                        have hF_395 : ∀ j : Nat, j ≠ 60 → j ≠ 75 → j ≠ 76 → j ≠ 77 → j ≠ 78 → j ≠ 79 → M_383 j = M j := fun j q0 q1 q2 q3 q4 q5 => (hF_388 j q0).trans (hF_363 j q0 q1 q2 q3 q4 q5)
                        rw [hr_386]
                        refine n_eq (show _ = bI true from congrArg bI (by rw [run_idem]; exact hc_380)) ?_
                        rw [run_idem] at hm_387
                        rw [if_pos hc_380, ← sg_ps (by decide) hc_380] at hm_387
                        subst hQ
                        exact e_Ni hx hb hr (bI_nar _) hlocks hI ⟨true, ps tb zs pt2_339, run (bl tb) zs pt2_339, sn2_341, upd ak (6 + mm) (oI (nbr tb zs (run (bl tb) zs (ps tb zs pt)) 5)), (va_up nt (6 + mm) false), ap2_342, pr2_343, pf2_344, hm_387, hm_390, hm_391, hm_392, hm_393, hm_394, (fun j q0 q1 q2 q3 q4 q5 => hF_395 j q0 q1 q2 q3 q4 q5), ⟨rfl, ps_le ha8, ⟨fun j hj => ⟨up_ne _ _ (by omega), va_up_ne _ _ (by omega)⟩, (by rw [hap9, hpr9, hpf9]; exact keepM_add hkeep)⟩, Or.inr ⟨rfl, nmq tb zs (ps tb zs pt), Lx ++ [(x9, t9)], (by rw [va_up_self]; exact (ra_ff (tN_n htb (Bool.eq_false_iff.mpr hc_27))).trans (ra_5 hc107 hn6 hc40 (by rw [hrd, show 4 - Lx.length = (3 - Lx.length) + 1 by omega, rdParts_e hrp (sg_n (c := 44) (by decide) htb (by assumption)) ((sg_i (by decide) htb).mpr hc_380)]; rfl))), hu9, hq6, ((up_self _ _ _).trans (congrArg oI (nb_y (bd := 6) htb (by decide) hn6).1)), (by rw [hap9, hpr9, hpf9]; exact mpR_add hmp hx9 ht9), (by rw [List.length_append]; exact hs3)⟩⟩⟩ dX10_readAtom_142
                      · skip
                        refine lv_aload_n hx hb dX10_readAtom_136 rfl (lv_at hl 0 rfl) ?_
                        refine lv_bipush (v := nI 41) hx hb dX10_readAtom_137 (by decide) ?_
                        refine k_Ni (va_runV (As := [.int (nI 41)]) (rest := []) ⟨hx, hb, hml, hown, hts⟩ (c_X10_sign l G z ad M_352 (th := th) (ln := ln) (on := on) (ao := ao) (vr := vr) (sn := sn2_341) (tp := tp) (pt := run (bl tb) zs pt2_339) (zs := zs) (bg := run (bl tb) zs pt2_339) (fa := fa) (f := f) (tb := tb) (c0 := 41) hm_355 hm_357 ⟨(run_le ha8), hzs.2⟩ htb hf (by omega)) (cwV 1 hts (gV (lwg_of t_1301 rfl) (lwg_of t_1303 rfl) (lwg_of ts_37 rfl) (lwg_of t_13 rfl) (lwg_of t_1304 rfl)) rfl rfl rfl (by decide +kernel) ⟨Nat.le_of_ble_eq_true rfl, Nat.le_of_ble_eq_true rfl⟩) (hI.preV hm_355 rfl) rfl rfl hl.1 rfl (lv_room (Nat.le_of_ble_eq_true rfl)) dX10_readAtom_139 ⟨Nat.le_of_ble_eq_true rfl, Nat.le_of_ble_eq_true rfl⟩) hI (fun r_396 M_398 H_399 locs_400 hp_397 hI => ?_)
                        obtain ⟨hr_401, hm_402, hF_403⟩ := hp_397
                        have hm_404 : M_398 80 = some (aB G 400 f) := by rw [hF_403 80 (by omega)]; exact hm_357
                        have hm_405 : M_398 75 = some (aI G 12 (upd ak (6 + mm) (oI (nbr tb zs (run (bl tb) zs (ps tb zs pt)) 5)))) := by rw [hF_403 75 (by omega)]; exact hm_358
                        have hm_406 : M_398 76 = some (aZ G 12 (bF (va_up nt (6 + mm) false))) := by rw [hF_403 76 (by omega)]; exact hm_359
                        have hm_407 : M_398 77 = some (aI G 12 (nF ap2_342)) := by rw [hF_403 77 (by omega)]; exact hm_360
                        have hm_408 : M_398 78 = some (aI G 48 pr2_343) := by rw [hF_403 78 (by omega)]; exact hm_361
                        have hm_409 : M_398 79 = some (aI G 48 pf2_344) := by rw [hF_403 79 (by omega)]; exact hm_362
                        have hF_410 : ∀ j : Nat, j ≠ 60 → j ≠ 75 → j ≠ 76 → j ≠ 77 → j ≠ 78 → j ≠ 79 → M_398 j = M j := fun j q0 q1 q2 q3 q4 q5 => (hF_403 j q0).trans (hF_363 j q0 q1 q2 q3 q4 q5)
                        rw [hr_401]
                        refine n_eq (show _ = bI false from congrArg bI (by rw [run_idem]; exact Bool.eq_false_iff.mpr hc_380)) ?_
                        rw [run_idem] at hm_402
                        rw [if_neg hc_380] at hm_402
                        subst hQ
                        exact e_Ni hx hb hr (bI_nar _) hlocks hI ⟨false, run (bl tb) zs pt2_339, run (bl tb) zs pt2_339, sn2_341, upd ak (6 + mm) (oI (nbr tb zs (run (bl tb) zs (ps tb zs pt)) 5)), (va_up nt (6 + mm) false), ap2_342, pr2_343, pf2_344, hm_402, hm_405, hm_406, hm_407, hm_408, hm_409, (fun j q0 q1 q2 q3 q4 q5 => hF_410 j q0 q1 q2 q3 q4 q5), ⟨rfl, run_le ha8, ⟨fun j hj => ⟨up_ne _ _ (by omega), va_up_ne _ _ (by omega)⟩, (by rw [hap9, hpr9, hpf9]; exact keepM_add hkeep)⟩, Or.inl ⟨rfl, (ra_ff (tN_n htb (Bool.eq_false_iff.mpr hc_27))).trans (ra_4 hc107 hn6 hc40 (by rw [hrd, show 4 - Lx.length = (3 - Lx.length) + 1 by omega, rdParts_n hrp (sg_n (c := 44) (by decide) htb (by assumption)) (sg_n (c := 41) (by decide) htb (Bool.eq_false_iff.mpr hc_380))]; rfl))⟩⟩⟩ dX10_readAtom_142
                  · -- 88: bI b2_338 eq
                    have c_349 : b2_338 = false := bI_f (c_349)
                    obtain ⟨-, hrp, hap8⟩ := hP_337.2.2.2.resolve_right (fun h9 => Bool.noConfusion ((by assumption : b2_338 = false).symm.trans h9.1))
                    rw [va_up_self] at hrp
                    have ha8 := hP_337.2.1
                    refine lv_iconst (v := nI 0) hx hb dX10_readAtom_91 (by decide) ?_
                    subst hQ
                    exact e_Ni hx hb hr rfl hlocks hI ⟨false, pt2_339, bg2_340, sn2_341, upd ak (6 + mm) (oI (nbr tb zs (run (bl tb) zs (ps tb zs pt)) 5)), (va_up nt (6 + mm) false), ap2_342, pr2_343, pf2_344, hm_332, hm_346, hm_347, hm_333, hm_334, hm_335, (fun j q0 q1 q2 q3 q4 q5 => hF_348 j q0 q1 q2 q3 q4 q5), ⟨rfl, ha8, ⟨fun j hj => ⟨up_ne _ _ (by omega), va_up_ne _ _ (by omega)⟩, keepM_f hkeep hap8 hP_337.2.2.1⟩, Or.inl ⟨rfl, (ra_ff (tN_n htb (Bool.eq_false_iff.mpr hc_27))).trans (ra_4 hc107 hn6 hc40 (by rw [hrd, show 4 - Lx.length = (3 - Lx.length) + 1 by omega, rdParts_f hrp]; rfl))⟩⟩⟩ dX10_readAtom_92
              rw [if_pos (by assumption), ← sg_ps (c := 40) (by decide) (by assumption)] at hm_306
              exact lp83_316 ((4 - ([]).length) + 1) (ps tb zs (ps tb zs (ps tb zs pt))) (run (bl tb) zs (ps tb zs (ps tb zs pt))) sn (va_up ap (6 + mm) 0) pr pf ([]) M_302 H_303 locs_304 ls (Nat.lt_succ_self _) ((ps_le (ps_le (ps_le hzs.1)))) (hsn) (by decide) (mpR_0) (keepM_0) ((preR_nil _).symm) hI hm_306 hm_309 hm_310 hm_311 hm_312 hm_313 (fun j q0 q1 q2 q3 q4 q5 => hF_314 j q3 q0 q2 q1) (lv_sub hl [1, 0] rfl)
            · -- 78: bI (isA tb zs (run (bl tb) zs (ps tb zs (ps tb zs pt))) 40 4 eq
              have c_315 : isA tb zs (run (bl tb) zs (ps tb zs (ps tb zs pt))) 40 40 = false := bI_f (c_315)
              refine lv_iconst (v := nI 0) hx hb dX10_readAtom_81 (by decide) ?_
              subst hQ
              exact e_Ni hx hb hr rfl hlocks hI ⟨false, if isA tb zs (run (bl tb) zs (ps tb zs (ps tb zs pt))) 40 40 = true then run (bl tb) zs (ps tb zs (ps tb zs pt)) + 1 else run (bl tb) zs (ps tb zs (ps tb zs pt)), run (bl tb) zs (ps tb zs (ps tb zs pt)), sn, upd ak (6 + mm) (oI (nbr tb zs (run (bl tb) zs (ps tb zs pt)) 5)), (va_up nt (6 + mm) false), (va_up ap (6 + mm) 0), pr, pf, hm_306, hm_309, hm_310, hm_311, hm_312, hm_313, (fun j q0 q1 q2 q3 q4 q5 => hF_314 j q3 q0 q2 q1), ⟨rfl, (by rw [if_neg (by rw [show isA tb zs (run (bl tb) zs (ps tb zs (ps tb zs pt))) 40 40 = false by assumption]; exact Bool.false_ne_true)]; exact run_le (ps_le (ps_le hzs.1))), ⟨fun j hj => ⟨up_ne _ _ (by omega), va_up_ne _ _ (by omega)⟩, keepM_0⟩, Or.inl ⟨rfl, (ra_ff (tN_n htb (Bool.eq_false_iff.mpr hc_27))).trans (ra_3 hc107 hn6 (sg_n (c := 40) (by decide) htb (by assumption)))⟩⟩⟩ dX10_readAtom_82
        · skip
          refine lv_aload_n hx hb dX10_readAtom_63 rfl (lv_at hl 1 rfl) ?_
          refine h_get (C := RX10) (T := TX10) (N := 38) hx hb hts i_RX10 hown hI hm_290 rfl 17 (by decide) f_57 rfl rfl dX10_readAtom_64 ?_
          refine lv_iload_n hx hb dX10_readAtom_67 rfl (lv_at hl 0 rfl) ?_
          refine h_iald (i := 6 + mm) hx hb hI hm_292 (by omega) (by decide) dX10_readAtom_68 ?_
          refine n_eq (show _ = (-1) from (up_self _ _ _).trans (congrArg oI (nb_n (bd := 6) htb (by decide) hc_298))) ?_
          refine lv_if_lt (tgt := 81) hx hb dX10_readAtom_69 (by decide) (fun c_411 => ?_) (fun c_411 => ?_)
          · -- 69: (-1) lt
            refine lv_iconst (v := nI 0) hx hb dX10_readAtom_81 (by decide) ?_
            subst hQ
            exact e_Ni hx hb hr rfl hlocks hI ⟨false, run (dgt tb) zs (run (bl tb) zs (ps tb zs pt)), run (bl tb) zs (ps tb zs pt), sn, upd ak (6 + mm) (oI (nbr tb zs (run (bl tb) zs (ps tb zs pt)) 5)), (va_up nt (6 + mm) false), (va_up ap (6 + mm) 0), pr, pf, hm_290, hm_292, hm_293, hm_294, hm_295, hm_296, (fun j q0 q1 q2 q3 q4 q5 => hF_297 j q3 q0 q2 q1), ⟨rfl, run_le (run_le (ps_le hzs.1)), ⟨fun j hj => ⟨up_ne _ _ (by omega), va_up_ne _ _ (by omega)⟩, keepM_0⟩, Or.inl ⟨rfl, (ra_ff (tN_n htb (Bool.eq_false_iff.mpr hc_27))).trans (ra_2 hc107 (Bool.eq_false_iff.mpr hc_298))⟩⟩⟩ dX10_readAtom_82
          · -- 69: (-1) ge
            exact absurd (by decide) c_411
      · -- 47: bI (isW tb (run (bl tb) zs pt) (run (ltr tb) zs (run (bl tb) eq
        have c_270 : isW tb (run (bl tb) zs pt) (run (ltr tb) zs (run (bl tb) zs pt)) 6 = false := bI_f (c_270)
        have k0 := tW_n (k := 6) (c := 107) (p := pt) htb rfl rfl (by decide) (by assumption)
        refine lv_iconst (v := nI 0) hx hb dX10_readAtom_50 (by decide) ?_
        subst hQ
        exact e_Ni hx hb hr rfl hlocks hI ⟨false, run (ltr tb) zs (run (bl tb) zs pt), run (bl tb) zs pt, sn, ak, (va_up nt (6 + mm) false), (va_up ap (6 + mm) 0), pr, pf, hm_262, hm_264, hm_265, hm_266, hm_267, hm_268, (fun j q0 q1 q2 q3 q4 q5 => hF_269 j q3 q0 q2), ⟨rfl, run_le (run_le hzs.1), ⟨fun j hj => ⟨rfl, va_up_ne _ _ (by omega)⟩, keepM_0⟩, Or.inl ⟨rfl, (ra_ff (tN_n htb (Bool.eq_false_iff.mpr hc_27))).trans (ra_1 k0)⟩⟩⟩ dX10_readAtom_51
    · -- 34: bI false ne
      have c_254 : false = true := bI_t (c_254)
      exact absurd (by assumption : false = true) (by decide)
