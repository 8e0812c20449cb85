/-- the first k of b are a's from o on; from o on b is a -/
def cpO {α : Type} (o k : Nat) (a b : Nat → α) : Prop := (∀ j, j < k → b j = a (o + j)) ∧ ∀ j, o ≤ j → b j = a j
theorem cpO_0 {α : Type} {o : Nat} {a : Nat → α} : cpO o 0 a a := ⟨fun j hj => absurd hj (Nat.not_lt_zero j), fun _ _ => rfl⟩
theorem cpO_s {α : Type} {o k : Nat} {a b : Nat → α} (h : cpO o k a b) (hk : k < o) : cpO o (k + 1) a (va_up b k (b (o + k))) := ⟨lt_s2 (fun j hj => (va_up_ne _ _ (by omega)).trans (h.1 j hj)) ((va_up_self _ _ _).trans (h.2 _ (by omega))), fun j hj => (va_up_ne _ _ (by omega)).trans (h.2 j hj)⟩
theorem mqR_cp {ak ak2 : Nat → Int32} {nt nt2 : Nat → Bool} {ap ap2 : Nat → Nat} {pr pf pr2 pf2 : Nat → Int32} {A : List Atom} {k : Nat} (h : mqR ak nt ap pr pf 6 A) (hk : A.length ≤ k) (h1 : cpO 6 k ak ak2) (h2 : cpO 6 k nt nt2) (h3 : cpO 6 k ap ap2) (h4 : cpO 24 (4 * k) pr pr2) (h5 : cpO 24 (4 * k) pf pf2) : mqR ak2 nt2 ap2 pr2 pf2 0 A := by
  intro i hi
  obtain ⟨a1, a2, a3, ⟨a4, a5, a6⟩, a7⟩ := h i hi
  rw [Nat.zero_add]
  refine ⟨(h1.1 i (by omega)).trans a1, a2, (h2.1 i (by omega)).trans a3, ⟨(h3.1 i (by omega)).trans a4, fun j hj => ?_, a6⟩, a7⟩
  have b1 := h4.1 (4 * i + j) (by omega)
  have b2 := h5.1 (4 * i + j) (by omega)
  have b3 := a5 j hj
  rw [show 24 + (4 * i + j) = 4 * (6 + i) + j by omega] at b1 b2
  exact ⟨b1.trans b3.1, b2.trans b3.2⟩

/-- X10_question -/
abbrev rm_c_X10_question : Room := { frames := 8, cells := 0, slots := 0, locals := 174 }
set_option maxHeartbeats 4000000 in
set_option maxRecDepth 100000 in
theorem c_X10_question (l : Launch) (G : GG) (z : Nat) (ad : Nat → Nat) (M : Mem) {th : Nat} {ln : Nat} {on : Nat} {ao : Nat} {vr : Nat} {sn : Nat} {tp : Nat} {pt : Nat} {zs : Nat} {bg : Nat} {fa : Int32} {f : Nat → Int32} {tb : Nat → Nat} {ak : Nat → Int32} {nt : Nat → Bool} {ap : Nat → Nat} {pr : Nat → Int32} {pf : Nat → Int32} {A : List Atom} {u : Nat} (h60 : M 60 = some (cModel ad th ln on ao vr sn tp pt zs bg fa)) (h80 : M 80 = some (aB G 400 f)) (h75 : M 75 = some (aI G 12 ak)) (h76 : M 76 = some (aZ G 12 (bF nt))) (h77 : M 77 = some (aI G 12 (nF ap))) (h78 : M 78 = some (aI G 48 pr)) (h79 : M 79 = some (aI G 48 pf)) (hz4 : tp ≤ 400) (htb : ∀ j, j < tp → tb j < 256) (hf : ∀ j, j < tp → f j = sB (tb j)) (hok : rdAll tb tp 6 0 0 0 = .inr (A, u)) : Met l yX10_question wsX10_question rm_c_X10_question (Pr G z ad M [.ref (ad 60)]) (Ni G z ad (fun (r : Int32) (M' : Mem) => ∃ pt2 : Nat, ∃ bg2 : Nat, ∃ ak2 : Nat → Int32, ∃ nt2 : Nat → Bool, ∃ ap2 : Nat → Nat, ∃ pr2 : Nat → Int32, ∃ pf2 : Nat → Int32, r = nI A.length ∧ M' 60 = some (cModel ad 0 ln on A.length u u 0 pt2 tp bg2 (-1)) ∧ M' 75 = some (aI G 12 ak2) ∧ M' 76 = some (aZ G 12 (bF nt2)) ∧ M' 77 = some (aI G 12 (nF ap2)) ∧ M' 78 = some (aI G 48 pr2) ∧ M' 79 = some (aI G 48 pf2) ∧ (∀ j : Nat, j ≠ 60 → j ≠ 75 → j ≠ 76 → j ≠ 77 → j ≠ 78 → j ≠ 79 → M' j = M j) ∧ (u < 8 ∧ (0 < A.length ∧ A.length ≤ 6) ∧ mqR ak2 nt2 ap2 pr2 pf2 0 A))) 0 0 (fr z) := by
  refine Met.ofW (cc := cX10_question) (maxL := 4) (ret := (some .int)) (by decide) rfl ?_
  intro p e s m args below meth c s₁ B hml hv
  obtain ⟨rfl, hv⟩ := hv
  have hI := Iv.entry hv
  have hx := B.exec
  have hb := B.bytes
  have hr := B.returns
  have hts := atoms_spec (ws := wsX10_question) B.pre
  have hown : s.vm.findClass RX10 = some m.cls := findClass_of_methodNamed B.named
  have hlocks := B.notSynchronized
  have f_3 := hts _ (List.mem_cons_of_mem _ (lwg_of t_1013 rfl))
  have i_RX10 : ∀ w ∈ u_ws RX10 TX10 38, w ∈ wsX10_question := fun w h => List.mem_cons_of_mem _ (iu_X10 w h)
  have f_158 := hts _ (List.mem_cons_of_mem _ (lwg_of t_1039 rfl))
  have f_164 := hts _ (List.mem_cons_of_mem _ (lwg_of t_1041 rfl))
  have f_76 := hts _ (List.mem_cons_of_mem _ (lwg_of t_1043 rfl))
  have f_226 := hts _ (List.mem_cons_of_mem _ (lwg_of t_1035 rfl))
  have f_207 := hts _ (List.mem_cons_of_mem _ (lwg_of t_1037 rfl))
  have f_229 := hts _ (List.mem_cons_of_mem _ (lwg_of t_1036 rfl))
  have f_57 := hts _ (List.mem_cons_of_mem _ (lwg_of t_1030 rfl))
  have f_60 := hts _ (List.mem_cons_of_mem _ (lwg_of t_1031 rfl))
  have f_63 := hts _ (List.mem_cons_of_mem _ (lwg_of t_1032 rfl))
  have f_66 := hts _ (List.mem_cons_of_mem _ (lwg_of t_1033 rfl))
  have f_69 := hts _ (List.mem_cons_of_mem _ (lwg_of t_1034 rfl))
  have hl := lv_entry ([.ref (ad 60)]) (n := 4) (Nat.le_of_ble_eq_true rfl)
  rw [lg_entry_eq]
  generalize (lg_sl ([.ref (ad 60)]) ++ List.replicate (4 - (lg_sl ([.ref (ad 60)])).length) Slot.unset).toArray = ls at hl ⊢
  have hl : lv_has ls 4 [(0, .ref (ad 60))] := hl
  refine w_q (fun Q hQ => ?_)
  refine lv_aload_n hx hb dX10_question_0 rfl (lv_at hl 0 rfl) ?_
  refine lv_iconst (v := nI 0) hx hb dX10_question_1 (by decide) ?_
  refine h_put (C := RX10) (T := TX10) (N := 38) hx hb hts i_RX10 tyX10 tyX10_ok nmX10 hown hI h60 rfl 0 (by decide) f_3 rfl rfl rfl rfl (Nat.le_of_ble_eq_true rfl) dX10_question_2 (fun M_1 H_2 locs_3 eM_4 hI => ?_)
  have hm_5 : M_1 60 = some (cModel ad 0 ln on ao vr sn tp pt zs bg fa) := by rw [eM_4]; exact va_up_self _ _ _
  have hm_6 : M_1 80 = some (aB G 400 f) := by rw [eM_4, va_up_ne _ _ (by decide)]; exact h80
  have hm_7 : M_1 75 = some (aI G 12 ak) := by rw [eM_4, va_up_ne _ _ (by decide)]; exact h75
  have hm_8 : M_1 76 = some (aZ G 12 (bF nt)) := by rw [eM_4, va_up_ne _ _ (by decide)]; exact h76
  have hm_9 : M_1 77 = some (aI G 12 (nF ap)) := by rw [eM_4, va_up_ne _ _ (by decide)]; exact h77
  have hm_10 : M_1 78 = some (aI G 48 pr) := by rw [eM_4, va_up_ne _ _ (by decide)]; exact h78
  have hm_11 : M_1 79 = some (aI G 48 pf) := by rw [eM_4, va_up_ne _ _ (by decide)]; exact h79
  have hF_12 : ∀ j : Nat, j ≠ 60 → M_1 j = M j := fun j q0 => by rw [eM_4, va_up_ne _ _ q0]
  refine lv_aload_n hx hb dX10_question_5 rfl (lv_at hl 0 rfl) ?_
  refine lv_aload_n hx hb dX10_question_6 rfl (lv_at hl 0 rfl) ?_
  refine h_get (C := RX10) (T := TX10) (N := 38) hx hb hts i_RX10 hown hI hm_5 rfl 26 (by decide) f_158 rfl rfl dX10_question_7 ?_
  refine h_put (C := RX10) (T := TX10) (N := 38) hx hb hts i_RX10 tyX10 tyX10_ok nmX10 hown hI hm_5 rfl 28 (by decide) f_164 rfl rfl rfl rfl (Nat.le_of_ble_eq_true rfl) dX10_question_10 (fun M_13 H_14 locs_15 eM_16 hI => ?_)
  have hm_17 : M_13 60 = some (cModel ad 0 ln on ao vr sn tp pt tp bg fa) := by rw [eM_16]; exact va_up_self _ _ _
  have hm_18 : M_13 80 = some (aB G 400 f) := by rw [eM_16, va_up_ne _ _ (by decide)]; exact hm_6
  have hm_19 : M_13 75 = some (aI G 12 ak) := by rw [eM_16, va_up_ne _ _ (by decide)]; exact hm_7
  have hm_20 : M_13 76 = some (aZ G 12 (bF nt)) := by rw [eM_16, va_up_ne _ _ (by decide)]; exact hm_8
  have hm_21 : M_13 77 = some (aI G 12 (nF ap)) := by rw [eM_16, va_up_ne _ _ (by decide)]; exact hm_9
  have hm_22 : M_13 78 = some (aI G 48 pr) := by rw [eM_16, va_up_ne _ _ (by decide)]; exact hm_10
  have hm_23 : M_13 79 = some (aI G 48 pf) := by rw [eM_16, va_up_ne _ _ (by decide)]; exact hm_11
  have hF_24 : ∀ j : Nat, j ≠ 60 → M_13 j = M j := fun j q0 => by rw [eM_16, va_up_ne _ _ q0]; exact hF_12 j q0
  refine lv_aload_n hx hb dX10_question_13 rfl (lv_at hl 0 rfl) ?_
  refine lv_iconst (v := nI 0) hx hb dX10_question_14 (by decide) ?_
  refine h_put (C := RX10) (T := TX10) (N := 38) hx hb hts i_RX10 tyX10 tyX10_ok nmX10 hown hI hm_17 rfl 26 (by decide) f_158 rfl rfl rfl rfl (Nat.le_of_ble_eq_true rfl) dX10_question_15 (fun M_25 H_26 locs_27 eM_28 hI => ?_)
  have hm_29 : M_25 60 = some (cModel ad 0 ln on ao vr sn 0 pt tp bg fa) := by rw [eM_28]; exact va_up_self _ _ _
  have hm_30 : M_25 80 = some (aB G 400 f) := by rw [eM_28, va_up_ne _ _ (by decide)]; exact hm_18
  have hm_31 : M_25 75 = some (aI G 12 ak) := by rw [eM_28, va_up_ne _ _ (by decide)]; exact hm_19
  have hm_32 : M_25 76 = some (aZ G 12 (bF nt)) := by rw [eM_28, va_up_ne _ _ (by decide)]; exact hm_20
  have hm_33 : M_25 77 = some (aI G 12 (nF ap)) := by rw [eM_28, va_up_ne _ _ (by decide)]; exact hm_21
  have hm_34 : M_25 78 = some (aI G 48 pr) := by rw [eM_28, va_up_ne _ _ (by decide)]; exact hm_22
  have hm_35 : M_25 79 = some (aI G 48 pf) := by rw [eM_28, va_up_ne _ _ (by decide)]; exact hm_23
  have hF_36 : ∀ j : Nat, j ≠ 60 → M_25 j = M j := fun j q0 => by rw [eM_28, va_up_ne _ _ q0]; exact hF_24 j q0
  refine lv_aload_n hx hb dX10_question_18 rfl (lv_at hl 0 rfl) ?_
  refine k_Ni (va_runV (As := []) (rest := []) ⟨hx, hb, hml, hown, hts⟩ (c_X10_readAll l G z ad M_25 (th := 0) (ln := ln) (on := on) (ao := ao) (vr := vr) (sn := sn) (tp := 0) (pt := pt) (zs := tp) (bg := bg) (fa := fa) (f := f) (tb := tb) (ak := ak) (nt := nt) (ap := ap) (pr := pr) (pf := pf) hm_29 hm_30 hm_31 hm_32 hm_33 hm_34 hm_35 (by omega) htb hf) (cwV 0 hts (gV (lwg_of t_1225 rfl) (lwg_of t_1227 rfl) (lwg_of ts_30 rfl) (lwg_of t_13 rfl) (lwg_of t_1228 rfl)) rfl rfl rfl (by decide +kernel) ⟨Nat.le_of_ble_eq_true rfl, Nat.le_of_ble_eq_true rfl⟩) (hI.preV hm_29 rfl) rfl rfl hl.1 rfl (lv_room (Nat.le_of_ble_eq_true rfl)) dX10_question_19 ⟨Nat.le_of_ble_eq_true rfl, Nat.le_of_ble_eq_true rfl⟩) hI (fun r_37 M_39 H_40 locs_41 hp_38 hI => ?_)
  obtain ⟨o2_50, pt2_51, bg2_52, sn2_53, ak2_54, nt2_55, ap2_56, pr2_57, pf2_58, hm_42, hm_43, hm_44, hm_45, hm_46, hm_47, hF_48, hP_49⟩ := hp_38
  have hm_59 : M_39 80 = some (aB G 400 f) := by rw [hF_48 80 (by omega) (by omega) (by omega) (by omega) (by omega) (by omega)]; exact hm_30
  have hF_60 : ∀ j : Nat, j ≠ 60 → j ≠ 75 → j ≠ 76 → j ≠ 77 → j ≠ 78 → j ≠ 79 → M_39 j = M j := fun j q0 q1 q2 q3 q4 q5 => (hF_48 j q0 q1 q2 q3 q4 q5).trans (hF_36 j q0)
  obtain ⟨A2, ho2, hA2, hu8, hAl, hq6⟩ := hP_49.2.2.resolve_left (fun h9 => by rw [hok] at h9; cases h9.2)
  have hAA := Sum.inr.inj (hok.symm.trans hA2)
  obtain ⟨rfl, rfl⟩ := Prod.mk.inj hAA
  refine n_eq (show r_37 = nI A.length from by rw [hP_49.1, ho2]; rfl) ?_
  refine lv_istore_n (lv' := [(1, .int (nI A.length)), (0, .ref (ad 60))]) hx hb dX10_question_22 rfl hl (by decide) rfl (fun ls hl => ?_)
  refine lv_aload_n hx hb dX10_question_23 rfl (lv_at hl 1 rfl) ?_
  refine lv_iload_n hx hb dX10_question_24 rfl (lv_at hl 0 rfl) ?_
  refine lv_if_ge (tgt := 35) hx hb dX10_question_25 (by decide) (fun c_61 => ?_) (fun c_61 => ?_)
  · -- 25: nI A.length ge
    have c_61 : 0 ≤ A.length := (nI_leI (a := 0) (b := A.length) (by omega) (by omega)).mp (c_61)
    refine lv_iconst (v := (-1)) hx hb dX10_question_35 (by decide) ?_
    refine h_put (C := RX10) (T := TX10) (N := 38) hx hb hts i_RX10 tyX10 tyX10_ok nmX10 hown hI hm_42 rfl 30 (by decide) f_76 rfl rfl rfl rfl (Nat.le_of_ble_eq_true rfl) dX10_question_36 (fun M_62 H_63 locs_64 eM_65 hI => ?_)
    have hm_66 : M_62 60 = some (cModel ad 0 ln on ao vr u 0 pt2_51 tp bg2_52 (-1)) := by rw [eM_65]; exact va_up_self _ _ _
    have hm_67 : M_62 80 = some (aB G 400 f) := by rw [eM_65, va_up_ne _ _ (by decide)]; exact hm_59
    have hm_68 : M_62 75 = some (aI G 12 ak2_54) := by rw [eM_65, va_up_ne _ _ (by decide)]; exact hm_43
    have hm_69 : M_62 76 = some (aZ G 12 (bF nt2_55)) := by rw [eM_65, va_up_ne _ _ (by decide)]; exact hm_44
    have hm_70 : M_62 77 = some (aI G 12 (nF ap2_56)) := by rw [eM_65, va_up_ne _ _ (by decide)]; exact hm_45
    have hm_71 : M_62 78 = some (aI G 48 pr2_57) := by rw [eM_65, va_up_ne _ _ (by decide)]; exact hm_46
    have hm_72 : M_62 79 = some (aI G 48 pf2_58) := by rw [eM_65, va_up_ne _ _ (by decide)]; exact hm_47
    have hF_73 : ∀ j : Nat, j ≠ 60 → j ≠ 75 → j ≠ 76 → j ≠ 77 → j ≠ 78 → j ≠ 79 → M_62 j = M j := fun j q0 q1 q2 q3 q4 q5 => by rw [eM_65, va_up_ne _ _ q0]; exact hF_60 j q0 q1 q2 q3 q4 q5
    refine lv_aload_n hx hb dX10_question_39 rfl (lv_at hl 1 rfl) ?_
    refine lv_iload_n hx hb dX10_question_40 rfl (lv_at hl 0 rfl) ?_
    refine lv_if_ge (tgt := 48) hx hb dX10_question_41 (by decide) (fun c_74 => ?_) (fun c_74 => ?_)
    · -- 41: nI A.length ge
      have c_74 : 0 ≤ A.length := (nI_leI (a := 0) (b := A.length) (by omega) (by omega)).mp (c_74)
      refine lv_iconst (v := nI 0) hx hb dX10_question_48 (by decide) ?_
      refine lv_iconst (v := nI 1) hx hb dX10_question_49 (by decide) ?_
      refine k_Ri (va_runV (As := [.int (nI 0), .int (nI 1)]) (rest := []) ⟨hx, hb, hml, hown, hts⟩ (c_X10_throwsIf_0 l G z ad M_62 (th := 0) (ln := ln) (on := on) (ao := ao) (vr := vr) (sn := u) (tp := 0) (pt := pt2_51) (zs := tp) (bg := bg2_52) (fa := (-1)) (c0 := 1) hm_66) (cwV 2 hts (gV (lwg_of t_1141 rfl) (lwg_of t_1143 rfl) (lwg_of ts_23 rfl) (lwg_of t_13 rfl) (lwg_of t_1144 rfl)) rfl rfl rfl (by decide +kernel) ⟨Nat.le_of_ble_eq_true rfl, Nat.le_of_ble_eq_true rfl⟩) (hI.preV hm_66 rfl) rfl rfl hl.1 rfl (lv_room (Nat.le_of_ble_eq_true rfl)) dX10_question_50 ⟨Nat.le_of_ble_eq_true rfl, Nat.le_of_ble_eq_true rfl⟩) (fun _ h => h) (fun r_75 hp_76 => ?_)
      rw [hp_76]
      refine lv_if_eq (tgt := 58) hx hb dX10_question_53 (by decide) (fun c_77 => ?_) (fun c_77 => ?_)
      · -- 53: nI 0 eq
        refine lv_aload_n hx hb dX10_question_58 rfl (lv_at hl 1 rfl) ?_
        refine lv_iload_n hx hb dX10_question_59 rfl (lv_at hl 0 rfl) ?_
        refine h_put (C := RX10) (T := TX10) (N := 38) hx hb hts i_RX10 tyX10 tyX10_ok nmX10 hown hI hm_66 rfl 22 (by decide) f_226 rfl rfl rfl rfl (Nat.le_of_ble_eq_true rfl) dX10_question_60 (fun M_78 H_79 locs_80 eM_81 hI => ?_)
        have hm_82 : M_78 60 = some (cModel ad 0 ln on A.length vr u 0 pt2_51 tp bg2_52 (-1)) := by rw [eM_81]; exact va_up_self _ _ _
        have hm_83 : M_78 80 = some (aB G 400 f) := by rw [eM_81, va_up_ne _ _ (by decide)]; exact hm_67
        have hm_84 : M_78 75 = some (aI G 12 ak2_54) := by rw [eM_81, va_up_ne _ _ (by decide)]; exact hm_68
        have hm_85 : M_78 76 = some (aZ G 12 (bF nt2_55)) := by rw [eM_81, va_up_ne _ _ (by decide)]; exact hm_69
        have hm_86 : M_78 77 = some (aI G 12 (nF ap2_56)) := by rw [eM_81, va_up_ne _ _ (by decide)]; exact hm_70
        have hm_87 : M_78 78 = some (aI G 48 pr2_57) := by rw [eM_81, va_up_ne _ _ (by decide)]; exact hm_71
        have hm_88 : M_78 79 = some (aI G 48 pf2_58) := by rw [eM_81, va_up_ne _ _ (by decide)]; exact hm_72
        have hF_89 : ∀ j : Nat, j ≠ 60 → j ≠ 75 → j ≠ 76 → j ≠ 77 → j ≠ 78 → j ≠ 79 → M_78 j = M j := fun j q0 q1 q2 q3 q4 q5 => by rw [eM_81, va_up_ne _ _ q0]; exact hF_73 j q0 q1 q2 q3 q4 q5
        refine lv_aload_n hx hb dX10_question_63 rfl (lv_at hl 1 rfl) ?_
        refine lv_aload_n hx hb dX10_question_64 rfl (lv_at hl 1 rfl) ?_
        refine h_get (C := RX10) (T := TX10) (N := 38) hx hb hts i_RX10 hown hI hm_82 rfl 24 (by decide) f_207 rfl rfl dX10_question_65 ?_
        refine h_put (C := RX10) (T := TX10) (N := 38) hx hb hts i_RX10 tyX10 tyX10_ok nmX10 hown hI hm_82 rfl 23 (by decide) f_229 rfl rfl rfl rfl (Nat.le_of_ble_eq_true rfl) dX10_question_68 (fun M_90 H_91 locs_92 eM_93 hI => ?_)
        have hm_94 : M_90 60 = some (cModel ad 0 ln on A.length u u 0 pt2_51 tp bg2_52 (-1)) := by rw [eM_93]; exact va_up_self _ _ _
        have hm_95 : M_90 80 = some (aB G 400 f) := by rw [eM_93, va_up_ne _ _ (by decide)]; exact hm_83
        have hm_96 : M_90 75 = some (aI G 12 ak2_54) := by rw [eM_93, va_up_ne _ _ (by decide)]; exact hm_84
        have hm_97 : M_90 76 = some (aZ G 12 (bF nt2_55)) := by rw [eM_93, va_up_ne _ _ (by decide)]; exact hm_85
        have hm_98 : M_90 77 = some (aI G 12 (nF ap2_56)) := by rw [eM_93, va_up_ne _ _ (by decide)]; exact hm_86
        have hm_99 : M_90 78 = some (aI G 48 pr2_57) := by rw [eM_93, va_up_ne _ _ (by decide)]; exact hm_87
        have hm_100 : M_90 79 = some (aI G 48 pf2_58) := by rw [eM_93, va_up_ne _ _ (by decide)]; exact hm_88
        have hF_101 : ∀ j : Nat, j ≠ 60 → j ≠ 75 → j ≠ 76 → j ≠ 77 → j ≠ 78 → j ≠ 79 → M_90 j = M j := fun j q0 q1 q2 q3 q4 q5 => by rw [eM_93, va_up_ne _ _ q0]; exact hF_89 j q0 q1 q2 q3 q4 q5
        refine lv_iconst (v := nI 0) hx hb dX10_question_71 (by decide) ?_
        refine lv_istore_n (lv' := [(2, .int (nI 0)), (1, .int (nI A.length)), (0, .ref (ad 60))]) hx hb dX10_question_72 rfl hl (by decide) rfl (fun ls hl => ?_)
        have lp73_102 : ∀ (fuel : Nat) (k : Nat) (akx : Nat → Int32) (ntx : Nat → Bool) (apx : Nat → Nat) (prx : Nat → Int32) (pfx : Nat → Int32) (Mx : Mem) (Hx : Heap) (locsx : List Loc) (ls : Array Slot), (A.length - k) < fuel → (k ≤ A.length) → (cpO 6 k ak2_54 akx) → (cpO 6 k nt2_55 ntx) → (cpO 6 k ap2_56 apx) → (cpO 24 (4 * k) pr2_57 prx) → (cpO 24 (4 * k) pf2_58 pfx) → Iv G z ad Mx s Hx locsx → Mx 60 = some (cModel ad 0 ln on A.length u u 0 pt2_51 tp bg2_52 (-1)) → Mx 75 = some (aI G 12 akx) → Mx 76 = some (aZ G 12 (bF ntx)) → Mx 77 = some (aI G 12 (nF apx)) → Mx 78 = some (aI G 48 prx) → Mx 79 = some (aI G 48 pfx) → (∀ j : Nat, j ≠ 60 → j ≠ 75 → j ≠ 76 → j ≠ 77 → j ≠ 78 → j ≠ 79 → Mx j = M j) → lv_has ls 4 [(0, .ref (ad 60)), (1, .int (nI A.length)), (2, .int (nI k))] → W p l e (headSpec wsX10_question rm_c_X10_question).room s m ([.ref (ad 60)] : List Value).toArray below meth c Hx locsx 0 0 Q (F0 m 73 ls []) := by
          intro fuel
          induction fuel with
          | zero => intro k akx ntx apx prx pfx Mx Hx locsx ls hfu hk hc1 hc2 hc3 hc4 hc5 hI hm_103 hm_104 hm_105 hm_106 hm_107 hm_108 hF_110 hl; exact absurd hfu (Nat.not_lt_zero _)
          | succ fuel ih_111 =>
            intro k akx ntx apx prx pfx Mx Hx locsx ls hfu hk hc1 hc2 hc3 hc4 hc5 hI hm_103 hm_104 hm_105 hm_106 hm_107 hm_108 hF_110 hl
            have hm_112 : Mx 80 = some (aB G 400 f) := by rw [hF_110 80 (by omega) (by omega) (by omega) (by omega) (by omega) (by omega)]; exact h80
            refine lv_iload_n hx hb dX10_question_73 rfl (lv_at hl 2 rfl) ?_
            refine lv_iload_n hx hb dX10_question_74 rfl (lv_at hl 1 rfl) ?_
            refine lv_icmp_ge (tgt := 188) hx hb dX10_question_75 (by decide) (fun c_113 => ?_) (fun c_113 => ?_)
            · -- 75: nI k ge
              have c_113 : A.length ≤ k := (nI_leI (a := A.length) (b := k) (by omega) (by omega)).mp (c_113)
              refine lv_iload_n hx hb dX10_question_188 rfl (lv_at hl 1 rfl) ?_
              subst hQ
              exact e_Ni hx hb hr rfl hlocks hI ⟨pt2_51, bg2_52, akx, ntx, apx, prx, pfx, rfl, hm_103, hm_104, hm_105, hm_106, hm_107, hm_108, (fun j q0 q1 q2 q3 q4 q5 => hF_110 j q0 q1 q2 q3 q4 q5), ⟨hu8, hAl, mqR_cp hq6 (by omega) hc1 hc2 hc3 hc4 hc5⟩⟩ dX10_question_189
            · -- 75: nI k lt
              have c_113 : k < A.length := by have h := mt (nI_leI (a := A.length) (b := k) (by omega) (by omega)).mpr c_113; omega
              refine lv_aload_n hx hb dX10_question_78 rfl (lv_at hl 0 rfl) ?_
              refine h_get (C := RX10) (T := TX10) (N := 38) hx hb hts i_RX10 hown hI hm_103 rfl 17 (by decide) f_57 rfl rfl dX10_question_79 ?_
              refine lv_iload_n hx hb dX10_question_82 rfl (lv_at hl 2 rfl) ?_
              refine lv_aload_n hx hb dX10_question_83 rfl (lv_at hl 0 rfl) ?_
              refine h_get (C := RX10) (T := TX10) (N := 38) hx hb hts i_RX10 hown hI hm_103 rfl 17 (by decide) f_57 rfl rfl dX10_question_84 ?_
              refine lv_bipush (v := nI 6) hx hb dX10_question_87 (by decide) ?_
              refine lv_iload_n hx hb dX10_question_89 rfl (lv_at hl 2 rfl) ?_
              refine lv_iadd hx hb dX10_question_90 ?_
              refine n_eq (nI_add 6 k) ?_
              refine h_iald (i := 6 + k) hx hb hI hm_104 (by omega) (by decide) dX10_question_91 ?_
              refine h_iast (i := k) (x := akx (6 + k)) hx hb hI hm_104 (by omega) (by decide) dX10_question_92 (fun M_114 H_115 locs_116 eM_117 hI => ?_)
              have hm_118 : M_114 80 = some (aB G 400 f) := by rw [eM_117, va_up_ne _ _ (by decide)]; exact hm_112
              have hm_119 : M_114 60 = some (cModel ad 0 ln on A.length u u 0 pt2_51 tp bg2_52 (-1)) := by rw [eM_117, va_up_ne _ _ (by decide)]; exact hm_103
              have hm_120 : M_114 75 = some (aI G 12 (upd akx k (akx (6 + k)))) := by rw [eM_117]; exact va_up_self _ _ _
              have hm_121 : M_114 76 = some (aZ G 12 (bF ntx)) := by rw [eM_117, va_up_ne _ _ (by decide)]; exact hm_105
              have hm_122 : M_114 77 = some (aI G 12 (nF apx)) := by rw [eM_117, va_up_ne _ _ (by decide)]; exact hm_106
              have hm_123 : M_114 78 = some (aI G 48 prx) := by rw [eM_117, va_up_ne _ _ (by decide)]; exact hm_107
              have hm_124 : M_114 79 = some (aI G 48 pfx) := by rw [eM_117, va_up_ne _ _ (by decide)]; exact hm_108
              have hF_125 : ∀ j : Nat, j ≠ 60 → j ≠ 75 → j ≠ 76 → j ≠ 77 → j ≠ 78 → j ≠ 79 → M_114 j = M j := fun j q0 q1 q2 q3 q4 q5 => by rw [eM_117, va_up_ne _ _ q1]; exact hF_110 j q0 q1 q2 q3 q4 q5
              refine lv_aload_n hx hb dX10_question_93 rfl (lv_at hl 0 rfl) ?_
              refine h_get (C := RX10) (T := TX10) (N := 38) hx hb hts i_RX10 hown hI hm_119 rfl 18 (by decide) f_60 rfl rfl dX10_question_94 ?_
              refine lv_iload_n hx hb dX10_question_97 rfl (lv_at hl 2 rfl) ?_
              refine lv_aload_n hx hb dX10_question_98 rfl (lv_at hl 0 rfl) ?_
              refine h_get (C := RX10) (T := TX10) (N := 38) hx hb hts i_RX10 hown hI hm_119 rfl 18 (by decide) f_60 rfl rfl dX10_question_99 ?_
              refine lv_bipush (v := nI 6) hx hb dX10_question_102 (by decide) ?_
              refine lv_iload_n hx hb dX10_question_104 rfl (lv_at hl 2 rfl) ?_
              refine lv_iadd hx hb dX10_question_105 ?_
              refine n_eq (nI_add 6 k) ?_
              refine h_zald (i := 6 + k) hx hb hI hm_121 (by omega) (by decide) dX10_question_106 ?_
              refine h_zast (i := k) (x := bI (ntx (6 + k))) hx hb hI hm_121 (by omega) (by decide) (bI_vnar _) dX10_question_107 (fun M_126 H_127 locs_128 eM_129 hI => ?_)
              rw [upd_bF] at eM_129
              have hm_130 : M_126 80 = some (aB G 400 f) := by rw [eM_129, va_up_ne _ _ (by decide)]; exact hm_118
              have hm_131 : M_126 60 = some (cModel ad 0 ln on A.length u u 0 pt2_51 tp bg2_52 (-1)) := by rw [eM_129, va_up_ne _ _ (by decide)]; exact hm_119
              have hm_132 : M_126 75 = some (aI G 12 (upd akx k (akx (6 + k)))) := by rw [eM_129, va_up_ne _ _ (by decide)]; exact hm_120
              have hm_133 : M_126 76 = some (aZ G 12 (bF (va_up ntx k (ntx (6 + k))))) := by rw [eM_129]; exact va_up_self _ _ _
              have hm_134 : M_126 77 = some (aI G 12 (nF apx)) := by rw [eM_129, va_up_ne _ _ (by decide)]; exact hm_122
              have hm_135 : M_126 78 = some (aI G 48 prx) := by rw [eM_129, va_up_ne _ _ (by decide)]; exact hm_123
              have hm_136 : M_126 79 = some (aI G 48 pfx) := by rw [eM_129, va_up_ne _ _ (by decide)]; exact hm_124
              have hF_137 : ∀ j : Nat, j ≠ 60 → j ≠ 75 → j ≠ 76 → j ≠ 77 → j ≠ 78 → j ≠ 79 → M_126 j = M j := fun j q0 q1 q2 q3 q4 q5 => by rw [eM_129, va_up_ne _ _ q2]; exact hF_125 j q0 q1 q2 q3 q4 q5
              refine lv_aload_n hx hb dX10_question_108 rfl (lv_at hl 0 rfl) ?_
              refine h_get (C := RX10) (T := TX10) (N := 38) hx hb hts i_RX10 hown hI hm_131 rfl 19 (by decide) f_63 rfl rfl dX10_question_109 ?_
              refine lv_iload_n hx hb dX10_question_112 rfl (lv_at hl 2 rfl) ?_
              refine lv_aload_n hx hb dX10_question_113 rfl (lv_at hl 0 rfl) ?_
              refine h_get (C := RX10) (T := TX10) (N := 38) hx hb hts i_RX10 hown hI hm_131 rfl 19 (by decide) f_63 rfl rfl dX10_question_114 ?_
              refine lv_bipush (v := nI 6) hx hb dX10_question_117 (by decide) ?_
              refine lv_iload_n hx hb dX10_question_119 rfl (lv_at hl 2 rfl) ?_
              refine lv_iadd hx hb dX10_question_120 ?_
              refine n_eq (nI_add 6 k) ?_
              refine h_iald (i := 6 + k) hx hb hI hm_134 (by omega) (by decide) dX10_question_121 ?_
              refine h_iast (i := k) (x := nI (apx (6 + k))) hx hb hI hm_134 (by omega) (by decide) dX10_question_122 (fun M_138 H_139 locs_140 eM_141 hI => ?_)
              rw [upd_nF] at eM_141
              have hm_142 : M_138 80 = some (aB G 400 f) := by rw [eM_141, va_up_ne _ _ (by decide)]; exact hm_130
              have hm_143 : M_138 60 = some (cModel ad 0 ln on A.length u u 0 pt2_51 tp bg2_52 (-1)) := by rw [eM_141, va_up_ne _ _ (by decide)]; exact hm_131
              have hm_144 : M_138 75 = some (aI G 12 (upd akx k (akx (6 + k)))) := by rw [eM_141, va_up_ne _ _ (by decide)]; exact hm_132
              have hm_145 : M_138 76 = some (aZ G 12 (bF (va_up ntx k (ntx (6 + k))))) := by rw [eM_141, va_up_ne _ _ (by decide)]; exact hm_133
              have hm_146 : M_138 77 = some (aI G 12 (nF (va_up apx k (apx (6 + k))))) := by rw [eM_141]; exact va_up_self _ _ _
              have hm_147 : M_138 78 = some (aI G 48 prx) := by rw [eM_141, va_up_ne _ _ (by decide)]; exact hm_135
              have hm_148 : M_138 79 = some (aI G 48 pfx) := by rw [eM_141, va_up_ne _ _ (by decide)]; exact hm_136
              have hF_149 : ∀ j : Nat, j ≠ 60 → j ≠ 75 → j ≠ 76 → j ≠ 77 → j ≠ 78 → j ≠ 79 → M_138 j = M j := fun j q0 q1 q2 q3 q4 q5 => by rw [eM_141, va_up_ne _ _ q3]; exact hF_137 j q0 q1 q2 q3 q4 q5
              refine lv_iconst (v := nI 0) hx hb dX10_question_123 (by decide) ?_
              refine lv_istore_n (lv' := [(3, .int (nI 0)), (0, .ref (ad 60)), (1, .int (nI A.length)), (2, .int (nI k))]) hx hb dX10_question_124 rfl hl (by decide) rfl (fun ls hl => ?_)
              have lp125_150 : ∀ (fuel : Nat) (i : Nat) (pry : Nat → Int32) (pfy : Nat → Int32) (Mx : Mem) (Hx : Heap) (locsx : List Loc) (ls : Array Slot), (4 - i) < fuel → (i ≤ 4) → (cpO 24 (4 * k + i) pr2_57 pry) → (cpO 24 (4 * k + i) pf2_58 pfy) → Iv G z ad Mx s Hx locsx → Mx 60 = some (cModel ad 0 ln on A.length u u 0 pt2_51 tp bg2_52 (-1)) → Mx 75 = some (aI G 12 (upd akx k (akx (6 + k)))) → Mx 76 = some (aZ G 12 (bF (va_up ntx k (ntx (6 + k))))) → Mx 77 = some (aI G 12 (nF (va_up apx k (apx (6 + k))))) → Mx 78 = some (aI G 48 pry) → Mx 79 = some (aI G 48 pfy) → (∀ j : Nat, j ≠ 60 → j ≠ 75 → j ≠ 76 → j ≠ 77 → j ≠ 78 → j ≠ 79 → Mx j = M j) → lv_has ls 4 [(0, .ref (ad 60)), (1, .int (nI A.length)), (2, .int (nI k)), (3, .int (nI i))] → W p l e (headSpec wsX10_question rm_c_X10_question).room s m ([.ref (ad 60)] : List Value).toArray below meth c Hx locsx 0 0 Q (F0 m 125 ls []) := by
                intro fuel
                induction fuel with
                | zero => intro i pry pfy Mx Hx locsx ls hfu hi hd4 hd5 hI hm_151 hm_152 hm_153 hm_154 hm_155 hm_156 hF_158 hl; exact absurd hfu (Nat.not_lt_zero _)
                | succ fuel ih_159 =>
                  intro i pry pfy Mx Hx locsx ls hfu hi hd4 hd5 hI hm_151 hm_152 hm_153 hm_154 hm_155 hm_156 hF_158 hl
                  have hm_160 : Mx 80 = some (aB G 400 f) := by rw [hF_158 80 (by omega) (by omega) (by omega) (by omega) (by omega) (by omega)]; exact h80
                  refine lv_iload_n hx hb dX10_question_125 rfl (lv_at hl 3 rfl) ?_
                  refine lv_iconst (v := nI 4) hx hb dX10_question_126 (by decide) ?_
                  refine lv_icmp_ge (tgt := 182) hx hb dX10_question_127 (by decide) (fun c_161 => ?_) (fun c_161 => ?_)
                  · -- 127: nI i ge
                    have c_161 : 4 ≤ i := (nI_leI (a := 4) (b := i) (by omega) (by omega)).mp (c_161)
                    refine lv_iinc (v := nI (k + 1)) (lv' := [(2, .int (nI (k + 1))), (0, .ref (ad 60)), (1, .int (nI A.length)), (3, .int (nI i))]) hx hb dX10_question_182 hl (k := 2) rfl (nI_add k 1) (by decide) rfl (fun ls hl => ?_)
                    refine lv_goto (tgt := 73) hx hb dX10_question_185 (by decide) ?_
                    exact ih_111 (k + 1) (upd akx k (akx (6 + k))) (va_up ntx k (ntx (6 + k))) (va_up apx k (apx (6 + k))) pry pfy Mx Hx locsx ls (by omega) (by omega) (cpO_s hc1 (by omega)) (cpO_s hc2 (by omega)) (cpO_s hc3 (by omega)) (by rw [show 4 * (k + 1) = 4 * k + i by omega]; exact hd4) (by rw [show 4 * (k + 1) = 4 * k + i by omega]; exact hd5) hI hm_151 hm_152 hm_153 hm_154 hm_155 hm_156 (fun j q0 q1 q2 q3 q4 q5 => hF_158 j q0 q1 q2 q3 q4 q5) (lv_sub hl [1, 2, 0] rfl)
                  · -- 127: nI i lt
                    have c_161 : i < 4 := by have h := mt (nI_leI (a := 4) (b := i) (by omega) (by omega)).mpr c_161; omega
                    refine lv_aload_n hx hb dX10_question_130 rfl (lv_at hl 0 rfl) ?_
                    refine h_get (C := RX10) (T := TX10) (N := 38) hx hb hts i_RX10 hown hI hm_151 rfl 20 (by decide) f_66 rfl rfl dX10_question_131 ?_
                    refine lv_iconst (v := nI 4) hx hb dX10_question_134 (by decide) ?_
                    refine lv_iload_n hx hb dX10_question_135 rfl (lv_at hl 2 rfl) ?_
                    refine lv_imul hx hb dX10_question_136 ?_
                    refine n_eq (pk_mul 4 k) ?_
                    refine lv_iload_n hx hb dX10_question_137 rfl (lv_at hl 3 rfl) ?_
                    refine lv_iadd hx hb dX10_question_138 ?_
                    refine n_eq (nI_add (4 * k) i) ?_
                    refine lv_aload_n hx hb dX10_question_139 rfl (lv_at hl 0 rfl) ?_
                    refine h_get (C := RX10) (T := TX10) (N := 38) hx hb hts i_RX10 hown hI hm_151 rfl 20 (by decide) f_66 rfl rfl dX10_question_140 ?_
                    refine lv_iconst (v := nI 4) hx hb dX10_question_143 (by decide) ?_
                    refine lv_bipush (v := nI 6) hx hb dX10_question_144 (by decide) ?_
                    refine lv_iload_n hx hb dX10_question_146 rfl (lv_at hl 2 rfl) ?_
                    refine lv_iadd hx hb dX10_question_147 ?_
                    refine n_eq (nI_add 6 k) ?_
                    refine lv_imul hx hb dX10_question_148 ?_
                    refine n_eq (pk_mul 4 (6 + k)) ?_
                    refine lv_iload_n hx hb dX10_question_149 rfl (lv_at hl 3 rfl) ?_
                    refine lv_iadd hx hb dX10_question_150 ?_
                    refine n_eq (nI_add (4 * (6 + k)) i) ?_
                    refine h_iald (i := (4 * (6 + k)) + i) hx hb hI hm_155 (by omega) (by decide) dX10_question_151 ?_
                    refine n_eq (show _ = pry (24 + (4 * k + i)) from congrArg pry (by omega)) ?_
                    refine h_iast (i := (4 * k) + i) (x := pry (24 + (4 * k + i))) hx hb hI hm_155 (by omega) (by decide) dX10_question_152 (fun M_162 H_163 locs_164 eM_165 hI => ?_)
                    have hm_166 : M_162 80 = some (aB G 400 f) := by rw [eM_165, va_up_ne _ _ (by decide)]; exact hm_160
                    have hm_167 : M_162 60 = some (cModel ad 0 ln on A.length u u 0 pt2_51 tp bg2_52 (-1)) := by rw [eM_165, va_up_ne _ _ (by decide)]; exact hm_151
                    have hm_168 : M_162 75 = some (aI G 12 (upd akx k (akx (6 + k)))) := by rw [eM_165, va_up_ne _ _ (by decide)]; exact hm_152
                    have hm_169 : M_162 76 = some (aZ G 12 (bF (va_up ntx k (ntx (6 + k))))) := by rw [eM_165, va_up_ne _ _ (by decide)]; exact hm_153
                    have hm_170 : M_162 77 = some (aI G 12 (nF (va_up apx k (apx (6 + k))))) := by rw [eM_165, va_up_ne _ _ (by decide)]; exact hm_154
                    have hm_171 : M_162 78 = some (aI G 48 (upd pry ((4 * k) + i) (pry (24 + (4 * k + i))))) := by rw [eM_165]; exact va_up_self _ _ _
                    have hm_172 : M_162 79 = some (aI G 48 pfy) := by rw [eM_165, va_up_ne _ _ (by decide)]; exact hm_156
                    have hF_173 : ∀ j : Nat, j ≠ 60 → j ≠ 75 → j ≠ 76 → j ≠ 77 → j ≠ 78 → j ≠ 79 → M_162 j = M j := fun j q0 q1 q2 q3 q4 q5 => by rw [eM_165, va_up_ne _ _ q4]; exact hF_158 j q0 q1 q2 q3 q4 q5
                    refine lv_aload_n hx hb dX10_question_153 rfl (lv_at hl 0 rfl) ?_
                    refine h_get (C := RX10) (T := TX10) (N := 38) hx hb hts i_RX10 hown hI hm_167 rfl 21 (by decide) f_69 rfl rfl dX10_question_154 ?_
                    refine lv_iconst (v := nI 4) hx hb dX10_question_157 (by decide) ?_
                    refine lv_iload_n hx hb dX10_question_158 rfl (lv_at hl 2 rfl) ?_
                    refine lv_imul hx hb dX10_question_159 ?_
                    refine n_eq (pk_mul 4 k) ?_
                    refine lv_iload_n hx hb dX10_question_160 rfl (lv_at hl 3 rfl) ?_
                    refine lv_iadd hx hb dX10_question_161 ?_
                    refine n_eq (nI_add (4 * k) i) ?_
                    refine lv_aload_n hx hb dX10_question_162 rfl (lv_at hl 0 rfl) ?_
                    refine h_get (C := RX10) (T := TX10) (N := 38) hx hb hts i_RX10 hown hI hm_167 rfl 21 (by decide) f_69 rfl rfl dX10_question_163 ?_
                    refine lv_iconst (v := nI 4) hx hb dX10_question_166 (by decide) ?_
                    refine lv_bipush (v := nI 6) hx hb dX10_question_167 (by decide) ?_
                    refine lv_iload_n hx hb dX10_question_169 rfl (lv_at hl 2 rfl) ?_
                    refine lv_iadd hx hb dX10_question_170 ?_
                    refine n_eq (nI_add 6 k) ?_
                    refine lv_imul hx hb dX10_question_171 ?_
                    refine n_eq (pk_mul 4 (6 + k)) ?_
                    refine lv_iload_n hx hb dX10_question_172 rfl (lv_at hl 3 rfl) ?_
                    refine lv_iadd hx hb dX10_question_173 ?_
                    refine n_eq (nI_add (4 * (6 + k)) i) ?_
                    refine h_iald (i := (4 * (6 + k)) + i) hx hb hI hm_172 (by omega) (by decide) dX10_question_174 ?_
                    refine n_eq (show _ = pfy (24 + (4 * k + i)) from congrArg pfy (by omega)) ?_
                    refine h_iast (i := (4 * k) + i) (x := pfy (24 + (4 * k + i))) hx hb hI hm_172 (by omega) (by decide) dX10_question_175 (fun M_174 H_175 locs_176 eM_177 hI => ?_)
                    have hm_178 : M_174 80 = some (aB G 400 f) := by rw [eM_177, va_up_ne _ _ (by decide)]; exact hm_166
                    have hm_179 : M_174 60 = some (cModel ad 0 ln on A.length u u 0 pt2_51 tp bg2_52 (-1)) := by rw [eM_177, va_up_ne _ _ (by decide)]; exact hm_167
                    have hm_180 : M_174 75 = some (aI G 12 (upd akx k (akx (6 + k)))) := by rw [eM_177, va_up_ne _ _ (by decide)]; exact hm_168
                    have hm_181 : M_174 76 = some (aZ G 12 (bF (va_up ntx k (ntx (6 + k))))) := by rw [eM_177, va_up_ne _ _ (by decide)]; exact hm_169
                    have hm_182 : M_174 77 = some (aI G 12 (nF (va_up apx k (apx (6 + k))))) := by rw [eM_177, va_up_ne _ _ (by decide)]; exact hm_170
                    have hm_183 : M_174 78 = some (aI G 48 (upd pry ((4 * k) + i) (pry (24 + (4 * k + i))))) := by rw [eM_177, va_up_ne _ _ (by decide)]; exact hm_171
                    have hm_184 : M_174 79 = some (aI G 48 (upd pfy ((4 * k) + i) (pfy (24 + (4 * k + i))))) := by rw [eM_177]; exact va_up_self _ _ _
                    have hF_185 : ∀ j : Nat, j ≠ 60 → j ≠ 75 → j ≠ 76 → j ≠ 77 → j ≠ 78 → j ≠ 79 → M_174 j = M j := fun j q0 q1 q2 q3 q4 q5 => by rw [eM_177, va_up_ne _ _ q5]; exact hF_173 j q0 q1 q2 q3 q4 q5
                    refine lv_iinc (v := nI (i + 1)) (lv' := [(3, .int (nI (i + 1))), (0, .ref (ad 60)), (1, .int (nI A.length)), (2, .int (nI k))]) hx hb dX10_question_176 hl (k := 3) rfl (nI_add i 1) (by decide) rfl (fun ls hl => ?_)
                    refine lv_goto (tgt := 125) hx hb dX10_question_179 (by decide) ?_
                    exact ih_159 (i + 1) (upd pry ((4 * k) + i) (pry (24 + (4 * k + i)))) (upd pfy ((4 * k) + i) (pfy (24 + (4 * k + i)))) M_174 H_175 locs_176 ls (by omega) (by omega) (cpO_s hd4 (show 4 * k + i < 24 by omega)) (cpO_s hd5 (show 4 * k + i < 24 by omega)) hI hm_179 hm_180 hm_181 hm_182 hm_183 hm_184 (fun j q0 q1 q2 q3 q4 q5 => hF_185 j q0 q1 q2 q3 q4 q5) (lv_sub hl [1, 2, 3, 0] rfl)
              exact lp125_150 ((4 - 0) + 1) 0 prx pfx M_138 H_139 locs_140 ls (Nat.lt_succ_self _) (by omega) (hc4) (hc5) hI hm_143 hm_144 hm_145 hm_146 hm_147 hm_148 (fun j q0 q1 q2 q3 q4 q5 => hF_149 j q0 q1 q2 q3 q4 q5) (lv_sub hl [1, 2, 3, 0] rfl)
        exact lp73_102 ((A.length - 0) + 1) 0 ak2_54 nt2_55 ap2_56 pr2_57 pf2_58 M_90 H_91 locs_92 ls (Nat.lt_succ_self _) (by omega) (cpO_0) (cpO_0) (cpO_0) (cpO_0) (cpO_0) hI hm_94 hm_96 hm_97 hm_98 hm_99 hm_100 (fun j q0 q1 q2 q3 q4 q5 => hF_101 j q0 q1 q2 q3 q4 q5) (lv_sub hl [2, 1, 0] rfl)
      · -- 53: nI 0 ne
        exact absurd (by decide) c_77
    · -- 41: nI A.length lt
      have c_74 : A.length < 0 := by have h := mt (nI_leI (a := 0) (b := A.length) (by omega) (by omega)).mpr c_74; omega
      omega
  · -- 25: nI A.length lt
    have c_61 : A.length < 0 := by have h := mt (nI_leI (a := 0) (b := A.length) (by omega) (by omega)).mpr c_61; omega
    omega

/-- X10_question -/
abbrev rm_c_X10_question_a : Room := { frames := 8, cells := 0, slots := 0, locals := 174 }
set_option maxHeartbeats 4000000 in
set_option maxRecDepth 100000 in
theorem c_X10_question_a (l : Launch) (G : GG) (z : Nat) (ad : Nat → Nat) (M : Mem) {th : Nat} {ln : Nat} {on : Nat} {ao : Nat} {vr : Nat} {sn : Nat} {tp : Nat} {pt : Nat} {zs : Nat} {bg : Nat} {fa : Int32} {f : Nat → Int32} {tb : Nat → Nat} {ak : Nat → Int32} {nt : Nat → Bool} {ap : Nat → Nat} {pr : Nat → Int32} {pf : Nat → Int32} {g : Nat} (h60 : M 60 = some (cModel ad th ln on ao vr sn tp pt zs bg fa)) (h80 : M 80 = some (aB G 400 f)) (h75 : M 75 = some (aI G 12 ak)) (h76 : M 76 = some (aZ G 12 (bF nt))) (h77 : M 77 = some (aI G 12 (nF ap))) (h78 : M 78 = some (aI G 48 pr)) (h79 : M 79 = some (aI G 48 pf)) (hz4 : tp ≤ 400) (htb : ∀ j, j < tp → tb j < 256) (hf : ∀ j, j < tp → f j = sB (tb j)) (hno : rdAll tb tp 6 0 0 0 = .inl g) : Met l yX10_question wsX10_question rm_c_X10_question_a (Pr G z ad M [.ref (ad 60)]) (Ni G z ad (fun (r : Int32) (M' : Mem) => ∃ pt2 : Nat, ∃ sn2 : Nat, ∃ ak2 : Nat → Int32, ∃ nt2 : Nat → Bool, ∃ ap2 : Nat → Nat, ∃ pr2 : Nat → Int32, ∃ pf2 : Nat → Int32, r = nI 0 ∧ M' 60 = some (cModel ad 1 ln on ao vr sn2 0 pt2 tp g (nI g)) ∧ M' 75 = some (aI G 12 ak2) ∧ M' 76 = some (aZ G 12 (bF nt2)) ∧ M' 77 = some (aI G 12 (nF ap2)) ∧ M' 78 = some (aI G 48 pr2) ∧ M' 79 = some (aI G 48 pf2) ∧ (∀ j : Nat, j ≠ 60 → j ≠ 75 → j ≠ 76 → j ≠ 77 → j ≠ 78 → j ≠ 79 → M' j = M j) ∧ ((∀ j, j < 6 → ak2 j = ak j ∧ nt2 j = nt j) ∧ keepM 6 ap pr pf ap2 pr2 pf2))) 0 0 (fr z) := by
  refine Met.ofW (cc := cX10_question) (maxL := 4) (ret := (some .int)) (by decide) rfl ?_
  intro p e s m args below meth c s₁ B hml hv
  obtain ⟨rfl, hv⟩ := hv
  have hI := Iv.entry hv
  have hx := B.exec
  have hb := B.bytes
  have hr := B.returns
  have hts := atoms_spec (ws := wsX10_question) B.pre
  have hown : s.vm.findClass RX10 = some m.cls := findClass_of_methodNamed B.named
  have hlocks := B.notSynchronized
  have f_3 := hts _ (List.mem_cons_of_mem _ (lwg_of t_1013 rfl))
  have i_RX10 : ∀ w ∈ u_ws RX10 TX10 38, w ∈ wsX10_question := fun w h => List.mem_cons_of_mem _ (iu_X10 w h)
  have f_158 := hts _ (List.mem_cons_of_mem _ (lwg_of t_1039 rfl))
  have f_164 := hts _ (List.mem_cons_of_mem _ (lwg_of t_1041 rfl))
  have f_170 := hts _ (List.mem_cons_of_mem _ (lwg_of t_1042 rfl))
  have f_76 := hts _ (List.mem_cons_of_mem _ (lwg_of t_1043 rfl))
  have hl := lv_entry ([.ref (ad 60)]) (n := 4) (Nat.le_of_ble_eq_true rfl)
  rw [lg_entry_eq]
  generalize (lg_sl ([.ref (ad 60)]) ++ List.replicate (4 - (lg_sl ([.ref (ad 60)])).length) Slot.unset).toArray = ls at hl ⊢
  have hl : lv_has ls 4 [(0, .ref (ad 60))] := hl
  refine lv_aload_n hx hb dX10_question_0 rfl (lv_at hl 0 rfl) ?_
  refine lv_iconst (v := nI 0) hx hb dX10_question_1 (by decide) ?_
  refine h_put (C := RX10) (T := TX10) (N := 38) hx hb hts i_RX10 tyX10 tyX10_ok nmX10 hown hI h60 rfl 0 (by decide) f_3 rfl rfl rfl rfl (Nat.le_of_ble_eq_true rfl) dX10_question_2 (fun M_1 H_2 locs_3 eM_4 hI => ?_)
  have hm_5 : M_1 60 = some (cModel ad 0 ln on ao vr sn tp pt zs bg fa) := by rw [eM_4]; exact va_up_self _ _ _
  have hm_6 : M_1 80 = some (aB G 400 f) := by rw [eM_4, va_up_ne _ _ (by decide)]; exact h80
  have hm_7 : M_1 75 = some (aI G 12 ak) := by rw [eM_4, va_up_ne _ _ (by decide)]; exact h75
  have hm_8 : M_1 76 = some (aZ G 12 (bF nt)) := by rw [eM_4, va_up_ne _ _ (by decide)]; exact h76
  have hm_9 : M_1 77 = some (aI G 12 (nF ap)) := by rw [eM_4, va_up_ne _ _ (by decide)]; exact h77
  have hm_10 : M_1 78 = some (aI G 48 pr) := by rw [eM_4, va_up_ne _ _ (by decide)]; exact h78
  have hm_11 : M_1 79 = some (aI G 48 pf) := by rw [eM_4, va_up_ne _ _ (by decide)]; exact h79
  have hF_12 : ∀ j : Nat, j ≠ 60 → M_1 j = M j := fun j q0 => by rw [eM_4, va_up_ne _ _ q0]
  refine lv_aload_n hx hb dX10_question_5 rfl (lv_at hl 0 rfl) ?_
  refine lv_aload_n hx hb dX10_question_6 rfl (lv_at hl 0 rfl) ?_
  refine h_get (C := RX10) (T := TX10) (N := 38) hx hb hts i_RX10 hown hI hm_5 rfl 26 (by decide) f_158 rfl rfl dX10_question_7 ?_
  refine h_put (C := RX10) (T := TX10) (N := 38) hx hb hts i_RX10 tyX10 tyX10_ok nmX10 hown hI hm_5 rfl 28 (by decide) f_164 rfl rfl rfl rfl (Nat.le_of_ble_eq_true rfl) dX10_question_10 (fun M_13 H_14 locs_15 eM_16 hI => ?_)
  have hm_17 : M_13 60 = some (cModel ad 0 ln on ao vr sn tp pt tp bg fa) := by rw [eM_16]; exact va_up_self _ _ _
  have hm_18 : M_13 80 = some (aB G 400 f) := by rw [eM_16, va_up_ne _ _ (by decide)]; exact hm_6
  have hm_19 : M_13 75 = some (aI G 12 ak) := by rw [eM_16, va_up_ne _ _ (by decide)]; exact hm_7
  have hm_20 : M_13 76 = some (aZ G 12 (bF nt)) := by rw [eM_16, va_up_ne _ _ (by decide)]; exact hm_8
  have hm_21 : M_13 77 = some (aI G 12 (nF ap)) := by rw [eM_16, va_up_ne _ _ (by decide)]; exact hm_9
  have hm_22 : M_13 78 = some (aI G 48 pr) := by rw [eM_16, va_up_ne _ _ (by decide)]; exact hm_10
  have hm_23 : M_13 79 = some (aI G 48 pf) := by rw [eM_16, va_up_ne _ _ (by decide)]; exact hm_11
  have hF_24 : ∀ j : Nat, j ≠ 60 → M_13 j = M j := fun j q0 => by rw [eM_16, va_up_ne _ _ q0]; exact hF_12 j q0
  refine lv_aload_n hx hb dX10_question_13 rfl (lv_at hl 0 rfl) ?_
  refine lv_iconst (v := nI 0) hx hb dX10_question_14 (by decide) ?_
  refine h_put (C := RX10) (T := TX10) (N := 38) hx hb hts i_RX10 tyX10 tyX10_ok nmX10 hown hI hm_17 rfl 26 (by decide) f_158 rfl rfl rfl rfl (Nat.le_of_ble_eq_true rfl) dX10_question_15 (fun M_25 H_26 locs_27 eM_28 hI => ?_)
  have hm_29 : M_25 60 = some (cModel ad 0 ln on ao vr sn 0 pt tp bg fa) := by rw [eM_28]; exact va_up_self _ _ _
  have hm_30 : M_25 80 = some (aB G 400 f) := by rw [eM_28, va_up_ne _ _ (by decide)]; exact hm_18
  have hm_31 : M_25 75 = some (aI G 12 ak) := by rw [eM_28, va_up_ne _ _ (by decide)]; exact hm_19
  have hm_32 : M_25 76 = some (aZ G 12 (bF nt)) := by rw [eM_28, va_up_ne _ _ (by decide)]; exact hm_20
  have hm_33 : M_25 77 = some (aI G 12 (nF ap)) := by rw [eM_28, va_up_ne _ _ (by decide)]; exact hm_21
  have hm_34 : M_25 78 = some (aI G 48 pr) := by rw [eM_28, va_up_ne _ _ (by decide)]; exact hm_22
  have hm_35 : M_25 79 = some (aI G 48 pf) := by rw [eM_28, va_up_ne _ _ (by decide)]; exact hm_23
  have hF_36 : ∀ j : Nat, j ≠ 60 → M_25 j = M j := fun j q0 => by rw [eM_28, va_up_ne _ _ q0]; exact hF_24 j q0
  refine lv_aload_n hx hb dX10_question_18 rfl (lv_at hl 0 rfl) ?_
  refine k_Ni (va_runV (As := []) (rest := []) ⟨hx, hb, hml, hown, hts⟩ (c_X10_readAll l G z ad M_25 (th := 0) (ln := ln) (on := on) (ao := ao) (vr := vr) (sn := sn) (tp := 0) (pt := pt) (zs := tp) (bg := bg) (fa := fa) (f := f) (tb := tb) (ak := ak) (nt := nt) (ap := ap) (pr := pr) (pf := pf) hm_29 hm_30 hm_31 hm_32 hm_33 hm_34 hm_35 (by omega) htb hf) (cwV 0 hts (gV (lwg_of t_1225 rfl) (lwg_of t_1227 rfl) (lwg_of ts_30 rfl) (lwg_of t_13 rfl) (lwg_of t_1228 rfl)) rfl rfl rfl (by decide +kernel) ⟨Nat.le_of_ble_eq_true rfl, Nat.le_of_ble_eq_true rfl⟩) (hI.preV hm_29 rfl) rfl rfl hl.1 rfl (lv_room (Nat.le_of_ble_eq_true rfl)) dX10_question_19 ⟨Nat.le_of_ble_eq_true rfl, Nat.le_of_ble_eq_true rfl⟩) hI (fun r_37 M_39 H_40 locs_41 hp_38 hI => ?_)
  obtain ⟨o2_50, pt2_51, bg2_52, sn2_53, ak2_54, nt2_55, ap2_56, pr2_57, pf2_58, hm_42, hm_43, hm_44, hm_45, hm_46, hm_47, hF_48, hP_49⟩ := hp_38
  have hm_59 : M_39 80 = some (aB G 400 f) := by rw [hF_48 80 (by omega) (by omega) (by omega) (by omega) (by omega) (by omega)]; exact hm_30
  have hF_60 : ∀ j : Nat, j ≠ 60 → j ≠ 75 → j ≠ 76 → j ≠ 77 → j ≠ 78 → j ≠ 79 → M_39 j = M j := fun j q0 q1 q2 q3 q4 q5 => (hF_48 j q0 q1 q2 q3 q4 q5).trans (hF_36 j q0)
  obtain ⟨ho2, hg2⟩ := hP_49.2.2.resolve_right (fun ⟨A2, _, h9, _⟩ => by rw [hno] at h9; cases h9)
  have hgg := Sum.inl.inj (hno.symm.trans hg2)
  subst hgg
  refine n_eq (show r_37 = (-1) from by rw [hP_49.1, ho2]; rfl) ?_
  refine lv_istore_n (lv' := [(1, .int (-1)), (0, .ref (ad 60))]) hx hb dX10_question_22 rfl hl (by decide) rfl (fun ls hl => ?_)
  refine lv_aload_n hx hb dX10_question_23 rfl (lv_at hl 1 rfl) ?_
  refine lv_iload_n hx hb dX10_question_24 rfl (lv_at hl 0 rfl) ?_
  refine lv_if_ge (tgt := 35) hx hb dX10_question_25 (by decide) (fun c_61 => ?_) (fun c_61 => ?_)
  · -- 25: (-1) ge
    exact absurd c_61 (by decide)
  · -- 25: (-1) lt
    refine lv_aload_n hx hb dX10_question_28 rfl (lv_at hl 1 rfl) ?_
    refine h_get (C := RX10) (T := TX10) (N := 38) hx hb hts i_RX10 hown hI hm_42 rfl 29 (by decide) f_170 rfl rfl dX10_question_29 ?_
    refine lv_goto (tgt := 36) hx hb dX10_question_32 (by decide) ?_
    refine h_put (C := RX10) (T := TX10) (N := 38) hx hb hts i_RX10 tyX10 tyX10_ok nmX10 hown hI hm_42 rfl 30 (by decide) f_76 rfl rfl rfl rfl (Nat.le_of_ble_eq_true rfl) dX10_question_36 (fun M_62 H_63 locs_64 eM_65 hI => ?_)
    have hm_66 : M_62 60 = some (cModel ad 0 ln on ao vr sn2_53 0 pt2_51 tp g (nI g)) := by rw [eM_65]; exact va_up_self _ _ _
    have hm_67 : M_62 80 = some (aB G 400 f) := by rw [eM_65, va_up_ne _ _ (by decide)]; exact hm_59
    have hm_68 : M_62 75 = some (aI G 12 ak2_54) := by rw [eM_65, va_up_ne _ _ (by decide)]; exact hm_43
    have hm_69 : M_62 76 = some (aZ G 12 (bF nt2_55)) := by rw [eM_65, va_up_ne _ _ (by decide)]; exact hm_44
    have hm_70 : M_62 77 = some (aI G 12 (nF ap2_56)) := by rw [eM_65, va_up_ne _ _ (by decide)]; exact hm_45
    have hm_71 : M_62 78 = some (aI G 48 pr2_57) := by rw [eM_65, va_up_ne _ _ (by decide)]; exact hm_46
    have hm_72 : M_62 79 = some (aI G 48 pf2_58) := by rw [eM_65, va_up_ne _ _ (by decide)]; exact hm_47
    have hF_73 : ∀ j : Nat, j ≠ 60 → j ≠ 75 → j ≠ 76 → j ≠ 77 → j ≠ 78 → j ≠ 79 → M_62 j = M j := fun j q0 q1 q2 q3 q4 q5 => by rw [eM_65, va_up_ne _ _ q0]; exact hF_60 j q0 q1 q2 q3 q4 q5
    refine lv_aload_n hx hb dX10_question_39 rfl (lv_at hl 1 rfl) ?_
    refine lv_iload_n hx hb dX10_question_40 rfl (lv_at hl 0 rfl) ?_
    refine lv_if_ge (tgt := 48) hx hb dX10_question_41 (by decide) (fun c_74 => ?_) (fun c_74 => ?_)
    · -- 41: (-1) ge
      exact absurd c_74 (by decide)
    · -- 41: (-1) lt
      refine lv_iconst (v := nI 1) hx hb dX10_question_44 (by decide) ?_
      refine lv_goto (tgt := 49) hx hb dX10_question_45 (by decide) ?_
      refine lv_iconst (v := nI 1) hx hb dX10_question_49 (by decide) ?_
      refine k_Ni (va_runV (As := [.int (nI 1), .int (nI 1)]) (rest := []) ⟨hx, hb, hml, hown, hts⟩ (c_X10_throwsIf_1 l G z ad M_62 (th := 0) (ln := ln) (on := on) (ao := ao) (vr := vr) (sn := sn2_53) (tp := 0) (pt := pt2_51) (zs := tp) (bg := g) (fa := nI g) (c0 := 1) hm_66) (cwV 2 hts (gV (lwg_of t_1141 rfl) (lwg_of t_1143 rfl) (lwg_of ts_23 rfl) (lwg_of t_13 rfl) (lwg_of t_1144 rfl)) rfl rfl rfl (by decide +kernel) ⟨Nat.le_of_ble_eq_true rfl, Nat.le_of_ble_eq_true rfl⟩) (hI.preV hm_66 rfl) rfl rfl hl.1 rfl (lv_room (Nat.le_of_ble_eq_true rfl)) dX10_question_50 ⟨Nat.le_of_ble_eq_true rfl, Nat.le_of_ble_eq_true rfl⟩) hI (fun r_75 M_77 H_78 locs_79 hp_76 hI => ?_)
      obtain ⟨hr_80, hm_81, hF_82⟩ := hp_76
      have hm_83 : M_77 80 = some (aB G 400 f) := by rw [hF_82 80 (by omega)]; exact hm_67
      have hm_84 : M_77 75 = some (aI G 12 ak2_54) := by rw [hF_82 75 (by omega)]; exact hm_68
      have hm_85 : M_77 76 = some (aZ G 12 (bF nt2_55)) := by rw [hF_82 76 (by omega)]; exact hm_69
      have hm_86 : M_77 77 = some (aI G 12 (nF ap2_56)) := by rw [hF_82 77 (by omega)]; exact hm_70
      have hm_87 : M_77 78 = some (aI G 48 pr2_57) := by rw [hF_82 78 (by omega)]; exact hm_71
      have hm_88 : M_77 79 = some (aI G 48 pf2_58) := by rw [hF_82 79 (by omega)]; exact hm_72
      have hF_89 : ∀ j : Nat, j ≠ 60 → j ≠ 75 → j ≠ 76 → j ≠ 77 → j ≠ 78 → j ≠ 79 → M_77 j = M j := fun j q0 q1 q2 q3 q4 q5 => (hF_82 j q0).trans (hF_73 j q0 q1 q2 q3 q4 q5)
      rw [hr_80]
      refine lv_if_eq (tgt := 58) hx hb dX10_question_53 (by decide) (fun c_90 => ?_) (fun c_90 => ?_)
      · -- 53: nI 1 eq
        exact absurd c_90 (by decide)
      · -- 53: nI 1 ne
        refine lv_iconst (v := nI 0) hx hb dX10_question_56 (by decide) ?_
        exact e_Ni hx hb hr rfl hlocks hI ⟨pt2_51, sn2_53, ak2_54, nt2_55, ap2_56, pr2_57, pf2_58, rfl, hm_81, hm_84, hm_85, hm_86, hm_87, hm_88, (fun j q0 q1 q2 q3 q4 q5 => hF_89 j q0 q1 q2 q3 q4 q5), hP_49.2.1⟩ dX10_question_57
