/-- the number of m digits from b on: two of them count -/
def nm2 (tb : Nat → Nat) (b : Nat) : Nat → Nat
  | 0 => 0
  | 1 => tb b - 48
  | _ + 2 => (tb b - 48) * 10 + (tb (b + 1) - 48)
theorem nm2_le {tb : Nat → Nat} {b m zs : Nat} (htb : ∀ j, j < zs → tb j < 256) (h : b + m ≤ zs) : nm2 tb b m ≤ 3000 := by
  match m, h with
  | 0, _ => exact Nat.zero_le _
  | 1, h => have := htb b (by omega); simp only [nm2]; omega
  | k + 2, h => have := htb b (by omega); have := htb (b + 1) (by omega); simp only [nm2]; omega
theorem nm2_s {tb : Nat → Nat} {b m v : Nat} (hv : v = nm2 tb b m) (hm : m < 2) (h0 : 48 ≤ tb (b + m)) : 10 * v + tb (b + m) - 48 = nm2 tb b (m + 1) := by
  match m, hm with
  | 0, _ => subst hv; simp only [nm2, Nat.add_zero]; omega
  | 1, _ => subst hv; simp only [nm2]; omega
theorem nm2_k {tb : Nat → Nat} {b m : Nat} (hm : 2 ≤ m) : nm2 tb b m = nm2 tb b (m + 1) := by
  match m, hm with
  | k + 2, _ => rfl
/-- a number from b on that is no greater than hi -/
def nbr (tb : Nat → Nat) (zs b hi : Nat) : Option Nat := if run (dgt tb) zs b - b = 0 ∨ 2 < run (dgt tb) zs b - b ∨ hi < nm2 tb b (run (dgt tb) zs b - b) then none else some (nm2 tb b (run (dgt tb) zs b - b))

/-- X10_number -/
abbrev rm_c_X10_number : Room := { frames := 2, cells := 0, slots := 0, locals := 42 }
set_option maxHeartbeats 4000000 in
set_option maxRecDepth 100000 in
theorem c_X10_number (l : Launch) (G : GG) (z : Nat) (ad : Nat → Nat) (M : Mem) {th : Nat} {ln : Nat} {on : Nat} {ao : Nat} {vr : Nat} {sn : Nat} {tp : Nat} {pt : Nat} {zs : Nat} {bg : Nat} {fa : Int32} {f : Nat → Int32} {tb : Nat → Nat} {hi : Nat} (h60 : M 60 = some (cModel ad th ln on ao vr sn tp pt zs bg fa)) (h80 : M 80 = some (aB G 400 f)) (hzs : pt ≤ zs ∧ zs ≤ 400) (htb : ∀ j, j < zs → tb j < 256) (hf : ∀ j, j < zs → f j = sB (tb j)) (hhi : hi < 128) : Met l yX10_number wsX10_number rm_c_X10_number (Pr G z ad M [.ref (ad 60), .int (nI hi)]) (Ni G z ad (fun (r : Int32) (M' : Mem) => r = oI (nbr tb zs (run (bl tb) zs pt) hi) ∧ M' 60 = some (cModel ad th ln on ao vr sn tp (run (dgt tb) zs (run (bl tb) zs pt)) zs (run (bl tb) zs pt) fa) ∧ (∀ j : Nat, j ≠ 60 → M' j = M j))) 0 0 (fr z) := by
  refine Met.ofW (cc := cX10_number) (maxL := 3) (ret := (some .int)) (by decide) rfl ?_
  intro p e s m args below meth c s₁ B hml hv
  obtain ⟨rfl, hv⟩ := hv
  have hI := Iv.entry hv
  have hx := B.exec
  have hb := B.bytes
  have hr := B.returns
  have hts := atoms_spec (ws := wsX10_number) B.pre
  have hown : s.vm.findClass RX10 = some m.cls := findClass_of_methodNamed B.named
  have hlocks := B.notSynchronized
  have i_RX10 : ∀ w ∈ u_ws RX10 TX10 38, w ∈ wsX10_number := fun w h => List.mem_cons_of_mem _ (iu_X10 w h)
  have f_161 := hts _ (List.mem_cons_of_mem _ (lwg_of t_1040 rfl))
  have f_170 := hts _ (List.mem_cons_of_mem _ (lwg_of t_1042 rfl))
  have f_72 := hts _ (List.mem_cons_of_mem _ (lwg_of t_1038 rfl))
  have hl := lv_entry ([.ref (ad 60), .int (nI hi)]) (n := 3) (Nat.le_of_ble_eq_true rfl)
  rw [lg_entry_eq]
  generalize (lg_sl ([.ref (ad 60), .int (nI hi)]) ++ List.replicate (3 - (lg_sl ([.ref (ad 60), .int (nI hi)])).length) Slot.unset).toArray = ls at hl ⊢
  have hl : lv_has ls 3 [(0, .ref (ad 60)), (1, .int (nI hi))] := hl
  refine w_q (fun Q hQ => ?_)
  have hsk := run_le (P := bl tb) hzs.1
  refine lv_aload_n hx hb dX10_number_0 rfl (lv_at hl 0 rfl) ?_
  refine k_Nv (va_runV (As := []) (rest := []) ⟨hx, hb, hml, hown, hts⟩ (c_X10_blanks l G z ad M (th := th) (ln := ln) (on := on) (ao := ao) (vr := vr) (sn := sn) (tp := tp) (pt := pt) (zs := zs) (bg := bg) (fa := fa) (f := f) (tb := tb) h60 h80 (by omega) htb hf) (cwV 0 hts (gV (lwg_of t_1237 rfl) (lwg_of t_1239 rfl) (lwg_of ts_33 rfl) (lwg_of t_13 rfl) (lwg_of t_1240 rfl)) rfl rfl rfl (by decide +kernel) ⟨Nat.le_of_ble_eq_true rfl, Nat.le_of_ble_eq_true rfl⟩) (hI.preV h60 rfl) rfl rfl hl.1 rfl (lv_room (Nat.le_of_ble_eq_true rfl)) dX10_number_1 ⟨Nat.le_of_ble_eq_true rfl, Nat.le_of_ble_eq_true rfl⟩) hI (fun M_3 H_4 locs_5 hp_2 hI => ?_)
  obtain ⟨hm_6, hF_7⟩ := hp_2
  have hm_8 : M_3 80 = some (aB G 400 f) := by rw [hF_7 80 (by omega)]; exact h80
  have hF_9 : ∀ j : Nat, j ≠ 60 → M_3 j = M j := fun j q0 => (hF_7 j q0)
  refine lv_iconst (v := nI 0) hx hb dX10_number_4 (by decide) ?_
  refine lv_istore_n (lv' := [(2, .int (nI 0)), (0, .ref (ad 60)), (1, .int (nI hi))]) hx hb dX10_number_5 rfl hl (by decide) rfl (fun ls hl => ?_)
  have lp6_10 : ∀ (fuel : Nat) (p9 : Nat) (v : Nat) (Mx : Mem) (Hx : Heap) (locsx : List Loc) (ls : Array Slot), (zs - p9) < fuel → (run (bl tb) zs pt ≤ p9 ∧ p9 ≤ zs) → (run (dgt tb) zs p9 = run (dgt tb) zs (run (bl tb) zs pt)) → (v = nm2 tb (run (bl tb) zs pt) (p9 - run (bl tb) zs pt)) → Iv G z ad Mx s Hx locsx → Mx 60 = some (cModel ad th ln on ao vr sn tp p9 zs (run (bl tb) zs pt) fa) → (∀ j : Nat, j ≠ 60 → Mx j = M j) → lv_has ls 3 [(0, .ref (ad 60)), (1, .int (nI hi)), (2, .int (nI v))] → W p l e (headSpec wsX10_number rm_c_X10_number).room s m ([.ref (ad 60), .int (nI hi)] : List Value).toArray below meth c Hx locsx 0 0 Q (F0 m 6 ls []) := by
    intro fuel
    induction fuel with
    | zero => intro p9 v Mx Hx locsx ls hfu hp9 hrn hv9 hI hm_11 hF_13 hl; exact absurd hfu (Nat.not_lt_zero _)
    | succ fuel ih_14 =>
      intro p9 v Mx Hx locsx ls hfu hp9 hrn hv9 hI hm_11 hF_13 hl
      have hm_15 : Mx 80 = some (aB G 400 f) := by rw [hF_13 80 (by omega)]; exact h80
      refine lv_aload_n hx hb dX10_number_6 rfl (lv_at hl 0 rfl) ?_
      refine lv_bipush (v := nI 48) hx hb dX10_number_7 (by decide) ?_
      refine lv_bipush (v := nI 57) hx hb dX10_number_9 (by decide) ?_
      refine k_Ri (va_runV (As := [.int (nI 48), .int (nI 57)]) (rest := []) ⟨hx, hb, hml, hown, hts⟩ (c_X10_isAt l G z ad Mx (th := th) (ln := ln) (on := on) (ao := ao) (vr := vr) (sn := sn) (tp := tp) (pt := p9) (zs := zs) (bg := run (bl tb) zs pt) (fa := fa) (f := f) (tb := tb) (lo := 48) (hi := 57) hm_11 hm_15 (by omega) htb hf (by omega) (by omega)) (cwV 2 hts (gV (lwg_of t_1241 rfl) (lwg_of t_1243 rfl) (lwg_of ts_34 rfl) (lwg_of t_13 rfl) (lwg_of t_1244 rfl)) rfl rfl rfl (by decide +kernel) ⟨Nat.le_of_ble_eq_true rfl, Nat.le_of_ble_eq_true rfl⟩) (hI.preV hm_11 rfl) rfl rfl hl.1 rfl (lv_room (Nat.le_of_ble_eq_true rfl)) dX10_number_11 ⟨Nat.le_of_ble_eq_true rfl, Nat.le_of_ble_eq_true rfl⟩) (fun _ h => h) (fun r_16 hp_17 => ?_)
      rw [hp_17]
      refine lv_if_eq (tgt := 65) hx hb dX10_number_14 (by decide) (fun c_18 => ?_) (fun c_18 => ?_)
      · -- 14: bI (isA tb zs p9 48 57) eq
        have c_18 : isA tb zs p9 48 57 = false := bI_f (c_18)
        have hst := isA_stop (dgt_is tb) (by assumption : isA tb zs p9 48 57 = false)
        have hpe : p9 = run (dgt tb) zs (run (bl tb) zs pt) := by rw [← hrn, hst]
        have hvb := nm2_le (b := run (bl tb) zs pt) (m := p9 - run (bl tb) zs pt) htb (by omega)
        refine lv_aload_n hx hb dX10_number_65 rfl (lv_at hl 0 rfl) ?_
        refine h_get (C := RX10) (T := TX10) (N := 38) hx hb hts i_RX10 hown hI hm_11 rfl 27 (by decide) f_161 rfl rfl dX10_number_66 ?_
        refine lv_aload_n hx hb dX10_number_69 rfl (lv_at hl 0 rfl) ?_
        refine h_get (C := RX10) (T := TX10) (N := 38) hx hb hts i_RX10 hown hI hm_11 rfl 29 (by decide) f_170 rfl rfl dX10_number_70 ?_
        refine lv_icmp_eq (tgt := 94) hx hb dX10_number_73 (by decide) (fun c_19 => ?_) (fun c_19 => ?_)
        · -- 73: nI p9 eq
          have c_19 : p9 = (run (bl tb) zs pt) := (nI_eq (a := p9) (b := (run (bl tb) zs pt)) (by omega) (by omega)).mp (c_19)
          refine lv_iconst (v := (-1)) hx hb dX10_number_94 (by decide) ?_
          refine lv_goto (tgt := 99) hx hb dX10_number_95 (by decide) ?_
          subst hQ
          exact e_Ni hx hb hr rfl hlocks hI ⟨(by rw [nbr, ← hpe, if_pos (by rw [← hv9]; omega)]; rfl), (by rw [← hpe]; exact hm_11), (fun j q0 => hF_13 j q0)⟩ dX10_number_99
        · -- 73: nI p9 ne
          have c_19 : p9 ≠ (run (bl tb) zs pt) := by have h := mt (nI_eq (a := p9) (b := (run (bl tb) zs pt)) (by omega) (by omega)).mpr c_19; omega
          refine lv_aload_n hx hb dX10_number_76 rfl (lv_at hl 0 rfl) ?_
          refine h_get (C := RX10) (T := TX10) (N := 38) hx hb hts i_RX10 hown hI hm_11 rfl 27 (by decide) f_161 rfl rfl dX10_number_77 ?_
          refine lv_aload_n hx hb dX10_number_80 rfl (lv_at hl 0 rfl) ?_
          refine h_get (C := RX10) (T := TX10) (N := 38) hx hb hts i_RX10 hown hI hm_11 rfl 29 (by decide) f_170 rfl rfl dX10_number_81 ?_
          refine lv_isub hx hb dX10_number_84 ?_
          refine n_eq (pk_sub (a := p9) (b := (run (bl tb) zs pt)) (by omega)) ?_
          refine lv_iconst (v := nI 2) hx hb dX10_number_85 (by decide) ?_
          refine lv_icmp_gt (tgt := 94) hx hb dX10_number_86 (by decide) (fun c_20 => ?_) (fun c_20 => ?_)
          · -- 86: nI (p9 - (run (bl tb) zs pt)) gt
            have c_20 : 2 < p9 - (run (bl tb) zs pt) := (nI_ltI (a := 2) (b := p9 - (run (bl tb) zs pt)) (by omega) (by omega)).mp (c_20)
            refine lv_iconst (v := (-1)) hx hb dX10_number_94 (by decide) ?_
            refine lv_goto (tgt := 99) hx hb dX10_number_95 (by decide) ?_
            subst hQ
            exact e_Ni hx hb hr rfl hlocks hI ⟨(by rw [nbr, ← hpe, if_pos (by rw [← hv9]; omega)]; rfl), (by rw [← hpe]; exact hm_11), (fun j q0 => hF_13 j q0)⟩ dX10_number_99
          · -- 86: nI (p9 - (run (bl tb) zs pt)) le
            have c_20 : p9 - (run (bl tb) zs pt) ≤ 2 := by have h := mt (nI_ltI (a := 2) (b := p9 - (run (bl tb) zs pt)) (by omega) (by omega)).mpr c_20; omega
            refine lv_iload_n hx hb dX10_number_89 rfl (lv_at hl 2 rfl) ?_
            refine lv_iload_n hx hb dX10_number_90 rfl (lv_at hl 1 rfl) ?_
            refine lv_icmp_le (tgt := 98) hx hb dX10_number_91 (by decide) (fun c_21 => ?_) (fun c_21 => ?_)
            · -- 91: nI v le
              have c_21 : v ≤ hi := (nI_leI (a := v) (b := hi) (by omega) (by omega)).mp (c_21)
              refine lv_iload_n hx hb dX10_number_98 rfl (lv_at hl 2 rfl) ?_
              subst hQ
              exact e_Ni hx hb hr rfl hlocks hI ⟨(by rw [nbr, ← hpe, if_neg (by rw [← hv9]; omega), ← hv9]; rfl), (by rw [← hpe]; exact hm_11), (fun j q0 => hF_13 j q0)⟩ dX10_number_99
            · -- 91: nI v gt
              have c_21 : hi < v := by have h := mt (nI_leI (a := v) (b := hi) (by omega) (by omega)).mpr c_21; omega
              refine lv_iconst (v := (-1)) hx hb dX10_number_94 (by decide) ?_
              refine lv_goto (tgt := 99) hx hb dX10_number_95 (by decide) ?_
              subst hQ
              exact e_Ni hx hb hr rfl hlocks hI ⟨(by rw [nbr, ← hpe, if_pos (by rw [← hv9]; omega)]; rfl), (by rw [← hpe]; exact hm_11), (fun j q0 => hF_13 j q0)⟩ dX10_number_99
      · -- 14: bI (isA tb zs p9 48 57) ne
        have c_18 : isA tb zs p9 48 57 = true := bI_t (c_18)
        have hd9 := isA_lt (by assumption : isA tb zs p9 48 57 = true)
        have hpm : p9 = run (bl tb) zs pt + (p9 - run (bl tb) zs pt) := by omega
        refine lv_aload_n hx hb dX10_number_17 rfl (lv_at hl 0 rfl) ?_
        refine h_get (C := RX10) (T := TX10) (N := 38) hx hb hts i_RX10 hown hI hm_11 rfl 27 (by decide) f_161 rfl rfl dX10_number_18 ?_
        refine lv_aload_n hx hb dX10_number_21 rfl (lv_at hl 0 rfl) ?_
        refine h_get (C := RX10) (T := TX10) (N := 38) hx hb hts i_RX10 hown hI hm_11 rfl 29 (by decide) f_170 rfl rfl dX10_number_22 ?_
        refine lv_isub hx hb dX10_number_25 ?_
        refine n_eq (pk_sub (a := p9) (b := (run (bl tb) zs pt)) (by omega)) ?_
        refine lv_iconst (v := nI 2) hx hb dX10_number_26 (by decide) ?_
        refine lv_icmp_ge (tgt := 50) hx hb dX10_number_27 (by decide) (fun c_22 => ?_) (fun c_22 => ?_)
        · -- 27: nI (p9 - (run (bl tb) zs pt)) ge
          have c_22 : 2 ≤ p9 - (run (bl tb) zs pt) := (nI_leI (a := 2) (b := p9 - (run (bl tb) zs pt)) (by omega) (by omega)).mp (c_22)
          refine lv_iload_n hx hb dX10_number_50 rfl (lv_at hl 2 rfl) ?_
          refine lv_istore_n (lv' := [(2, .int (nI v)), (0, .ref (ad 60)), (1, .int (nI hi))]) hx hb dX10_number_51 rfl hl (by decide) rfl (fun ls hl => ?_)
          refine lv_aload_n hx hb dX10_number_52 rfl (lv_at hl 1 rfl) ?_
          refine lv_dup hx hb dX10_number_53 rfl ?_
          refine h_get (C := RX10) (T := TX10) (N := 38) hx hb hts i_RX10 hown hI hm_11 rfl 27 (by decide) f_161 rfl rfl dX10_number_54 ?_
          refine lv_iconst (v := nI 1) hx hb dX10_number_57 (by decide) ?_
          refine lv_iadd hx hb dX10_number_58 ?_
          refine n_eq (nI_add p9 1) ?_
          refine h_put (C := RX10) (T := TX10) (N := 38) hx hb hts i_RX10 tyX10 tyX10_ok nmX10 hown hI hm_11 rfl 27 (by decide) f_161 rfl rfl rfl rfl (Nat.le_of_ble_eq_true rfl) dX10_number_59 (fun M_23 H_24 locs_25 eM_26 hI => ?_)
          have hm_27 : M_23 80 = some (aB G 400 f) := by rw [eM_26, va_up_ne _ _ (by decide)]; exact hm_15
          have hm_28 : M_23 60 = some (cModel ad th ln on ao vr sn tp (p9 + 1) zs (run (bl tb) zs pt) fa) := by rw [eM_26]; exact va_up_self _ _ _
          have hF_29 : ∀ j : Nat, j ≠ 60 → M_23 j = M j := fun j q0 => by rw [eM_26, va_up_ne _ _ q0]; exact hF_13 j q0
          refine lv_goto (tgt := 6) hx hb dX10_number_62 (by decide) ?_
          exact ih_14 (p9 + 1) v M_23 H_24 locs_25 ls (by omega) (by omega) ((isA_run (dgt_is tb) (by assumption)).symm.trans hrn) (by rw [hv9, show p9 + 1 - run (bl tb) zs pt = p9 - run (bl tb) zs pt + 1 by omega]; exact nm2_k (by omega)) hI hm_28 (fun j q0 => hF_29 j q0) (lv_sub hl [1, 2, 0] rfl)
        · -- 27: nI (p9 - (run (bl tb) zs pt)) lt
          have c_22 : p9 - (run (bl tb) zs pt) < 2 := by have h := mt (nI_leI (a := 2) (b := p9 - (run (bl tb) zs pt)) (by omega) (by omega)).mpr c_22; omega
          refine lv_bipush (v := nI 10) hx hb dX10_number_30 (by decide) ?_
          refine lv_iload_n hx hb dX10_number_32 rfl (lv_at hl 2 rfl) ?_
          refine lv_imul hx hb dX10_number_33 ?_
          refine n_eq (pk_mul 10 v) ?_
          refine lv_aload_n hx hb dX10_number_34 rfl (lv_at hl 0 rfl) ?_
          refine h_get (C := RX10) (T := TX10) (N := 38) hx hb hts i_RX10 hown hI hm_11 rfl 25 (by decide) f_72 rfl rfl dX10_number_35 ?_
          refine lv_aload_n hx hb dX10_number_38 rfl (lv_at hl 0 rfl) ?_
          refine h_get (C := RX10) (T := TX10) (N := 38) hx hb hts i_RX10 hown hI hm_11 rfl 27 (by decide) f_161 rfl rfl dX10_number_39 ?_
          refine h_bald (i := p9) hx hb hI hm_15 (by omega) (by decide) dX10_number_42 ?_
          refine n_eq (show _ = nI (tb p9) from (hf p9 (by omega)).trans (sB_lo _ (by omega))) ?_
          refine lv_iadd hx hb dX10_number_43 ?_
          refine n_eq (nI_add (10 * v) (tb p9)) ?_
          refine lv_bipush (v := nI 48) hx hb dX10_number_44 (by decide) ?_
          refine lv_isub hx hb dX10_number_46 ?_
          refine n_eq (pk_sub (a := (10 * v) + (tb p9)) (b := 48) (by omega)) ?_
          refine lv_goto (tgt := 51) hx hb dX10_number_47 (by decide) ?_
          refine lv_istore_n (lv' := [(2, .int (nI (((10 * v) + (tb p9)) - 48))), (0, .ref (ad 60)), (1, .int (nI hi))]) hx hb dX10_number_51 rfl hl (by decide) rfl (fun ls hl => ?_)
          refine lv_aload_n hx hb dX10_number_52 rfl (lv_at hl 1 rfl) ?_
          refine lv_dup hx hb dX10_number_53 rfl ?_
          refine h_get (C := RX10) (T := TX10) (N := 38) hx hb hts i_RX10 hown hI hm_11 rfl 27 (by decide) f_161 rfl rfl dX10_number_54 ?_
          refine lv_iconst (v := nI 1) hx hb dX10_number_57 (by decide) ?_
          refine lv_iadd hx hb dX10_number_58 ?_
          refine n_eq (nI_add p9 1) ?_
          refine h_put (C := RX10) (T := TX10) (N := 38) hx hb hts i_RX10 tyX10 tyX10_ok nmX10 hown hI hm_11 rfl 27 (by decide) f_161 rfl rfl rfl rfl (Nat.le_of_ble_eq_true rfl) dX10_number_59 (fun M_30 H_31 locs_32 eM_33 hI => ?_)
          have hm_34 : M_30 80 = some (aB G 400 f) := by rw [eM_33, va_up_ne _ _ (by decide)]; exact hm_15
          have hm_35 : M_30 60 = some (cModel ad th ln on ao vr sn tp (p9 + 1) zs (run (bl tb) zs pt) fa) := by rw [eM_33]; exact va_up_self _ _ _
          have hF_36 : ∀ j : Nat, j ≠ 60 → M_30 j = M j := fun j q0 => by rw [eM_33, va_up_ne _ _ q0]; exact hF_13 j q0
          refine lv_goto (tgt := 6) hx hb dX10_number_62 (by decide) ?_
          exact ih_14 (p9 + 1) (((10 * v) + (tb p9)) - 48) M_30 H_31 locs_32 ls (by omega) (by omega) ((isA_run (dgt_is tb) (by assumption)).symm.trans hrn) (by
      have h8 := nm2_s hv9 (by omega) (by rw [← hpm]; exact hd9.2.1)
      rw [← hpm] at h8
      rw [h8, show p9 + 1 - run (bl tb) zs pt = p9 - run (bl tb) zs pt + 1 by omega]) hI hm_35 (fun j q0 => hF_36 j q0) (lv_sub hl [1, 2, 0] rfl)
  exact lp6_10 ((zs - (run (bl tb) zs pt)) + 1) (run (bl tb) zs pt) 0 M_3 H_4 locs_5 ls (Nat.lt_succ_self _) (by omega) (rfl) (by rw [Nat.sub_self]; rfl) hI hm_6 (fun j q0 => hF_9 j q0) (lv_sub hl [1, 2, 0] rfl)
