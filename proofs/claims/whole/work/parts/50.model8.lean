def pkA (u v a : Nat) : Nat := if u &&& v = 0 then 0 else a
theorem pkA_lt {u v a : Nat} (h : a < 40) : pkA u v a < 40 := by simp only [pkA]; split <;> omega
/-- the model's word on atom i for a, b and c -/
def anI (tr : Nat → Bool) (te ap : Nat → Nat) (i a b c : Nat) : Bool := tr (((i * 40 + pkA (ub te i (ap i)) 1 a) * 40 + pkA (ub te i (ap i)) 2 b) * 40 + pkA (ub te i (ap i)) 4 c)
def okM (tr : Nat → Bool) (nt : Nat → Bool) (te ap : Nat → Nat) (a b c : Nat) : Nat → Bool
  | 0 => true
  | i + 1 => okM tr nt te ap a b c i && decide (anI tr te ap i a b c ≠ nt i)
theorem okM_f {tr nt : Nat → Bool} {te ap : Nat → Nat} {a b c i : Nat} (h : okM tr nt te ap a b c i = false) : ∀ k, okM tr nt te ap a b c (i + k) = false := by
  intro k
  induction k with
  | zero => exact h
  | succ k ih => rw [← Nat.add_assoc, okM, ih]; rfl

/-- X10_isAnswer -/
abbrev rm_c_X10_isAnswer : Room := { frames := 1, cells := 0, slots := 0, locals := 23 }
set_option maxHeartbeats 4000000 in
set_option maxRecDepth 100000 in
theorem c_X10_isAnswer (l : Launch) (G : GG) (z : Nat) (ad : Nat → Nat) (M : Mem) {th : Nat} {ln : Nat} {on : Nat} {ao : Nat} {vr : Nat} {sn : Nat} {tp : Nat} {pt : Nat} {zs : Nat} {bg : Nat} {fa : Int32} {ap : Nat → Nat} {pf : Nat → Int32} {te : Nat → Nat} {tr : Nat → Bool} {nt : Nat → Bool} {a : Nat} {b : Nat} {c0 : Nat} (h60 : M 60 = some (cModel ad th ln on ao vr sn tp pt zs bg fa)) (h77 : M 77 = some (aI G 12 (nF ap))) (h79 : M 79 = some (aI G 48 pf)) (h82 : M 82 = some (aZ G 384000 (bF tr))) (h76 : M 76 = some (aZ G 12 (bF nt))) (hao : ao ≤ 6) (ha : a < 40) (hb4 : b < 40) (hc4 : c0 < 40) (hap : ∀ i, i < ao → ap i ≤ 4) (hpf : ∀ i, i < ao → ∀ p9, p9 < ap i → te (i * 4 + p9) < 43 ∧ pf (4 * i + p9) = tmI (te (i * 4 + p9))) : Met l yX10_isAnswer wsX10_isAnswer rm_c_X10_isAnswer (Pr G z ad M [.ref (ad 60), .int (nI a), .int (nI b), .int (nI c0)]) (vp_Si (fun r : Int32 => r = bI (okM tr nt te ap a b c0 ao))) 0 0 (fun _ => False) := by
  refine Met.ofW (cc := cX10_isAnswer) (maxL := 7) (ret := (some .boolean)) (by decide) rfl ?_
  intro p e s m args below meth c s₁ B hml hv
  obtain ⟨rfl, hv⟩ := hv
  have hI := Iv.entry hv
  have hx := B.exec
  have hb := B.bytes
  have hr := B.returns
  have hts := atoms_spec (ws := wsX10_isAnswer) B.pre
  have hown : s.vm.findClass RX10 = some m.cls := findClass_of_methodNamed B.named
  have hlocks := B.notSynchronized
  have i_RX10 : ∀ w ∈ u_ws RX10 TX10 38, w ∈ wsX10_isAnswer := fun w h => List.mem_cons_of_mem _ (iu_X10 w h)
  have f_226 := hts _ (List.mem_cons_of_mem _ (lwg_of t_1035 rfl))
  have f_83 := hts _ (List.mem_cons_of_mem _ (lwg_of t_1045 rfl))
  have f_60 := hts _ (List.mem_cons_of_mem _ (lwg_of t_1031 rfl))
  have hl := lv_entry ([.ref (ad 60), .int (nI a), .int (nI b), .int (nI c0)]) (n := 7) (Nat.le_of_ble_eq_true rfl)
  rw [lg_entry_eq]
  generalize (lg_sl ([.ref (ad 60), .int (nI a), .int (nI b), .int (nI c0)]) ++ List.replicate (7 - (lg_sl ([.ref (ad 60), .int (nI a), .int (nI b), .int (nI c0)])).length) Slot.unset).toArray = ls at hl ⊢
  have hl : lv_has ls 7 [(0, .ref (ad 60)), (1, .int (nI a)), (2, .int (nI b)), (3, .int (nI c0))] := hl
  refine w_q (fun Q hQ => ?_)
  refine lv_iconst (v := nI 1) hx hb dX10_isAnswer_0 (by decide) ?_
  refine n_eq (show _ = bI true from rfl) ?_
  refine lv_istore (lv' := [(4, .int (bI true)), (0, .ref (ad 60)), (1, .int (nI a)), (2, .int (nI b)), (3, .int (nI c0))]) hx hb dX10_isAnswer_1 hl (by decide) rfl (fun ls hl => ?_)
  refine lv_iconst (v := nI 0) hx hb dX10_isAnswer_3 (by decide) ?_
  refine lv_istore (lv' := [(5, .int (nI 0)), (4, .int (bI true)), (0, .ref (ad 60)), (1, .int (nI a)), (2, .int (nI b)), (3, .int (nI c0))]) hx hb dX10_isAnswer_4 hl (by decide) rfl (fun ls hl => ?_)
  have lp6_1 : ∀ (fuel : Nat) (i : Nat) (bb : Bool) (ls : Array Slot), (ao - i) < fuel → (i ≤ ao) → (bb = okM tr nt te ap a b c0 i) → lv_has ls 7 [(0, .ref (ad 60)), (1, .int (nI a)), (2, .int (nI b)), (3, .int (nI c0)), (4, .int (bI bb)), (5, .int (nI i))] → W p l e (headSpec wsX10_isAnswer rm_c_X10_isAnswer).room s m ([.ref (ad 60), .int (nI a), .int (nI b), .int (nI c0)] : List Value).toArray below meth c s.heap [] 0 0 Q (F0 m 6 ls []) := by
    intro fuel
    induction fuel with
    | zero => intro i bb ls hfu hi hbb hl; exact absurd hfu (Nat.not_lt_zero _)
    | succ fuel ih_2 =>
      intro i bb ls hfu hi hbb hl
      refine lv_iload hx hb dX10_isAnswer_6 (lv_at hl 5 rfl) ?_
      refine lv_aload_n hx hb dX10_isAnswer_8 rfl (lv_at hl 0 rfl) ?_
      refine h_get (C := RX10) (T := TX10) (N := 38) hx hb hts i_RX10 hown hI h60 rfl 22 (by decide) f_226 rfl rfl dX10_isAnswer_9 ?_
      refine lv_icmp_ge (tgt := 97) hx hb dX10_isAnswer_12 (by decide) (fun c_3 => ?_) (fun c_3 => ?_)
      · -- 12: nI i ge
        have c_3 : ao ≤ i := (nI_leI (a := ao) (b := i) (by omega) (by omega)).mp (c_3)
        refine lv_iload hx hb dX10_isAnswer_97 (lv_at hl 4 rfl) ?_
        subst hQ
        exact e_Ri hx hb hr (bI_nar _) hlocks (by rw [hbb, show i = ao by omega]) dX10_isAnswer_99
      · -- 12: nI i lt
        have c_3 : i < ao := by have h := mt (nI_leI (a := ao) (b := i) (by omega) (by omega)).mpr c_3; omega
        refine lv_iload hx hb dX10_isAnswer_15 (lv_at hl 4 rfl) ?_
        refine lv_if_eq (tgt := 97) hx hb dX10_isAnswer_17 (by decide) (fun c_4 => ?_) (fun c_4 => ?_)
        · -- 17: bI bb eq
          have c_4 : bb = false := bI_f (c_4)
          refine lv_iload hx hb dX10_isAnswer_97 (lv_at hl 4 rfl) ?_
          subst hQ
          exact e_Ri hx hb hr (bI_nar _) hlocks (by
    have h8 := okM_f (hbb.symm.trans (by assumption)) (ao - i)
    rw [show i + (ao - i) = ao by omega] at h8
    rw [h8, show bb = false by assumption]) dX10_isAnswer_99
        · -- 17: bI bb ne
          have c_4 : bb = true := bI_t (c_4)
          have hapi := hap i (by omega)
          have hpfi := hpf i (by omega)
          refine lv_aload_n hx hb dX10_isAnswer_20 rfl (lv_at hl 0 rfl) ?_
          refine lv_iload hx hb dX10_isAnswer_21 (lv_at hl 5 rfl) ?_
          refine k_Ri (va_runV (As := [.int (nI i)]) (rest := []) ⟨hx, hb, hml, hown, hts⟩ (c_X10_usedBy l G z ad M (th := th) (ln := ln) (on := on) (ao := ao) (vr := vr) (sn := sn) (tp := tp) (pt := pt) (zs := zs) (bg := bg) (fa := fa) (ap := ap) (pf := pf) (te := te) (i := i) h60 h77 h79 (by omega) (by omega) hpfi) (cwV 1 hts (gV (lwg_of t_1346 rfl) (lwg_of t_1348 rfl) (lwg_of ts_44 rfl) (lwg_of t_13 rfl) (lwg_of t_1349 rfl)) rfl rfl rfl (by decide +kernel) ⟨Nat.le_of_ble_eq_true rfl, Nat.le_of_ble_eq_true rfl⟩) (hI.preV h60 rfl) rfl rfl hl.1 rfl (lv_room (Nat.le_of_ble_eq_true rfl)) dX10_isAnswer_23 ⟨Nat.le_of_ble_eq_true rfl, Nat.le_of_ble_eq_true rfl⟩) (fun _ h => h) (fun r_5 hp_6 => ?_)
          rw [hp_6]
          refine lv_istore (lv' := [(6, .int (nI (ub te i (ap i)))), (0, .ref (ad 60)), (1, .int (nI a)), (2, .int (nI b)), (3, .int (nI c0)), (4, .int (bI bb)), (5, .int (nI i))]) hx hb dX10_isAnswer_26 hl (by decide) rfl (fun ls hl => ?_)
          have hu1 : ub te i (ap i) &&& 1 ≤ 1 := Nat.and_le_right
          have hu2 : ub te i (ap i) &&& 2 ≤ 2 := Nat.and_le_right
          have hu4 : ub te i (ap i) &&& 4 ≤ 4 := Nat.and_le_right
          have hk1 : pkA (ub te i (ap i)) 1 a < 40 := pkA_lt ha
          have hk2 : pkA (ub te i (ap i)) 2 b < 40 := pkA_lt hb4
          have hk4 : pkA (ub te i (ap i)) 4 c0 < 40 := pkA_lt hc4
          refine lv_aload_n hx hb dX10_isAnswer_28 rfl (lv_at hl 1 rfl) ?_
          refine h_get (C := RX10) (T := TX10) (N := 38) hx hb hts i_RX10 hown hI h60 rfl 32 (by decide) f_83 rfl rfl dX10_isAnswer_29 ?_
          refine lv_iload hx hb dX10_isAnswer_32 (lv_at hl 6 rfl) ?_
          refine lv_iload hx hb dX10_isAnswer_34 (lv_at hl 0 rfl) ?_
          refine lv_iconst (v := nI 1) hx hb dX10_isAnswer_36 (by decide) ?_
          refine lv_iand hx hb dX10_isAnswer_37 ?_
          refine n_eq (show _ = nI (ub te i (ap i) &&& 1) from nI_and _ _) ?_
          refine lv_if_ne (tgt := 45) hx hb dX10_isAnswer_38 (by decide) (fun c_7 => ?_) (fun c_7 => ?_)
          · -- 38: nI (ub te i (ap i) &&& 1) ne
            have c_7 : ub te i (ap i) &&& 1 ≠ 0 := by have h := mt (nI_eq (a := ub te i (ap i) &&& 1) (b := 0) (by omega) (by omega)).mpr c_7; omega
            refine lv_iload_n hx hb dX10_isAnswer_45 rfl (lv_at hl 2 rfl) ?_
            refine n_eq (show _ = nI (pkA (ub te i (ap i)) 1 a) from by rw [pkA, if_neg (by assumption)]) ?_
            refine lv_iload hx hb dX10_isAnswer_46 (lv_at hl 0 rfl) ?_
            refine lv_iconst (v := nI 2) hx hb dX10_isAnswer_48 (by decide) ?_
            refine lv_iand hx hb dX10_isAnswer_49 ?_
            refine n_eq (show _ = nI (ub te i (ap i) &&& 2) from nI_and _ _) ?_
            refine lv_if_ne (tgt := 57) hx hb dX10_isAnswer_50 (by decide) (fun c_8 => ?_) (fun c_8 => ?_)
            · -- 50: nI (ub te i (ap i) &&& 2) ne
              have c_8 : ub te i (ap i) &&& 2 ≠ 0 := by have h := mt (nI_eq (a := ub te i (ap i) &&& 2) (b := 0) (by omega) (by omega)).mpr c_8; omega
              refine lv_iload_n hx hb dX10_isAnswer_57 rfl (lv_at hl 3 rfl) ?_
              refine n_eq (show _ = nI (pkA (ub te i (ap i)) 2 b) from by rw [pkA, if_neg (by assumption)]) ?_
              refine lv_iload hx hb dX10_isAnswer_58 (lv_at hl 0 rfl) ?_
              refine lv_iconst (v := nI 4) hx hb dX10_isAnswer_60 (by decide) ?_
              refine lv_iand hx hb dX10_isAnswer_61 ?_
              refine n_eq (show _ = nI (ub te i (ap i) &&& 4) from nI_and _ _) ?_
              refine lv_if_ne (tgt := 69) hx hb dX10_isAnswer_62 (by decide) (fun c_9 => ?_) (fun c_9 => ?_)
              · -- 62: nI (ub te i (ap i) &&& 4) ne
                have c_9 : ub te i (ap i) &&& 4 ≠ 0 := by have h := mt (nI_eq (a := ub te i (ap i) &&& 4) (b := 0) (by omega) (by omega)).mpr c_9; omega
                refine lv_iload_n hx hb dX10_isAnswer_69 rfl (lv_at hl 4 rfl) ?_
                refine n_eq (show _ = nI (pkA (ub te i (ap i)) 4 c0) from by rw [pkA, if_neg (by assumption)]) ?_
                refine k_Ri (va_runS (As := [.int (nI i), .int (nI (pkA (ub te i (ap i)) 1 a)), .int (nI (pkA (ub te i (ap i)) 2 b)), .int (nI (pkA (ub te i (ap i)) 4 c0))]) (rest := [.ref (ad 82)]) ⟨hx, hb, hml, hown, hts⟩ (c_X10_placeOf l G z ad M (i := i) (a := pkA (ub te i (ap i)) 1 a) (b := pkA (ub te i (ap i)) 2 b) (c0 := pkA (ub te i (ap i)) 4 c0) ) (va_cwS 4 hts (gS (lwg_of t_1335 rfl) (lwg_of t_1336 rfl) (lwg_of t_13 rfl) (lwg_of t_1337 rfl)) rfl rfl rfl (by decide +kernel) ⟨Nat.le_of_ble_eq_true rfl, Nat.le_of_ble_eq_true rfl⟩) hI.preS rfl rfl hl.1 rfl (lv_room (Nat.le_of_ble_eq_true rfl)) dX10_isAnswer_70 ⟨Nat.le_of_ble_eq_true rfl, Nat.le_of_ble_eq_true rfl⟩) (fun _ h => h) (fun r_10 hp_11 => ?_)
                rw [hp_11]
                refine h_zald (i := ((i * 40 + (pkA (ub te i (ap i)) 1 a)) * 40 + (pkA (ub te i (ap i)) 2 b)) * 40 + (pkA (ub te i (ap i)) 4 c0)) hx hb hI h82 (by omega) (by decide) dX10_isAnswer_73 ?_
                refine n_eq (show _ = bI (anI tr te ap i a b c0) from rfl) ?_
                refine lv_aload_n hx hb dX10_isAnswer_74 rfl (lv_at hl 1 rfl) ?_
                refine h_get (C := RX10) (T := TX10) (N := 38) hx hb hts i_RX10 hown hI h60 rfl 18 (by decide) f_60 rfl rfl dX10_isAnswer_75 ?_
                refine lv_iload hx hb dX10_isAnswer_78 (lv_at hl 6 rfl) ?_
                refine h_zald (i := i) hx hb hI h76 (by omega) (by decide) dX10_isAnswer_80 ?_
                refine lv_icmp_eq (tgt := 88) hx hb dX10_isAnswer_81 (by decide) (fun c_12 => ?_) (fun c_12 => ?_)
                · -- 81: bI (anI tr te ap i a b c0) eq
                  have c_12 : anI tr te ap i a b c0 = nt i := bI_inj c_12
                  refine lv_iconst (v := nI 0) hx hb dX10_isAnswer_88 (by decide) ?_
                  refine n_eq (show _ = bI false from rfl) ?_
                  refine lv_istore (lv' := [(4, .int (bI false)), (6, .int (nI (ub te i (ap i)))), (0, .ref (ad 60)), (1, .int (nI a)), (2, .int (nI b)), (3, .int (nI c0)), (5, .int (nI i))]) hx hb dX10_isAnswer_89 hl (by decide) rfl (fun ls hl => ?_)
                  refine lv_iinc (v := nI (i + 1)) (lv' := [(5, .int (nI (i + 1))), (4, .int (bI false)), (6, .int (nI (ub te i (ap i)))), (0, .ref (ad 60)), (1, .int (nI a)), (2, .int (nI b)), (3, .int (nI c0))]) hx hb dX10_isAnswer_91 hl (k := 6) rfl (nI_add i 1) (by decide) rfl (fun ls hl => ?_)
                  refine lv_goto (tgt := 6) hx hb dX10_isAnswer_94 (by decide) ?_
                  exact ih_2 (i + 1) false ls (by omega) (by omega) (by rw [okM, decide_eq_false (Decidable.not_not.mpr (by assumption)), Bool.and_false]) (lv_sub hl [3, 4, 5, 6, 1, 0] rfl)
                · -- 81: bI (anI tr te ap i a b c0) ne
                  have c_12 : anI tr te ap i a b c0 ≠ nt i := (fun h => c_12 (congrArg bI h))
                  refine lv_iconst (v := nI 1) hx hb dX10_isAnswer_84 (by decide) ?_
                  refine n_eq (show _ = bI true from rfl) ?_
                  refine lv_goto (tgt := 89) hx hb dX10_isAnswer_85 (by decide) ?_
                  refine lv_istore (lv' := [(4, .int (bI true)), (6, .int (nI (ub te i (ap i)))), (0, .ref (ad 60)), (1, .int (nI a)), (2, .int (nI b)), (3, .int (nI c0)), (5, .int (nI i))]) hx hb dX10_isAnswer_89 hl (by decide) rfl (fun ls hl => ?_)
                  refine lv_iinc (v := nI (i + 1)) (lv' := [(5, .int (nI (i + 1))), (4, .int (bI true)), (6, .int (nI (ub te i (ap i)))), (0, .ref (ad 60)), (1, .int (nI a)), (2, .int (nI b)), (3, .int (nI c0))]) hx hb dX10_isAnswer_91 hl (k := 6) rfl (nI_add i 1) (by decide) rfl (fun ls hl => ?_)
                  refine lv_goto (tgt := 6) hx hb dX10_isAnswer_94 (by decide) ?_
                  exact ih_2 (i + 1) true ls (by omega) (by omega) (by rw [okM, ← hbb, show bb = true by assumption, decide_eq_true (by assumption)]; rfl) (lv_sub hl [3, 4, 5, 6, 1, 0] rfl)
              · -- 62: nI (ub te i (ap i) &&& 4) eq
                have c_9 : ub te i (ap i) &&& 4 = 0 := (nI_eq (a := ub te i (ap i) &&& 4) (b := 0) (by omega) (by omega)).mp (c_9)
                refine lv_iconst (v := nI 0) hx hb dX10_isAnswer_65 (by decide) ?_
                refine lv_goto (tgt := 70) hx hb dX10_isAnswer_66 (by decide) ?_
                refine n_eq (show _ = nI (pkA (ub te i (ap i)) 4 c0) from by rw [pkA, if_pos (by assumption)]) ?_
                refine k_Ri (va_runS (As := [.int (nI i), .int (nI (pkA (ub te i (ap i)) 1 a)), .int (nI (pkA (ub te i (ap i)) 2 b)), .int (nI (pkA (ub te i (ap i)) 4 c0))]) (rest := [.ref (ad 82)]) ⟨hx, hb, hml, hown, hts⟩ (c_X10_placeOf l G z ad M (i := i) (a := pkA (ub te i (ap i)) 1 a) (b := pkA (ub te i (ap i)) 2 b) (c0 := pkA (ub te i (ap i)) 4 c0) ) (va_cwS 4 hts (gS (lwg_of t_1335 rfl) (lwg_of t_1336 rfl) (lwg_of t_13 rfl) (lwg_of t_1337 rfl)) rfl rfl rfl (by decide +kernel) ⟨Nat.le_of_ble_eq_true rfl, Nat.le_of_ble_eq_true rfl⟩) hI.preS rfl rfl hl.1 rfl (lv_room (Nat.le_of_ble_eq_true rfl)) dX10_isAnswer_70 ⟨Nat.le_of_ble_eq_true rfl, Nat.le_of_ble_eq_true rfl⟩) (fun _ h => h) (fun r_13 hp_14 => ?_)
                rw [hp_14]
                refine h_zald (i := ((i * 40 + (pkA (ub te i (ap i)) 1 a)) * 40 + (pkA (ub te i (ap i)) 2 b)) * 40 + (pkA (ub te i (ap i)) 4 c0)) hx hb hI h82 (by omega) (by decide) dX10_isAnswer_73 ?_
                refine n_eq (show _ = bI (anI tr te ap i a b c0) from rfl) ?_
                refine lv_aload_n hx hb dX10_isAnswer_74 rfl (lv_at hl 1 rfl) ?_
                refine h_get (C := RX10) (T := TX10) (N := 38) hx hb hts i_RX10 hown hI h60 rfl 18 (by decide) f_60 rfl rfl dX10_isAnswer_75 ?_
                refine lv_iload hx hb dX10_isAnswer_78 (lv_at hl 6 rfl) ?_
                refine h_zald (i := i) hx hb hI h76 (by omega) (by decide) dX10_isAnswer_80 ?_
                refine lv_icmp_eq (tgt := 88) hx hb dX10_isAnswer_81 (by decide) (fun c_15 => ?_) (fun c_15 => ?_)
                · -- 81: bI (anI tr te ap i a b c0) eq
                  have c_15 : anI tr te ap i a b c0 = nt i := bI_inj c_15
                  refine lv_iconst (v := nI 0) hx hb dX10_isAnswer_88 (by decide) ?_
                  refine n_eq (show _ = bI false from rfl) ?_
                  refine lv_istore (lv' := [(4, .int (bI false)), (6, .int (nI (ub te i (ap i)))), (0, .ref (ad 60)), (1, .int (nI a)), (2, .int (nI b)), (3, .int (nI c0)), (5, .int (nI i))]) hx hb dX10_isAnswer_89 hl (by decide) rfl (fun ls hl => ?_)
                  refine lv_iinc (v := nI (i + 1)) (lv' := [(5, .int (nI (i + 1))), (4, .int (bI false)), (6, .int (nI (ub te i (ap i)))), (0, .ref (ad 60)), (1, .int (nI a)), (2, .int (nI b)), (3, .int (nI c0))]) hx hb dX10_isAnswer_91 hl (k := 6) rfl (nI_add i 1) (by decide) rfl (fun ls hl => ?_)
                  refine lv_goto (tgt := 6) hx hb dX10_isAnswer_94 (by decide) ?_
                  exact ih_2 (i + 1) false ls (by omega) (by omega) (by rw [okM, decide_eq_false (Decidable.not_not.mpr (by assumption)), Bool.and_false]) (lv_sub hl [3, 4, 5, 6, 1, 0] rfl)
                · -- 81: bI (anI tr te ap i a b c0) ne
                  have c_15 : anI tr te ap i a b c0 ≠ nt i := (fun h => c_15 (congrArg bI h))
                  refine lv_iconst (v := nI 1) hx hb dX10_isAnswer_84 (by decide) ?_
                  refine n_eq (show _ = bI true from rfl) ?_
                  refine lv_goto (tgt := 89) hx hb dX10_isAnswer_85 (by decide) ?_
                  refine lv_istore (lv' := [(4, .int (bI true)), (6, .int (nI (ub te i (ap i)))), (0, .ref (ad 60)), (1, .int (nI a)), (2, .int (nI b)), (3, .int (nI c0)), (5, .int (nI i))]) hx hb dX10_isAnswer_89 hl (by decide) rfl (fun ls hl => ?_)
                  refine lv_iinc (v := nI (i + 1)) (lv' := [(5, .int (nI (i + 1))), (4, .int (bI true)), (6, .int (nI (ub te i (ap i)))), (0, .ref (ad 60)), (1, .int (nI a)), (2, .int (nI b)), (3, .int (nI c0))]) hx hb dX10_isAnswer_91 hl (k := 6) rfl (nI_add i 1) (by decide) rfl (fun ls hl => ?_)
                  refine lv_goto (tgt := 6) hx hb dX10_isAnswer_94 (by decide) ?_
                  exact ih_2 (i + 1) true ls (by omega) (by omega) (by rw [okM, ← hbb, show bb = true by assumption, decide_eq_true (by assumption)]; rfl) (lv_sub hl [3, 4, 5, 6, 1, 0] rfl)
            · -- 50: nI (ub te i (ap i) &&& 2) eq
              have c_8 : ub te i (ap i) &&& 2 = 0 := (nI_eq (a := ub te i (ap i) &&& 2) (b := 0) (by omega) (by omega)).mp (c_8)
              refine lv_iconst (v := nI 0) hx hb dX10_isAnswer_53 (by decide) ?_
              refine lv_goto (tgt := 58) hx hb dX10_isAnswer_54 (by decide) ?_
              refine n_eq (show _ = nI (pkA (ub te i (ap i)) 2 b) from by rw [pkA, if_pos (by assumption)]) ?_
              refine lv_iload hx hb dX10_isAnswer_58 (lv_at hl 0 rfl) ?_
              refine lv_iconst (v := nI 4) hx hb dX10_isAnswer_60 (by decide) ?_
              refine lv_iand hx hb dX10_isAnswer_61 ?_
              refine n_eq (show _ = nI (ub te i (ap i) &&& 4) from nI_and _ _) ?_
              refine lv_if_ne (tgt := 69) hx hb dX10_isAnswer_62 (by decide) (fun c_16 => ?_) (fun c_16 => ?_)
              · -- 62: nI (ub te i (ap i) &&& 4) ne
                have c_16 : ub te i (ap i) &&& 4 ≠ 0 := by have h := mt (nI_eq (a := ub te i (ap i) &&& 4) (b := 0) (by omega) (by omega)).mpr c_16; omega
                refine lv_iload_n hx hb dX10_isAnswer_69 rfl (lv_at hl 4 rfl) ?_
                refine n_eq (show _ = nI (pkA (ub te i (ap i)) 4 c0) from by rw [pkA, if_neg (by assumption)]) ?_
                refine k_Ri (va_runS (As := [.int (nI i), .int (nI (pkA (ub te i (ap i)) 1 a)), .int (nI (pkA (ub te i (ap i)) 2 b)), .int (nI (pkA (ub te i (ap i)) 4 c0))]) (rest := [.ref (ad 82)]) ⟨hx, hb, hml, hown, hts⟩ (c_X10_placeOf l G z ad M (i := i) (a := pkA (ub te i (ap i)) 1 a) (b := pkA (ub te i (ap i)) 2 b) (c0 := pkA (ub te i (ap i)) 4 c0) ) (va_cwS 4 hts (gS (lwg_of t_1335 rfl) (lwg_of t_1336 rfl) (lwg_of t_13 rfl) (lwg_of t_1337 rfl)) rfl rfl rfl (by decide +kernel) ⟨Nat.le_of_ble_eq_true rfl, Nat.le_of_ble_eq_true rfl⟩) hI.preS rfl rfl hl.1 rfl (lv_room (Nat.le_of_ble_eq_true rfl)) dX10_isAnswer_70 ⟨Nat.le_of_ble_eq_true rfl, Nat.le_of_ble_eq_true rfl⟩) (fun _ h => h) (fun r_17 hp_18 => ?_)
                rw [hp_18]
                refine h_zald (i := ((i * 40 + (pkA (ub te i (ap i)) 1 a)) * 40 + (pkA (ub te i (ap i)) 2 b)) * 40 + (pkA (ub te i (ap i)) 4 c0)) hx hb hI h82 (by omega) (by decide) dX10_isAnswer_73 ?_
                refine n_eq (show _ = bI (anI tr te ap i a b c0) from rfl) ?_
                refine lv_aload_n hx hb dX10_isAnswer_74 rfl (lv_at hl 1 rfl) ?_
                refine h_get (C := RX10) (T := TX10) (N := 38) hx hb hts i_RX10 hown hI h60 rfl 18 (by decide) f_60 rfl rfl dX10_isAnswer_75 ?_
                refine lv_iload hx hb dX10_isAnswer_78 (lv_at hl 6 rfl) ?_
                refine h_zald (i := i) hx hb hI h76 (by omega) (by decide) dX10_isAnswer_80 ?_
                refine lv_icmp_eq (tgt := 88) hx hb dX10_isAnswer_81 (by decide) (fun c_19 => ?_) (fun c_19 => ?_)
                · -- 81: bI (anI tr te ap i a b c0) eq
                  have c_19 : anI tr te ap i a b c0 = nt i := bI_inj c_19
                  refine lv_iconst (v := nI 0) hx hb dX10_isAnswer_88 (by decide) ?_
                  refine n_eq (show _ = bI false from rfl) ?_
                  refine lv_istore (lv' := [(4, .int (bI false)), (6, .int (nI (ub te i (ap i)))), (0, .ref (ad 60)), (1, .int (nI a)), (2, .int (nI b)), (3, .int (nI c0)), (5, .int (nI i))]) hx hb dX10_isAnswer_89 hl (by decide) rfl (fun ls hl => ?_)
                  refine lv_iinc (v := nI (i + 1)) (lv' := [(5, .int (nI (i + 1))), (4, .int (bI false)), (6, .int (nI (ub te i (ap i)))), (0, .ref (ad 60)), (1, .int (nI a)), (2, .int (nI b)), (3, .int (nI c0))]) hx hb dX10_isAnswer_91 hl (k := 6) rfl (nI_add i 1) (by decide) rfl (fun ls hl => ?_)
                  refine lv_goto (tgt := 6) hx hb dX10_isAnswer_94 (by decide) ?_
                  exact ih_2 (i + 1) false ls (by omega) (by omega) (by rw [okM, decide_eq_false (Decidable.not_not.mpr (by assumption)), Bool.and_false]) (lv_sub hl [3, 4, 5, 6, 1, 0] rfl)
                · -- 81: bI (anI tr te ap i a b c0) ne
                  have c_19 : anI tr te ap i a b c0 ≠ nt i := (fun h => c_19 (congrArg bI h))
                  refine lv_iconst (v := nI 1) hx hb dX10_isAnswer_84 (by decide) ?_
                  refine n_eq (show _ = bI true from rfl) ?_
                  refine lv_goto (tgt := 89) hx hb dX10_isAnswer_85 (by decide) ?_
                  refine lv_istore (lv' := [(4, .int (bI true)), (6, .int (nI (ub te i (ap i)))), (0, .ref (ad 60)), (1, .int (nI a)), (2, .int (nI b)), (3, .int (nI c0)), (5, .int (nI i))]) hx hb dX10_isAnswer_89 hl (by decide) rfl (fun ls hl => ?_)
                  refine lv_iinc (v := nI (i + 1)) (lv' := [(5, .int (nI (i + 1))), (4, .int (bI true)), (6, .int (nI (ub te i (ap i)))), (0, .ref (ad 60)), (1, .int (nI a)), (2, .int (nI b)), (3, .int (nI c0))]) hx hb dX10_isAnswer_91 hl (k := 6) rfl (nI_add i 1) (by decide) rfl (fun ls hl => ?_)
                  refine lv_goto (tgt := 6) hx hb dX10_isAnswer_94 (by decide) ?_
                  exact ih_2 (i + 1) true ls (by omega) (by omega) (by rw [okM, ← hbb, show bb = true by assumption, decide_eq_true (by assumption)]; rfl) (lv_sub hl [3, 4, 5, 6, 1, 0] rfl)
              · -- 62: nI (ub te i (ap i) &&& 4) eq
                have c_16 : ub te i (ap i) &&& 4 = 0 := (nI_eq (a := ub te i (ap i) &&& 4) (b := 0) (by omega) (by omega)).mp (c_16)
                refine lv_iconst (v := nI 0) hx hb dX10_isAnswer_65 (by decide) ?_
                refine lv_goto (tgt := 70) hx hb dX10_isAnswer_66 (by decide) ?_
                refine n_eq (show _ = nI (pkA (ub te i (ap i)) 4 c0) from by rw [pkA, if_pos (by assumption)]) ?_
                refine k_Ri (va_runS (As := [.int (nI i), .int (nI (pkA (ub te i (ap i)) 1 a)), .int (nI (pkA (ub te i (ap i)) 2 b)), .int (nI (pkA (ub te i (ap i)) 4 c0))]) (rest := [.ref (ad 82)]) ⟨hx, hb, hml, hown, hts⟩ (c_X10_placeOf l G z ad M (i := i) (a := pkA (ub te i (ap i)) 1 a) (b := pkA (ub te i (ap i)) 2 b) (c0 := pkA (ub te i (ap i)) 4 c0) ) (va_cwS 4 hts (gS (lwg_of t_1335 rfl) (lwg_of t_1336 rfl) (lwg_of t_13 rfl) (lwg_of t_1337 rfl)) rfl rfl rfl (by decide +kernel) ⟨Nat.le_of_ble_eq_true rfl, Nat.le_of_ble_eq_true rfl⟩) hI.preS rfl rfl hl.1 rfl (lv_room (Nat.le_of_ble_eq_true rfl)) dX10_isAnswer_70 ⟨Nat.le_of_ble_eq_true rfl, Nat.le_of_ble_eq_true rfl⟩) (fun _ h => h) (fun r_20 hp_21 => ?_)
                rw [hp_21]
                refine h_zald (i := ((i * 40 + (pkA (ub te i (ap i)) 1 a)) * 40 + (pkA (ub te i (ap i)) 2 b)) * 40 + (pkA (ub te i (ap i)) 4 c0)) hx hb hI h82 (by omega) (by decide) dX10_isAnswer_73 ?_
                refine n_eq (show _ = bI (anI tr te ap i a b c0) from rfl) ?_
                refine lv_aload_n hx hb dX10_isAnswer_74 rfl (lv_at hl 1 rfl) ?_
                refine h_get (C := RX10) (T := TX10) (N := 38) hx hb hts i_RX10 hown hI h60 rfl 18 (by decide) f_60 rfl rfl dX10_isAnswer_75 ?_
                refine lv_iload hx hb dX10_isAnswer_78 (lv_at hl 6 rfl) ?_
                refine h_zald (i := i) hx hb hI h76 (by omega) (by decide) dX10_isAnswer_80 ?_
                refine lv_icmp_eq (tgt := 88) hx hb dX10_isAnswer_81 (by decide) (fun c_22 => ?_) (fun c_22 => ?_)
                · -- 81: bI (anI tr te ap i a b c0) eq
                  have c_22 : anI tr te ap i a b c0 = nt i := bI_inj c_22
                  refine lv_iconst (v := nI 0) hx hb dX10_isAnswer_88 (by decide) ?_
                  refine n_eq (show _ = bI false from rfl) ?_
                  refine lv_istore (lv' := [(4, .int (bI false)), (6, .int (nI (ub te i (ap i)))), (0, .ref (ad 60)), (1, .int (nI a)), (2, .int (nI b)), (3, .int (nI c0)), (5, .int (nI i))]) hx hb dX10_isAnswer_89 hl (by decide) rfl (fun ls hl => ?_)
                  refine lv_iinc (v := nI (i + 1)) (lv' := [(5, .int (nI (i + 1))), (4, .int (bI false)), (6, .int (nI (ub te i (ap i)))), (0, .ref (ad 60)), (1, .int (nI a)), (2, .int (nI b)), (3, .int (nI c0))]) hx hb dX10_isAnswer_91 hl (k := 6) rfl (nI_add i 1) (by decide) rfl (fun ls hl => ?_)
                  refine lv_goto (tgt := 6) hx hb dX10_isAnswer_94 (by decide) ?_
                  exact ih_2 (i + 1) false ls (by omega) (by omega) (by rw [okM, decide_eq_false (Decidable.not_not.mpr (by assumption)), Bool.and_false]) (lv_sub hl [3, 4, 5, 6, 1, 0] rfl)
                · -- 81: bI (anI tr te ap i a b c0) ne
                  have c_22 : anI tr te ap i a b c0 ≠ nt i := (fun h => c_22 (congrArg bI h))
                  refine lv_iconst (v := nI 1) hx hb dX10_isAnswer_84 (by decide) ?_
                  refine n_eq (show _ = bI true from rfl) ?_
                  refine lv_goto (tgt := 89) hx hb dX10_isAnswer_85 (by decide) ?_
                  refine lv_istore (lv' := [(4, .int (bI true)), (6, .int (nI (ub te i (ap i)))), (0, .ref (ad 60)), (1, .int (nI a)), (2, .int (nI b)), (3, .int (nI c0)), (5, .int (nI i))]) hx hb dX10_isAnswer_89 hl (by decide) rfl (fun ls hl => ?_)
                  refine lv_iinc (v := nI (i + 1)) (lv' := [(5, .int (nI (i + 1))), (4, .int (bI true)), (6, .int (nI (ub te i (ap i)))), (0, .ref (ad 60)), (1, .int (nI a)), (2, .int (nI b)), (3, .int (nI c0))]) hx hb dX10_isAnswer_91 hl (k := 6) rfl (nI_add i 1) (by decide) rfl (fun ls hl => ?_)
                  refine lv_goto (tgt := 6) hx hb dX10_isAnswer_94 (by decide) ?_
                  exact ih_2 (i + 1) true ls (by omega) (by omega) (by rw [okM, ← hbb, show bb = true by assumption, decide_eq_true (by assumption)]; rfl) (lv_sub hl [3, 4, 5, 6, 1, 0] rfl)
          · -- 38: nI (ub te i (ap i) &&& 1) eq
            have c_7 : ub te i (ap i) &&& 1 = 0 := (nI_eq (a := ub te i (ap i) &&& 1) (b := 0) (by omega) (by omega)).mp (c_7)
            refine lv_iconst (v := nI 0) hx hb dX10_isAnswer_41 (by decide) ?_
            refine lv_goto (tgt := 46) hx hb dX10_isAnswer_42 (by decide) ?_
            refine n_eq (show _ = nI (pkA (ub te i (ap i)) 1 a) from by rw [pkA, if_pos (by assumption)]) ?_
            refine lv_iload hx hb dX10_isAnswer_46 (lv_at hl 0 rfl) ?_
            refine lv_iconst (v := nI 2) hx hb dX10_isAnswer_48 (by decide) ?_
            refine lv_iand hx hb dX10_isAnswer_49 ?_
            refine n_eq (show _ = nI (ub te i (ap i) &&& 2) from nI_and _ _) ?_
            refine lv_if_ne (tgt := 57) hx hb dX10_isAnswer_50 (by decide) (fun c_23 => ?_) (fun c_23 => ?_)
            · -- 50: nI (ub te i (ap i) &&& 2) ne
              have c_23 : ub te i (ap i) &&& 2 ≠ 0 := by have h := mt (nI_eq (a := ub te i (ap i) &&& 2) (b := 0) (by omega) (by omega)).mpr c_23; omega
              refine lv_iload_n hx hb dX10_isAnswer_57 rfl (lv_at hl 3 rfl) ?_
              refine n_eq (show _ = nI (pkA (ub te i (ap i)) 2 b) from by rw [pkA, if_neg (by assumption)]) ?_
              refine lv_iload hx hb dX10_isAnswer_58 (lv_at hl 0 rfl) ?_
              refine lv_iconst (v := nI 4) hx hb dX10_isAnswer_60 (by decide) ?_
              refine lv_iand hx hb dX10_isAnswer_61 ?_
              refine n_eq (show _ = nI (ub te i (ap i) &&& 4) from nI_and _ _) ?_
              refine lv_if_ne (tgt := 69) hx hb dX10_isAnswer_62 (by decide) (fun c_24 => ?_) (fun c_24 => ?_)
              · -- 62: nI (ub te i (ap i) &&& 4) ne
                have c_24 : ub te i (ap i) &&& 4 ≠ 0 := by have h := mt (nI_eq (a := ub te i (ap i) &&& 4) (b := 0) (by omega) (by omega)).mpr c_24; omega
                refine lv_iload_n hx hb dX10_isAnswer_69 rfl (lv_at hl 4 rfl) ?_
                refine n_eq (show _ = nI (pkA (ub te i (ap i)) 4 c0) from by rw [pkA, if_neg (by assumption)]) ?_
                refine k_Ri (va_runS (As := [.int (nI i), .int (nI (pkA (ub te i (ap i)) 1 a)), .int (nI (pkA (ub te i (ap i)) 2 b)), .int (nI (pkA (ub te i (ap i)) 4 c0))]) (rest := [.ref (ad 82)]) ⟨hx, hb, hml, hown, hts⟩ (c_X10_placeOf l G z ad M (i := i) (a := pkA (ub te i (ap i)) 1 a) (b := pkA (ub te i (ap i)) 2 b) (c0 := pkA (ub te i (ap i)) 4 c0) ) (va_cwS 4 hts (gS (lwg_of t_1335 rfl) (lwg_of t_1336 rfl) (lwg_of t_13 rfl) (lwg_of t_1337 rfl)) rfl rfl rfl (by decide +kernel) ⟨Nat.le_of_ble_eq_true rfl, Nat.le_of_ble_eq_true rfl⟩) hI.preS rfl rfl hl.1 rfl (lv_room (Nat.le_of_ble_eq_true rfl)) dX10_isAnswer_70 ⟨Nat.le_of_ble_eq_true rfl, Nat.le_of_ble_eq_true rfl⟩) (fun _ h => h) (fun r_25 hp_26 => ?_)
                rw [hp_26]
                refine h_zald (i := ((i * 40 + (pkA (ub te i (ap i)) 1 a)) * 40 + (pkA (ub te i (ap i)) 2 b)) * 40 + (pkA (ub te i (ap i)) 4 c0)) hx hb hI h82 (by omega) (by decide) dX10_isAnswer_73 ?_
                refine n_eq (show _ = bI (anI tr te ap i a b c0) from rfl) ?_
                refine lv_aload_n hx hb dX10_isAnswer_74 rfl (lv_at hl 1 rfl) ?_
                refine h_get (C := RX10) (T := TX10) (N := 38) hx hb hts i_RX10 hown hI h60 rfl 18 (by decide) f_60 rfl rfl dX10_isAnswer_75 ?_
                refine lv_iload hx hb dX10_isAnswer_78 (lv_at hl 6 rfl) ?_
                refine h_zald (i := i) hx hb hI h76 (by omega) (by decide) dX10_isAnswer_80 ?_
                refine lv_icmp_eq (tgt := 88) hx hb dX10_isAnswer_81 (by decide) (fun c_27 => ?_) (fun c_27 => ?_)
                · -- 81: bI (anI tr te ap i a b c0) eq
                  have c_27 : anI tr te ap i a b c0 = nt i := bI_inj c_27
                  refine lv_iconst (v := nI 0) hx hb dX10_isAnswer_88 (by decide) ?_
                  refine n_eq (show _ = bI false from rfl) ?_
                  refine lv_istore (lv' := [(4, .int (bI false)), (6, .int (nI (ub te i (ap i)))), (0, .ref (ad 60)), (1, .int (nI a)), (2, .int (nI b)), (3, .int (nI c0)), (5, .int (nI i))]) hx hb dX10_isAnswer_89 hl (by decide) rfl (fun ls hl => ?_)
                  refine lv_iinc (v := nI (i + 1)) (lv' := [(5, .int (nI (i + 1))), (4, .int (bI false)), (6, .int (nI (ub te i (ap i)))), (0, .ref (ad 60)), (1, .int (nI a)), (2, .int (nI b)), (3, .int (nI c0))]) hx hb dX10_isAnswer_91 hl (k := 6) rfl (nI_add i 1) (by decide) rfl (fun ls hl => ?_)
                  refine lv_goto (tgt := 6) hx hb dX10_isAnswer_94 (by decide) ?_
                  exact ih_2 (i + 1) false ls (by omega) (by omega) (by rw [okM, decide_eq_false (Decidable.not_not.mpr (by assumption)), Bool.and_false]) (lv_sub hl [3, 4, 5, 6, 1, 0] rfl)
                · -- 81: bI (anI tr te ap i a b c0) ne
                  have c_27 : anI tr te ap i a b c0 ≠ nt i := (fun h => c_27 (congrArg bI h))
                  refine lv_iconst (v := nI 1) hx hb dX10_isAnswer_84 (by decide) ?_
                  refine n_eq (show _ = bI true from rfl) ?_
                  refine lv_goto (tgt := 89) hx hb dX10_isAnswer_85 (by decide) ?_
                  refine lv_istore (lv' := [(4, .int (bI true)), (6, .int (nI (ub te i (ap i)))), (0, .ref (ad 60)), (1, .int (nI a)), (2, .int (nI b)), (3, .int (nI c0)), (5, .int (nI i))]) hx hb dX10_isAnswer_89 hl (by decide) rfl (fun ls hl => ?_)
                  refine lv_iinc (v := nI (i + 1)) (lv' := [(5, .int (nI (i + 1))), (4, .int (bI true)), (6, .int (nI (ub te i (ap i)))), (0, .ref (ad 60)), (1, .int (nI a)), (2, .int (nI b)), (3, .int (nI c0))]) hx hb dX10_isAnswer_91 hl (k := 6) rfl (nI_add i 1) (by decide) rfl (fun ls hl => ?_)
                  refine lv_goto (tgt := 6) hx hb dX10_isAnswer_94 (by decide) ?_
                  exact ih_2 (i + 1) true ls (by omega) (by omega) (by rw [okM, ← hbb, show bb = true by assumption, decide_eq_true (by assumption)]; rfl) (lv_sub hl [3, 4, 5, 6, 1, 0] rfl)
              · -- 62: nI (ub te i (ap i) &&& 4) eq
                have c_24 : ub te i (ap i) &&& 4 = 0 := (nI_eq (a := ub te i (ap i) &&& 4) (b := 0) (by omega) (by omega)).mp (c_24)
                refine lv_iconst (v := nI 0) hx hb dX10_isAnswer_65 (by decide) ?_
                refine lv_goto (tgt := 70) hx hb dX10_isAnswer_66 (by decide) ?_
                refine n_eq (show _ = nI (pkA (ub te i (ap i)) 4 c0) from by rw [pkA, if_pos (by assumption)]) ?_
                refine k_Ri (va_runS (As := [.int (nI i), .int (nI (pkA (ub te i (ap i)) 1 a)), .int (nI (pkA (ub te i (ap i)) 2 b)), .int (nI (pkA (ub te i (ap i)) 4 c0))]) (rest := [.ref (ad 82)]) ⟨hx, hb, hml, hown, hts⟩ (c_X10_placeOf l G z ad M (i := i) (a := pkA (ub te i (ap i)) 1 a) (b := pkA (ub te i (ap i)) 2 b) (c0 := pkA (ub te i (ap i)) 4 c0) ) (va_cwS 4 hts (gS (lwg_of t_1335 rfl) (lwg_of t_1336 rfl) (lwg_of t_13 rfl) (lwg_of t_1337 rfl)) rfl rfl rfl (by decide +kernel) ⟨Nat.le_of_ble_eq_true rfl, Nat.le_of_ble_eq_true rfl⟩) hI.preS rfl rfl hl.1 rfl (lv_room (Nat.le_of_ble_eq_true rfl)) dX10_isAnswer_70 ⟨Nat.le_of_ble_eq_true rfl, Nat.le_of_ble_eq_true rfl⟩) (fun _ h => h) (fun r_28 hp_29 => ?_)
                rw [hp_29]
                refine h_zald (i := ((i * 40 + (pkA (ub te i (ap i)) 1 a)) * 40 + (pkA (ub te i (ap i)) 2 b)) * 40 + (pkA (ub te i (ap i)) 4 c0)) hx hb hI h82 (by omega) (by decide) dX10_isAnswer_73 ?_
                refine n_eq (show _ = bI (anI tr te ap i a b c0) from rfl) ?_
                refine lv_aload_n hx hb dX10_isAnswer_74 rfl (lv_at hl 1 rfl) ?_
                refine h_get (C := RX10) (T := TX10) (N := 38) hx hb hts i_RX10 hown hI h60 rfl 18 (by decide) f_60 rfl rfl dX10_isAnswer_75 ?_
                refine lv_iload hx hb dX10_isAnswer_78 (lv_at hl 6 rfl) ?_
                refine h_zald (i := i) hx hb hI h76 (by omega) (by decide) dX10_isAnswer_80 ?_
                refine lv_icmp_eq (tgt := 88) hx hb dX10_isAnswer_81 (by decide) (fun c_30 => ?_) (fun c_30 => ?_)
                · -- 81: bI (anI tr te ap i a b c0) eq
                  have c_30 : anI tr te ap i a b c0 = nt i := bI_inj c_30
                  refine lv_iconst (v := nI 0) hx hb dX10_isAnswer_88 (by decide) ?_
                  refine n_eq (show _ = bI false from rfl) ?_
                  refine lv_istore (lv' := [(4, .int (bI false)), (6, .int (nI (ub te i (ap i)))), (0, .ref (ad 60)), (1, .int (nI a)), (2, .int (nI b)), (3, .int (nI c0)), (5, .int (nI i))]) hx hb dX10_isAnswer_89 hl (by decide) rfl (fun ls hl => ?_)
                  refine lv_iinc (v := nI (i + 1)) (lv' := [(5, .int (nI (i + 1))), (4, .int (bI false)), (6, .int (nI (ub te i (ap i)))), (0, .ref (ad 60)), (1, .int (nI a)), (2, .int (nI b)), (3, .int (nI c0))]) hx hb dX10_isAnswer_91 hl (k := 6) rfl (nI_add i 1) (by decide) rfl (fun ls hl => ?_)
                  refine lv_goto (tgt := 6) hx hb dX10_isAnswer_94 (by decide) ?_
                  exact ih_2 (i + 1) false ls (by omega) (by omega) (by rw [okM, decide_eq_false (Decidable.not_not.mpr (by assumption)), Bool.and_false]) (lv_sub hl [3, 4, 5, 6, 1, 0] rfl)
                · -- 81: bI (anI tr te ap i a b c0) ne
                  have c_30 : anI tr te ap i a b c0 ≠ nt i := (fun h => c_30 (congrArg bI h))
                  refine lv_iconst (v := nI 1) hx hb dX10_isAnswer_84 (by decide) ?_
                  refine n_eq (show _ = bI true from rfl) ?_
                  refine lv_goto (tgt := 89) hx hb dX10_isAnswer_85 (by decide) ?_
                  refine lv_istore (lv' := [(4, .int (bI true)), (6, .int (nI (ub te i (ap i)))), (0, .ref (ad 60)), (1, .int (nI a)), (2, .int (nI b)), (3, .int (nI c0)), (5, .int (nI i))]) hx hb dX10_isAnswer_89 hl (by decide) rfl (fun ls hl => ?_)
                  refine lv_iinc (v := nI (i + 1)) (lv' := [(5, .int (nI (i + 1))), (4, .int (bI true)), (6, .int (nI (ub te i (ap i)))), (0, .ref (ad 60)), (1, .int (nI a)), (2, .int (nI b)), (3, .int (nI c0))]) hx hb dX10_isAnswer_91 hl (k := 6) rfl (nI_add i 1) (by decide) rfl (fun ls hl => ?_)
                  refine lv_goto (tgt := 6) hx hb dX10_isAnswer_94 (by decide) ?_
                  exact ih_2 (i + 1) true ls (by omega) (by omega) (by rw [okM, ← hbb, show bb = true by assumption, decide_eq_true (by assumption)]; rfl) (lv_sub hl [3, 4, 5, 6, 1, 0] rfl)
            · -- 50: nI (ub te i (ap i) &&& 2) eq
              have c_23 : ub te i (ap i) &&& 2 = 0 := (nI_eq (a := ub te i (ap i) &&& 2) (b := 0) (by omega) (by omega)).mp (c_23)
              refine lv_iconst (v := nI 0) hx hb dX10_isAnswer_53 (by decide) ?_
              refine lv_goto (tgt := 58) hx hb dX10_isAnswer_54 (by decide) ?_
              refine n_eq (show _ = nI (pkA (ub te i (ap i)) 2 b) from by rw [pkA, if_pos (by assumption)]) ?_
              refine lv_iload hx hb dX10_isAnswer_58 (lv_at hl 0 rfl) ?_
              refine lv_iconst (v := nI 4) hx hb dX10_isAnswer_60 (by decide) ?_
              refine lv_iand hx hb dX10_isAnswer_61 ?_
              refine n_eq (show _ = nI (ub te i (ap i) &&& 4) from nI_and _ _) ?_
              refine lv_if_ne (tgt := 69) hx hb dX10_isAnswer_62 (by decide) (fun c_31 => ?_) (fun c_31 => ?_)
              · -- 62: nI (ub te i (ap i) &&& 4) ne
                have c_31 : ub te i (ap i) &&& 4 ≠ 0 := by have h := mt (nI_eq (a := ub te i (ap i) &&& 4) (b := 0) (by omega) (by omega)).mpr c_31; omega
                refine lv_iload_n hx hb dX10_isAnswer_69 rfl (lv_at hl 4 rfl) ?_
                refine n_eq (show _ = nI (pkA (ub te i (ap i)) 4 c0) from by rw [pkA, if_neg (by assumption)]) ?_
                refine k_Ri (va_runS (As := [.int (nI i), .int (nI (pkA (ub te i (ap i)) 1 a)), .int (nI (pkA (ub te i (ap i)) 2 b)), .int (nI (pkA (ub te i (ap i)) 4 c0))]) (rest := [.ref (ad 82)]) ⟨hx, hb, hml, hown, hts⟩ (c_X10_placeOf l G z ad M (i := i) (a := pkA (ub te i (ap i)) 1 a) (b := pkA (ub te i (ap i)) 2 b) (c0 := pkA (ub te i (ap i)) 4 c0) ) (va_cwS 4 hts (gS (lwg_of t_1335 rfl) (lwg_of t_1336 rfl) (lwg_of t_13 rfl) (lwg_of t_1337 rfl)) rfl rfl rfl (by decide +kernel) ⟨Nat.le_of_ble_eq_true rfl, Nat.le_of_ble_eq_true rfl⟩) hI.preS rfl rfl hl.1 rfl (lv_room (Nat.le_of_ble_eq_true rfl)) dX10_isAnswer_70 ⟨Nat.le_of_ble_eq_true rfl, Nat.le_of_ble_eq_true rfl⟩) (fun _ h => h) (fun r_32 hp_33 => ?_)
                rw [hp_33]
                refine h_zald (i := ((i * 40 + (pkA (ub te i (ap i)) 1 a)) * 40 + (pkA (ub te i (ap i)) 2 b)) * 40 + (pkA (ub te i (ap i)) 4 c0)) hx hb hI h82 (by omega) (by decide) dX10_isAnswer_73 ?_
                refine n_eq (show _ = bI (anI tr te ap i a b c0) from rfl) ?_
                refine lv_aload_n hx hb dX10_isAnswer_74 rfl (lv_at hl 1 rfl) ?_
                refine h_get (C := RX10) (T := TX10) (N := 38) hx hb hts i_RX10 hown hI h60 rfl 18 (by decide) f_60 rfl rfl dX10_isAnswer_75 ?_
                refine lv_iload hx hb dX10_isAnswer_78 (lv_at hl 6 rfl) ?_
                refine h_zald (i := i) hx hb hI h76 (by omega) (by decide) dX10_isAnswer_80 ?_
                refine lv_icmp_eq (tgt := 88) hx hb dX10_isAnswer_81 (by decide) (fun c_34 => ?_) (fun c_34 => ?_)
                · -- 81: bI (anI tr te ap i a b c0) eq
                  have c_34 : anI tr te ap i a b c0 = nt i := bI_inj c_34
                  refine lv_iconst (v := nI 0) hx hb dX10_isAnswer_88 (by decide) ?_
                  refine n_eq (show _ = bI false from rfl) ?_
                  refine lv_istore (lv' := [(4, .int (bI false)), (6, .int (nI (ub te i (ap i)))), (0, .ref (ad 60)), (1, .int (nI a)), (2, .int (nI b)), (3, .int (nI c0)), (5, .int (nI i))]) hx hb dX10_isAnswer_89 hl (by decide) rfl (fun ls hl => ?_)
                  refine lv_iinc (v := nI (i + 1)) (lv' := [(5, .int (nI (i + 1))), (4, .int (bI false)), (6, .int (nI (ub te i (ap i)))), (0, .ref (ad 60)), (1, .int (nI a)), (2, .int (nI b)), (3, .int (nI c0))]) hx hb dX10_isAnswer_91 hl (k := 6) rfl (nI_add i 1) (by decide) rfl (fun ls hl => ?_)
                  refine lv_goto (tgt := 6) hx hb dX10_isAnswer_94 (by decide) ?_
                  exact ih_2 (i + 1) false ls (by omega) (by omega) (by rw [okM, decide_eq_false (Decidable.not_not.mpr (by assumption)), Bool.and_false]) (lv_sub hl [3, 4, 5, 6, 1, 0] rfl)
                · -- 81: bI (anI tr te ap i a b c0) ne
                  have c_34 : anI tr te ap i a b c0 ≠ nt i := (fun h => c_34 (congrArg bI h))
                  refine lv_iconst (v := nI 1) hx hb dX10_isAnswer_84 (by decide) ?_
                  refine n_eq (show _ = bI true from rfl) ?_
                  refine lv_goto (tgt := 89) hx hb dX10_isAnswer_85 (by decide) ?_
                  refine lv_istore (lv' := [(4, .int (bI true)), (6, .int (nI (ub te i (ap i)))), (0, .ref (ad 60)), (1, .int (nI a)), (2, .int (nI b)), (3, .int (nI c0)), (5, .int (nI i))]) hx hb dX10_isAnswer_89 hl (by decide) rfl (fun ls hl => ?_)
                  refine lv_iinc (v := nI (i + 1)) (lv' := [(5, .int (nI (i + 1))), (4, .int (bI true)), (6, .int (nI (ub te i (ap i)))), (0, .ref (ad 60)), (1, .int (nI a)), (2, .int (nI b)), (3, .int (nI c0))]) hx hb dX10_isAnswer_91 hl (k := 6) rfl (nI_add i 1) (by decide) rfl (fun ls hl => ?_)
                  refine lv_goto (tgt := 6) hx hb dX10_isAnswer_94 (by decide) ?_
                  exact ih_2 (i + 1) true ls (by omega) (by omega) (by rw [okM, ← hbb, show bb = true by assumption, decide_eq_true (by assumption)]; rfl) (lv_sub hl [3, 4, 5, 6, 1, 0] rfl)
              · -- 62: nI (ub te i (ap i) &&& 4) eq
                have c_31 : ub te i (ap i) &&& 4 = 0 := (nI_eq (a := ub te i (ap i) &&& 4) (b := 0) (by omega) (by omega)).mp (c_31)
                refine lv_iconst (v := nI 0) hx hb dX10_isAnswer_65 (by decide) ?_
                refine lv_goto (tgt := 70) hx hb dX10_isAnswer_66 (by decide) ?_
                refine n_eq (show _ = nI (pkA (ub te i (ap i)) 4 c0) from by rw [pkA, if_pos (by assumption)]) ?_
                refine k_Ri (va_runS (As := [.int (nI i), .int (nI (pkA (ub te i (ap i)) 1 a)), .int (nI (pkA (ub te i (ap i)) 2 b)), .int (nI (pkA (ub te i (ap i)) 4 c0))]) (rest := [.ref (ad 82)]) ⟨hx, hb, hml, hown, hts⟩ (c_X10_placeOf l G z ad M (i := i) (a := pkA (ub te i (ap i)) 1 a) (b := pkA (ub te i (ap i)) 2 b) (c0 := pkA (ub te i (ap i)) 4 c0) ) (va_cwS 4 hts (gS (lwg_of t_1335 rfl) (lwg_of t_1336 rfl) (lwg_of t_13 rfl) (lwg_of t_1337 rfl)) rfl rfl rfl (by decide +kernel) ⟨Nat.le_of_ble_eq_true rfl, Nat.le_of_ble_eq_true rfl⟩) hI.preS rfl rfl hl.1 rfl (lv_room (Nat.le_of_ble_eq_true rfl)) dX10_isAnswer_70 ⟨Nat.le_of_ble_eq_true rfl, Nat.le_of_ble_eq_true rfl⟩) (fun _ h => h) (fun r_35 hp_36 => ?_)
                rw [hp_36]
                refine h_zald (i := ((i * 40 + (pkA (ub te i (ap i)) 1 a)) * 40 + (pkA (ub te i (ap i)) 2 b)) * 40 + (pkA (ub te i (ap i)) 4 c0)) hx hb hI h82 (by omega) (by decide) dX10_isAnswer_73 ?_
                refine n_eq (show _ = bI (anI tr te ap i a b c0) from rfl) ?_
                refine lv_aload_n hx hb dX10_isAnswer_74 rfl (lv_at hl 1 rfl) ?_
                refine h_get (C := RX10) (T := TX10) (N := 38) hx hb hts i_RX10 hown hI h60 rfl 18 (by decide) f_60 rfl rfl dX10_isAnswer_75 ?_
                refine lv_iload hx hb dX10_isAnswer_78 (lv_at hl 6 rfl) ?_
                refine h_zald (i := i) hx hb hI h76 (by omega) (by decide) dX10_isAnswer_80 ?_
                refine lv_icmp_eq (tgt := 88) hx hb dX10_isAnswer_81 (by decide) (fun c_37 => ?_) (fun c_37 => ?_)
                · -- 81: bI (anI tr te ap i a b c0) eq
                  have c_37 : anI tr te ap i a b c0 = nt i := bI_inj c_37
                  refine lv_iconst (v := nI 0) hx hb dX10_isAnswer_88 (by decide) ?_
                  refine n_eq (show _ = bI false from rfl) ?_
                  refine lv_istore (lv' := [(4, .int (bI false)), (6, .int (nI (ub te i (ap i)))), (0, .ref (ad 60)), (1, .int (nI a)), (2, .int (nI b)), (3, .int (nI c0)), (5, .int (nI i))]) hx hb dX10_isAnswer_89 hl (by decide) rfl (fun ls hl => ?_)
                  refine lv_iinc (v := nI (i + 1)) (lv' := [(5, .int (nI (i + 1))), (4, .int (bI false)), (6, .int (nI (ub te i (ap i)))), (0, .ref (ad 60)), (1, .int (nI a)), (2, .int (nI b)), (3, .int (nI c0))]) hx hb dX10_isAnswer_91 hl (k := 6) rfl (nI_add i 1) (by decide) rfl (fun ls hl => ?_)
                  refine lv_goto (tgt := 6) hx hb dX10_isAnswer_94 (by decide) ?_
                  exact ih_2 (i + 1) false ls (by omega) (by omega) (by rw [okM, decide_eq_false (Decidable.not_not.mpr (by assumption)), Bool.and_false]) (lv_sub hl [3, 4, 5, 6, 1, 0] rfl)
                · -- 81: bI (anI tr te ap i a b c0) ne
                  have c_37 : anI tr te ap i a b c0 ≠ nt i := (fun h => c_37 (congrArg bI h))
                  refine lv_iconst (v := nI 1) hx hb dX10_isAnswer_84 (by decide) ?_
                  refine n_eq (show _ = bI true from rfl) ?_
                  refine lv_goto (tgt := 89) hx hb dX10_isAnswer_85 (by decide) ?_
                  refine lv_istore (lv' := [(4, .int (bI true)), (6, .int (nI (ub te i (ap i)))), (0, .ref (ad 60)), (1, .int (nI a)), (2, .int (nI b)), (3, .int (nI c0)), (5, .int (nI i))]) hx hb dX10_isAnswer_89 hl (by decide) rfl (fun ls hl => ?_)
                  refine lv_iinc (v := nI (i + 1)) (lv' := [(5, .int (nI (i + 1))), (4, .int (bI true)), (6, .int (nI (ub te i (ap i)))), (0, .ref (ad 60)), (1, .int (nI a)), (2, .int (nI b)), (3, .int (nI c0))]) hx hb dX10_isAnswer_91 hl (k := 6) rfl (nI_add i 1) (by decide) rfl (fun ls hl => ?_)
                  refine lv_goto (tgt := 6) hx hb dX10_isAnswer_94 (by decide) ?_
                  exact ih_2 (i + 1) true ls (by omega) (by omega) (by rw [okM, ← hbb, show bb = true by assumption, decide_eq_true (by assumption)]; rfl) (lv_sub hl [3, 4, 5, 6, 1, 0] rfl)
  exact lp6_1 ((ao - 0) + 1) 0 true ls (Nat.lt_succ_self _) (by omega) (rfl) (lv_sub hl [2, 3, 4, 5, 1, 0] rfl)
