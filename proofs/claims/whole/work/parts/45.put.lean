/-- the draft's ends behind the lines: the first k copied to line n -/
def cpF (rr : Nat → Nat) (n k j : Nat) : Nat := if 6 * n ≤ j ∧ j < 6 * n + k then rr (720 + (j - 6 * n)) else rr j
theorem cpF_0 (rr : Nat → Nat) (n j : Nat) : rr j = cpF rr n 0 j := by rw [cpF, if_neg (by omega)]
theorem cpF_hi {rr g : Nat → Nat} {n k : Nat} (h : ∀ j, g j = cpF rr n k j) (hn : n < 120) (hk : k < 6) : g (720 + k) = rr (720 + k) := by rw [h, cpF, if_neg (by omega)]
theorem cpF_s {rr g : Nat → Nat} {n k : Nat} (h : ∀ j, g j = cpF rr n k j) : ∀ j, va_up g (6 * n + k) (rr (720 + k)) j = cpF rr n (k + 1) j := fun j => by
  by_cases e : j = 6 * n + k
  · subst e; rw [va_up_self, cpF, if_pos (by omega), show 6 * n + k - 6 * n = k by omega]
  · rw [va_up_ne _ _ e, h j, cpF, cpF]
    by_cases h2 : 6 * n ≤ j ∧ j < 6 * n + k
    · rw [if_pos h2, if_pos (by omega)]
    · rw [if_neg h2, if_neg (by omega)]

/-- X10_put -/
abbrev rm_c_X10_put_no : Room := { frames := 4, cells := 0, slots := 0, locals := 97 }
set_option maxHeartbeats 4000000 in
set_option maxRecDepth 100000 in
theorem c_X10_put_no (l : Launch) (G : GG) (z : Nat) (ad : Nat → Nat) (M : Mem) {th : Nat} {on : Nat} {ao : Nat} {vr : Nat} {sn : Nat} {tp : Nat} {pt : Nat} {zs : Nat} {bg : Nat} {fa : Int32} {n : Nat} {kd : Nat → Nat} {fm : Nat → Int32} {to : Nat → Int32} {sz : Nat → Nat} {rl : Nat → Nat → Nat} {en : Nat → Nat → Nat} {mk : Nat → Nat} {mf : Nat → Int32} {mu : Nat → Int32} {mz : Nat → Nat} {rr : Nat → Nat} {ee : Nat → Nat} {le : Nat → Nat} {mo : Nat → Nat} {al : Nat → Nat} {lst : Nat → Nat} {s0 : Nat} {r0 : Nat → Nat} {e0 : Nat → Nat} {y : Nat} {f : Nat} {g : Nat} {w : Nat} (h60 : M 60 = some (cModel ad th n on ao vr sn tp pt zs bg fa)) (h61 : M 61 = some (aI G 36 (nF le))) (h62 : M 62 = some (aI G 36 (nF mo))) (h63 : M 63 = some (aI G 36 (nF al))) (h65 : M 65 = some (aI G 120 (nF mk))) (h66 : M 66 = some (aI G 120 mf)) (h67 : M 67 = some (aI G 120 mu)) (h68 : M 68 = some (aI G 121 (nF mz))) (h69 : M 69 = some (aI G 726 (nF rr))) (h70 : M 70 = some (aI G 726 (nF ee))) (h71 : M 71 = some (aI G 40 (nF lst))) (hw : LSw n kd sz rl en) (hmr : MRel n kd fm to sz rl en mk mf mu mz rr ee) (hs0 : s0 ≤ 6) (hr0 : ∀ j, j < s0 → r0 j < 6) (he0 : ∀ j, j < s0 → e0 j < 40 + n) (hmz0 : mz 120 = s0) (hs1 : 0 < s0) (hn1 : n < 120) (hdr : ∀ j, j < s0 → rr (720 + j) = r0 j ∧ ee (720 + j) = e0 j) (hlst : ∀ u, u < 40 → lst u < 40) (hy : y < 6) (hfg : f ≤ g ∧ g ≤ 1000) (hle : ∀ j, j < 36 → le j < 100) (hmo : ∀ j, j < 36 → mo j < 100) (hal : ∀ j, j < 36 → al j ≤ 100) (hwhy : w = 1 ∧ ¬ alw le mo r0 s0 y 6 ∨ w = 2 ∧ alw le mo r0 s0 y 6 ∧ ¬ brs fm to e0 (nI f) (nI g) s0 ∨ w = 3 ∧ alw le mo r0 s0 y 6 ∧ brs fm to e0 (nI f) (nI g) s0 ∧ crw n kd fm to sz rl en lst al y (nI f) (nI g) r0 e0 s0) : Met l yX10_put wsX10_put rm_c_X10_put_no (Pr G z ad M [.ref (ad 60), .int (nI y), .int (nI f), .int (nI g)]) (Ni G z ad (fun (r : Int32) (M' : Mem) => r = -(nI w) ∧ M' 60 = some (cModel ad 0 n on ao vr sn tp pt zs bg fa) ∧ M' 68 = some (aI G 121 (nF (va_up mz 120 0))) ∧ (∀ j : Nat, j ≠ 60 → j ≠ 68 → M' j = M j))) 0 0 (fr z) := by
  refine Met.ofW (cc := cX10_put) (maxL := 7) (ret := (some .int)) (by decide) rfl ?_
  intro p e s m args below meth c s₁ B hml hv
  obtain ⟨rfl, hv⟩ := hv
  have hI := Iv.entry hv
  have hx := B.exec
  have hb := B.bytes
  have hr := B.returns
  have hts := atoms_spec (ws := wsX10_put) B.pre
  have hown : s.vm.findClass RX10 = some m.cls := findClass_of_methodNamed B.named
  have hlocks := B.notSynchronized
  have f_3 := hts _ (List.mem_cons_of_mem _ (lwg_of t_1013 rfl))
  have i_RX10 : ∀ w ∈ u_ws RX10 TX10 38, w ∈ wsX10_put := fun w h => List.mem_cons_of_mem _ (iu_X10 w h)
  have f_36 := hts _ (List.mem_cons_of_mem _ (lwg_of t_1021 rfl))
  have f_108 := hts _ (List.mem_cons_of_mem _ (lwg_of t_1024 rfl))
  have hl := lv_entry ([.ref (ad 60), .int (nI y), .int (nI f), .int (nI g)]) (n := 7) (Nat.le_of_ble_eq_true rfl)
  rw [lg_entry_eq]
  generalize (lg_sl ([.ref (ad 60), .int (nI y), .int (nI f), .int (nI g)]) ++ List.replicate (7 - (lg_sl ([.ref (ad 60), .int (nI y), .int (nI f), .int (nI g)])).length) Slot.unset).toArray = ls at hl ⊢
  have hl : lv_has ls 7 [(0, .ref (ad 60)), (1, .int (nI y)), (2, .int (nI f)), (3, .int (nI g))] := hl
  have hw1 := hw.1
  have hw9 : 0 < w ∧ w ≤ 3 := by rcases hwhy with h | h | h <;> omega
  refine lv_aload_n hx hb dX10_put_0 rfl (lv_at hl 0 rfl) ?_
  refine lv_iconst (v := nI 0) hx hb dX10_put_1 (by decide) ?_
  refine h_put (C := RX10) (T := TX10) (N := 38) hx hb hts i_RX10 tyX10 tyX10_ok nmX10 hown hI h60 rfl 0 (by decide) f_3 rfl rfl rfl rfl (Nat.le_of_ble_eq_true rfl) dX10_put_2 (fun M_1 H_2 locs_3 eM_4 hI => ?_)
  have hm_5 : M_1 60 = some (cModel ad 0 n on ao vr sn tp pt zs bg fa) := by rw [eM_4]; exact va_up_self _ _ _
  have hm_6 : M_1 61 = some (aI G 36 (nF le)) := by rw [eM_4, va_up_ne _ _ (by decide)]; exact h61
  have hm_7 : M_1 62 = some (aI G 36 (nF mo)) := by rw [eM_4, va_up_ne _ _ (by decide)]; exact h62
  have hm_8 : M_1 63 = some (aI G 36 (nF al)) := by rw [eM_4, va_up_ne _ _ (by decide)]; exact h63
  have hm_9 : M_1 65 = some (aI G 120 (nF mk)) := by rw [eM_4, va_up_ne _ _ (by decide)]; exact h65
  have hm_10 : M_1 66 = some (aI G 120 mf) := by rw [eM_4, va_up_ne _ _ (by decide)]; exact h66
  have hm_11 : M_1 67 = some (aI G 120 mu) := by rw [eM_4, va_up_ne _ _ (by decide)]; exact h67
  have hm_12 : M_1 68 = some (aI G 121 (nF mz)) := by rw [eM_4, va_up_ne _ _ (by decide)]; exact h68
  have hm_13 : M_1 69 = some (aI G 726 (nF rr)) := by rw [eM_4, va_up_ne _ _ (by decide)]; exact h69
  have hm_14 : M_1 70 = some (aI G 726 (nF ee)) := by rw [eM_4, va_up_ne _ _ (by decide)]; exact h70
  have hm_15 : M_1 71 = some (aI G 40 (nF lst)) := by rw [eM_4, va_up_ne _ _ (by decide)]; exact h71
  have hF_16 : ∀ j : Nat, j ≠ 60 → M_1 j = M j := fun j q0 => by rw [eM_4, va_up_ne _ _ q0]
  refine lv_aload_n hx hb dX10_put_5 rfl (lv_at hl 0 rfl) ?_
  refine lv_iload_n hx hb dX10_put_6 rfl (lv_at hl 1 rfl) ?_
  refine k_Ri (va_runS (As := [.int (nI y)]) (rest := [.ref (ad 60)]) ⟨hx, hb, hml, hown, hts⟩ (c_X10_noKind_0 l G z ad M_1 (t := y) (by omega)) (va_cwS 1 hts (gS (lwg_of t_1132 rfl) (lwg_of t_1133 rfl) (lwg_of t_13 rfl) (lwg_of t_1134 rfl)) rfl rfl rfl (by decide +kernel) ⟨Nat.le_of_ble_eq_true rfl, Nat.le_of_ble_eq_true rfl⟩) hI.preS rfl rfl hl.1 rfl (lv_room (Nat.le_of_ble_eq_true rfl)) dX10_put_7 ⟨Nat.le_of_ble_eq_true rfl, Nat.le_of_ble_eq_true rfl⟩) (fun _ h => h) (fun r_17 hp_18 => ?_)
  rw [hp_18]
  refine lv_iconst (v := nI 1) hx hb dX10_put_10 (by decide) ?_
  refine k_Ri (va_runV (As := [.int (nI 0), .int (nI 1)]) (rest := []) ⟨hx, hb, hml, hown, hts⟩ (c_X10_throwsIf_0 l G z ad M_1 (th := 0) (ln := n) (on := on) (ao := ao) (vr := vr) (sn := sn) (tp := tp) (pt := pt) (zs := zs) (bg := bg) (fa := fa) (c0 := 1) hm_5) (cwV 2 hts (gV (lwg_of t_1141 rfl) (lwg_of t_1143 rfl) (lwg_of ts_23 rfl) (lwg_of t_13 rfl) (lwg_of t_1144 rfl)) rfl rfl rfl (by decide +kernel) ⟨Nat.le_of_ble_eq_true rfl, Nat.le_of_ble_eq_true rfl⟩) (hI.preV hm_5 rfl) rfl rfl hl.1 rfl (lv_room (Nat.le_of_ble_eq_true rfl)) dX10_put_11 ⟨Nat.le_of_ble_eq_true rfl, Nat.le_of_ble_eq_true rfl⟩) (fun _ h => h) (fun r_19 hp_20 => ?_)
  rw [hp_20]
  refine lv_if_ne (tgt := 78) hx hb dX10_put_14 (by decide) (fun c_21 => ?_) (fun c_21 => ?_)
  · -- 14: nI 0 ne
    exact absurd (by decide) c_21
  · -- 14: nI 0 eq
    refine lv_aload_n hx hb dX10_put_17 rfl (lv_at hl 0 rfl) ?_
    refine lv_iload_n hx hb dX10_put_18 rfl (lv_at hl 2 rfl) ?_
    refine lv_if_lt (tgt := 44) hx hb dX10_put_19 (by decide) (fun c_22 => ?_) (fun c_22 => ?_)
    · -- 19: nI f lt
      have c_22 : f < 0 := (nI_ltI (a := f) (b := 0) (by omega) (by omega)).mp (c_22)
      omega
    · -- 19: nI f ge
      have c_22 : 0 ≤ f := by have h := mt (nI_ltI (a := f) (b := 0) (by omega) (by omega)).mpr c_22; omega
      refine lv_iload_n hx hb dX10_put_22 rfl (lv_at hl 3 rfl) ?_
      refine lv_iload_n hx hb dX10_put_23 rfl (lv_at hl 2 rfl) ?_
      refine lv_icmp_lt (tgt := 44) hx hb dX10_put_24 (by decide) (fun c_23 => ?_) (fun c_23 => ?_)
      · -- 24: nI g lt
        have c_23 : g < f := (nI_ltI (a := g) (b := f) (by omega) (by omega)).mp (c_23)
        omega
      · -- 24: nI g ge
        have c_23 : f ≤ g := by have h := mt (nI_ltI (a := g) (b := f) (by omega) (by omega)).mpr c_23; omega
        refine lv_iload_n hx hb dX10_put_27 rfl (lv_at hl 3 rfl) ?_
        refine lv_sipush (v := nI 1000) hx hb dX10_put_28 (by decide) ?_
        refine lv_icmp_gt (tgt := 44) hx hb dX10_put_31 (by decide) (fun c_24 => ?_) (fun c_24 => ?_)
        · -- 31: nI g gt
          have c_24 : 1000 < g := (nI_ltI (a := 1000) (b := g) (by omega) (by omega)).mp (c_24)
          omega
        · -- 31: nI g le
          have c_24 : g ≤ 1000 := by have h := mt (nI_ltI (a := 1000) (b := g) (by omega) (by omega)).mpr c_24; omega
          refine lv_aload_n hx hb dX10_put_34 rfl (lv_at hl 0 rfl) ?_
          refine h_get (C := RX10) (T := TX10) (N := 38) hx hb hts i_RX10 hown hI hm_5 rfl 8 (by decide) f_36 rfl rfl dX10_put_35 ?_
          refine lv_bipush (v := nI 120) hx hb dX10_put_38 (by decide) ?_
          refine h_iald (i := 120) hx hb hI hm_12 (by omega) (by decide) dX10_put_40 ?_
          refine n_eq (show _ = nI s0 from congrArg nI hmz0) ?_
          refine lv_if_ne (tgt := 48) hx hb dX10_put_41 (by decide) (fun c_25 => ?_) (fun c_25 => ?_)
          · -- 41: nI s0 ne
            have c_25 : s0 ≠ 0 := by have h := mt (nI_eq (a := s0) (b := 0) (by omega) (by omega)).mpr c_25; omega
            refine lv_iconst (v := nI 0) hx hb dX10_put_48 (by decide) ?_
            refine lv_iconst (v := nI 2) hx hb dX10_put_49 (by decide) ?_
            refine k_Ri (va_runV (As := [.int (nI 0), .int (nI 2)]) (rest := []) ⟨hx, hb, hml, hown, hts⟩ (c_X10_throwsIf_0 l G z ad M_1 (th := 0) (ln := n) (on := on) (ao := ao) (vr := vr) (sn := sn) (tp := tp) (pt := pt) (zs := zs) (bg := bg) (fa := fa) (c0 := 2) hm_5) (cwV 2 hts (gV (lwg_of t_1141 rfl) (lwg_of t_1143 rfl) (lwg_of ts_23 rfl) (lwg_of t_13 rfl) (lwg_of t_1144 rfl)) rfl rfl rfl (by decide +kernel) ⟨Nat.le_of_ble_eq_true rfl, Nat.le_of_ble_eq_true rfl⟩) (hI.preV hm_5 rfl) rfl rfl hl.1 rfl (lv_room (Nat.le_of_ble_eq_true rfl)) dX10_put_50 ⟨Nat.le_of_ble_eq_true rfl, Nat.le_of_ble_eq_true rfl⟩) (fun _ h => h) (fun r_26 hp_27 => ?_)
            rw [hp_27]
            refine lv_if_ne (tgt := 78) hx hb dX10_put_53 (by decide) (fun c_28 => ?_) (fun c_28 => ?_)
            · -- 53: nI 0 ne
              exact absurd (by decide) c_28
            · -- 53: nI 0 eq
              refine lv_aload_n hx hb dX10_put_56 rfl (lv_at hl 0 rfl) ?_
              refine lv_aload_n hx hb dX10_put_57 rfl (lv_at hl 0 rfl) ?_
              refine h_get (C := RX10) (T := TX10) (N := 38) hx hb hts i_RX10 hown hI hm_5 rfl 11 (by decide) f_108 rfl rfl dX10_put_58 ?_
              refine lv_bipush (v := nI 120) hx hb dX10_put_61 (by decide) ?_
              refine lv_icmp_ne (tgt := 70) hx hb dX10_put_63 (by decide) (fun c_29 => ?_) (fun c_29 => ?_)
              · -- 63: nI n ne
                have c_29 : n ≠ 120 := by have h := mt (nI_eq (a := n) (b := 120) (by omega) (by omega)).mpr c_29; omega
                refine lv_iconst (v := nI 0) hx hb dX10_put_70 (by decide) ?_
                refine lv_iconst (v := nI 3) hx hb dX10_put_71 (by decide) ?_
                refine k_Ri (va_runV (As := [.int (nI 0), .int (nI 3)]) (rest := []) ⟨hx, hb, hml, hown, hts⟩ (c_X10_throwsIf_0 l G z ad M_1 (th := 0) (ln := n) (on := on) (ao := ao) (vr := vr) (sn := sn) (tp := tp) (pt := pt) (zs := zs) (bg := bg) (fa := fa) (c0 := 3) hm_5) (cwV 2 hts (gV (lwg_of t_1141 rfl) (lwg_of t_1143 rfl) (lwg_of ts_23 rfl) (lwg_of t_13 rfl) (lwg_of t_1144 rfl)) rfl rfl rfl (by decide +kernel) ⟨Nat.le_of_ble_eq_true rfl, Nat.le_of_ble_eq_true rfl⟩) (hI.preV hm_5 rfl) rfl rfl hl.1 rfl (lv_room (Nat.le_of_ble_eq_true rfl)) dX10_put_72 ⟨Nat.le_of_ble_eq_true rfl, Nat.le_of_ble_eq_true rfl⟩) (fun _ h => h) (fun r_30 hp_31 => ?_)
                rw [hp_31]
                refine lv_if_eq (tgt := 80) hx hb dX10_put_75 (by decide) (fun c_32 => ?_) (fun c_32 => ?_)
                · -- 75: nI 0 eq
                  refine lv_aload_n hx hb dX10_put_80 rfl (lv_at hl 0 rfl) ?_
                  refine lv_iload_n hx hb dX10_put_81 rfl (lv_at hl 1 rfl) ?_
                  refine lv_iload_n hx hb dX10_put_82 rfl (lv_at hl 2 rfl) ?_
                  refine lv_iload_n hx hb dX10_put_83 rfl (lv_at hl 3 rfl) ?_
                  refine k_Ri (va_runV (As := [.int (nI y), .int (nI f), .int (nI g)]) (rest := []) ⟨hx, hb, hml, hown, hts⟩ (c_X10_refused l G z ad M_1 (th := 0) (on := on) (ao := ao) (vr := vr) (sn := sn) (tp := tp) (pt := pt) (zs := zs) (bg := bg) (fa := fa) (n := n) (kd := kd) (fm := fm) (to := to) (sz := sz) (rl := rl) (en := en) (mk := mk) (mf := mf) (mu := mu) (mz := mz) (rr := rr) (ee := ee) (le := le) (mo := mo) (al := al) (lst := lst) (s0 := s0) (r0 := r0) (e0 := e0) (y := y) (f := f) (g := g) hm_5 hm_6 hm_7 hm_8 hm_9 hm_10 hm_11 hm_12 hm_13 hm_14 hm_15 hw hmr (by omega) hr0 he0 hmz0 hdr hlst (by omega) (by omega) hle hmo hal) (cwV 3 hts (gV (lwg_of t_1168 rfl) (lwg_of t_1170 rfl) (lwg_of ts_25 rfl) (lwg_of t_13 rfl) (lwg_of t_1171 rfl)) rfl rfl rfl (by decide +kernel) ⟨Nat.le_of_ble_eq_true rfl, Nat.le_of_ble_eq_true rfl⟩) (hI.preV hm_5 rfl) rfl rfl hl.1 rfl (lv_room (Nat.le_of_ble_eq_true rfl)) dX10_put_84 ⟨Nat.le_of_ble_eq_true rfl, Nat.le_of_ble_eq_true rfl⟩) (fun _ h => h) (fun r_33 hp_34 => ?_)
                  have hr9 : r_33 = nI w := by
                    rcases hp_34 with h | h | h | h <;> rcases hwhy with k | k | k <;> first | (rw [k.1]; exact h.1) | exact absurd k.2.1 h.2 | exact absurd h.2.1 k.2 | exact absurd k.2.2.1 h.2.2 | exact absurd h.2.2.1 k.2.2 | exact absurd k.2.2.2 h.2.2.2
                  refine n_eq hr9 ?_
                  refine lv_istore (lv' := [(4, .int (nI w)), (0, .ref (ad 60)), (1, .int (nI y)), (2, .int (nI f)), (3, .int (nI g))]) hx hb dX10_put_87 hl (by decide) rfl (fun ls hl => ?_)
                  refine lv_aload_n hx hb dX10_put_89 rfl (lv_at hl 1 rfl) ?_
                  refine h_get (C := RX10) (T := TX10) (N := 38) hx hb hts i_RX10 hown hI hm_5 rfl 8 (by decide) f_36 rfl rfl dX10_put_90 ?_
                  refine lv_bipush (v := nI 120) hx hb dX10_put_93 (by decide) ?_
                  refine h_iald (i := 120) hx hb hI hm_12 (by omega) (by decide) dX10_put_95 ?_
                  refine n_eq (show _ = nI s0 from congrArg nI hmz0) ?_
                  refine lv_istore (lv' := [(5, .int (nI s0)), (4, .int (nI w)), (0, .ref (ad 60)), (1, .int (nI y)), (2, .int (nI f)), (3, .int (nI g))]) hx hb dX10_put_96 hl (by decide) rfl (fun ls hl => ?_)
                  refine lv_aload_n hx hb dX10_put_98 rfl (lv_at hl 2 rfl) ?_
                  refine h_get (C := RX10) (T := TX10) (N := 38) hx hb hts i_RX10 hown hI hm_5 rfl 8 (by decide) f_36 rfl rfl dX10_put_99 ?_
                  refine lv_bipush (v := nI 120) hx hb dX10_put_102 (by decide) ?_
                  refine lv_iconst (v := nI 0) hx hb dX10_put_104 (by decide) ?_
                  refine h_iast (i := 120) (x := nI 0) hx hb hI hm_12 (by omega) (by decide) dX10_put_105 (fun M_35 H_36 locs_37 eM_38 hI => ?_)
                  rw [upd_nF] at eM_38
                  have hm_39 : M_35 60 = some (cModel ad 0 n on ao vr sn tp pt zs bg fa) := by rw [eM_38, va_up_ne _ _ (by decide)]; exact hm_5
                  have hm_40 : M_35 61 = some (aI G 36 (nF le)) := by rw [eM_38, va_up_ne _ _ (by decide)]; exact hm_6
                  have hm_41 : M_35 62 = some (aI G 36 (nF mo)) := by rw [eM_38, va_up_ne _ _ (by decide)]; exact hm_7
                  have hm_42 : M_35 63 = some (aI G 36 (nF al)) := by rw [eM_38, va_up_ne _ _ (by decide)]; exact hm_8
                  have hm_43 : M_35 65 = some (aI G 120 (nF mk)) := by rw [eM_38, va_up_ne _ _ (by decide)]; exact hm_9
                  have hm_44 : M_35 66 = some (aI G 120 mf) := by rw [eM_38, va_up_ne _ _ (by decide)]; exact hm_10
                  have hm_45 : M_35 67 = some (aI G 120 mu) := by rw [eM_38, va_up_ne _ _ (by decide)]; exact hm_11
                  have hm_46 : M_35 68 = some (aI G 121 (nF (va_up mz 120 0))) := by rw [eM_38]; exact va_up_self _ _ _
                  have hm_47 : M_35 69 = some (aI G 726 (nF rr)) := by rw [eM_38, va_up_ne _ _ (by decide)]; exact hm_13
                  have hm_48 : M_35 70 = some (aI G 726 (nF ee)) := by rw [eM_38, va_up_ne _ _ (by decide)]; exact hm_14
                  have hm_49 : M_35 71 = some (aI G 40 (nF lst)) := by rw [eM_38, va_up_ne _ _ (by decide)]; exact hm_15
                  have hF_50 : ∀ j : Nat, j ≠ 60 → j ≠ 68 → M_35 j = M j := fun j q0 q1 => by rw [eM_38, va_up_ne _ _ q1]; exact hF_16 j q0
                  refine lv_iload hx hb dX10_put_106 (lv_at hl 1 rfl) ?_
                  refine lv_if_le (tgt := 115) hx hb dX10_put_108 (by decide) (fun c_51 => ?_) (fun c_51 => ?_)
                  · -- 108: nI w le
                    have c_51 : w ≤ 0 := (nI_leI (a := w) (b := 0) (by omega) (by omega)).mp (c_51)
                    omega
                  · -- 108: nI w gt
                    have c_51 : 0 < w := by have h := mt (nI_leI (a := w) (b := 0) (by omega) (by omega)).mpr c_51; omega
                    refine lv_iload hx hb dX10_put_111 (lv_at hl 1 rfl) ?_
                    refine lv_ineg hx hb dX10_put_113 ?_
                    exact e_Ni hx hb hr rfl hlocks hI ⟨rfl, hm_39, hm_46, (fun j q0 q1 => hF_50 j q0 q1)⟩ dX10_put_114
                · -- 75: nI 0 ne
                  exact absurd (by decide) c_32
              · -- 63: nI n eq
                have c_29 : n = 120 := (nI_eq (a := n) (b := 120) (by omega) (by omega)).mp (c_29)
                omega
          · -- 41: nI s0 eq
            have c_25 : s0 = 0 := (nI_eq (a := s0) (b := 0) (by omega) (by omega)).mp (c_25)
            omega

/-- X10_put -/
abbrev rm_c_X10_put : Room := { frames := 4, cells := 0, slots := 0, locals := 97 }
set_option maxHeartbeats 4000000 in
set_option maxRecDepth 100000 in
theorem c_X10_put (l : Launch) (G : GG) (z : Nat) (ad : Nat → Nat) (M : Mem) {th : Nat} {on : Nat} {ao : Nat} {vr : Nat} {sn : Nat} {tp : Nat} {pt : Nat} {zs : Nat} {bg : Nat} {fa : Int32} {n : Nat} {kd : Nat → Nat} {fm : Nat → Int32} {to : Nat → Int32} {sz : Nat → Nat} {rl : Nat → Nat → Nat} {en : Nat → Nat → Nat} {mk : Nat → Nat} {mf : Nat → Int32} {mu : Nat → Int32} {mz : Nat → Nat} {rr : Nat → Nat} {ee : Nat → Nat} {le : Nat → Nat} {mo : Nat → Nat} {al : Nat → Nat} {lst : Nat → Nat} {s0 : Nat} {r0 : Nat → Nat} {e0 : Nat → Nat} {y : Nat} {f : Nat} {g : Nat} (h60 : M 60 = some (cModel ad th n on ao vr sn tp pt zs bg fa)) (h61 : M 61 = some (aI G 36 (nF le))) (h62 : M 62 = some (aI G 36 (nF mo))) (h63 : M 63 = some (aI G 36 (nF al))) (h65 : M 65 = some (aI G 120 (nF mk))) (h66 : M 66 = some (aI G 120 mf)) (h67 : M 67 = some (aI G 120 mu)) (h68 : M 68 = some (aI G 121 (nF mz))) (h69 : M 69 = some (aI G 726 (nF rr))) (h70 : M 70 = some (aI G 726 (nF ee))) (h71 : M 71 = some (aI G 40 (nF lst))) (hw : LSw n kd sz rl en) (hmr : MRel n kd fm to sz rl en mk mf mu mz rr ee) (hs0 : s0 ≤ 6) (hr0 : ∀ j, j < s0 → r0 j < 6) (he0 : ∀ j, j < s0 → e0 j < 40 + n) (hmz0 : mz 120 = s0) (hs1 : 0 < s0) (hn1 : n < 120) (hdr : ∀ j, j < s0 → rr (720 + j) = r0 j ∧ ee (720 + j) = e0 j) (hlst : ∀ u, u < 40 → lst u < 40) (hy : y < 6) (hfg : f ≤ g ∧ g ≤ 1000) (hle : ∀ j, j < 36 → le j < 100) (hmo : ∀ j, j < 36 → mo j < 100) (hal : ∀ j, j < 36 → al j ≤ 100) (hok : alw le mo r0 s0 y 6 ∧ brs fm to e0 (nI f) (nI g) s0 ∧ ¬ crw n kd fm to sz rl en lst al y (nI f) (nI g) r0 e0 s0) : Met l yX10_put wsX10_put rm_c_X10_put (Pr G z ad M [.ref (ad 60), .int (nI y), .int (nI f), .int (nI g)]) (Ni G z ad (fun (r : Int32) (M' : Mem) => ∃ r2 : Nat → Nat, ∃ e2 : Nat → Nat, r = nI n ∧ M' 60 = some (cModel ad 0 (n + 1) on ao vr sn tp pt zs bg fa) ∧ M' 65 = some (aI G 120 (nF (va_up mk n y))) ∧ M' 66 = some (aI G 120 (upd mf n (nI f))) ∧ M' 67 = some (aI G 120 (upd mu n (nI g))) ∧ M' 68 = some (aI G 121 (nF (va_up (va_up mz 120 0) n s0))) ∧ M' 69 = some (aI G 726 (nF r2)) ∧ M' 70 = some (aI G 726 (nF e2)) ∧ (∀ j : Nat, j ≠ 60 → j ≠ 65 → j ≠ 66 → j ≠ 67 → j ≠ 68 → j ≠ 69 → j ≠ 70 → M' j = M j) ∧ ((∀ j, r2 j = cpF rr n s0 j) ∧ ∀ j, e2 j = cpF ee n s0 j))) 0 0 (fr z) := by
  refine Met.ofW (cc := cX10_put) (maxL := 7) (ret := (some .int)) (by decide) rfl ?_
  intro p e s m args below meth c s₁ B hml hv
  obtain ⟨rfl, hv⟩ := hv
  have hI := Iv.entry hv
  have hx := B.exec
  have hb := B.bytes
  have hr := B.returns
  have hts := atoms_spec (ws := wsX10_put) B.pre
  have hown : s.vm.findClass RX10 = some m.cls := findClass_of_methodNamed B.named
  have hlocks := B.notSynchronized
  have f_3 := hts _ (List.mem_cons_of_mem _ (lwg_of t_1013 rfl))
  have i_RX10 : ∀ w ∈ u_ws RX10 TX10 38, w ∈ wsX10_put := fun w h => List.mem_cons_of_mem _ (iu_X10 w h)
  have f_36 := hts _ (List.mem_cons_of_mem _ (lwg_of t_1021 rfl))
  have f_108 := hts _ (List.mem_cons_of_mem _ (lwg_of t_1024 rfl))
  have f_27 := hts _ (List.mem_cons_of_mem _ (lwg_of t_1018 rfl))
  have f_30 := hts _ (List.mem_cons_of_mem _ (lwg_of t_1019 rfl))
  have f_33 := hts _ (List.mem_cons_of_mem _ (lwg_of t_1020 rfl))
  have f_39 := hts _ (List.mem_cons_of_mem _ (lwg_of t_1022 rfl))
  have f_42 := hts _ (List.mem_cons_of_mem _ (lwg_of t_1023 rfl))
  have hl := lv_entry ([.ref (ad 60), .int (nI y), .int (nI f), .int (nI g)]) (n := 7) (Nat.le_of_ble_eq_true rfl)
  rw [lg_entry_eq]
  generalize (lg_sl ([.ref (ad 60), .int (nI y), .int (nI f), .int (nI g)]) ++ List.replicate (7 - (lg_sl ([.ref (ad 60), .int (nI y), .int (nI f), .int (nI g)])).length) Slot.unset).toArray = ls at hl ⊢
  have hl : lv_has ls 7 [(0, .ref (ad 60)), (1, .int (nI y)), (2, .int (nI f)), (3, .int (nI g))] := hl
  refine w_q (fun Q hQ => ?_)
  have hw1 := hw.1
  refine lv_aload_n hx hb dX10_put_0 rfl (lv_at hl 0 rfl) ?_
  refine lv_iconst (v := nI 0) hx hb dX10_put_1 (by decide) ?_
  refine h_put (C := RX10) (T := TX10) (N := 38) hx hb hts i_RX10 tyX10 tyX10_ok nmX10 hown hI h60 rfl 0 (by decide) f_3 rfl rfl rfl rfl (Nat.le_of_ble_eq_true rfl) dX10_put_2 (fun M_1 H_2 locs_3 eM_4 hI => ?_)
  have hm_5 : M_1 60 = some (cModel ad 0 n on ao vr sn tp pt zs bg fa) := by rw [eM_4]; exact va_up_self _ _ _
  have hm_6 : M_1 61 = some (aI G 36 (nF le)) := by rw [eM_4, va_up_ne _ _ (by decide)]; exact h61
  have hm_7 : M_1 62 = some (aI G 36 (nF mo)) := by rw [eM_4, va_up_ne _ _ (by decide)]; exact h62
  have hm_8 : M_1 63 = some (aI G 36 (nF al)) := by rw [eM_4, va_up_ne _ _ (by decide)]; exact h63
  have hm_9 : M_1 65 = some (aI G 120 (nF mk)) := by rw [eM_4, va_up_ne _ _ (by decide)]; exact h65
  have hm_10 : M_1 66 = some (aI G 120 mf) := by rw [eM_4, va_up_ne _ _ (by decide)]; exact h66
  have hm_11 : M_1 67 = some (aI G 120 mu) := by rw [eM_4, va_up_ne _ _ (by decide)]; exact h67
  have hm_12 : M_1 68 = some (aI G 121 (nF mz)) := by rw [eM_4, va_up_ne _ _ (by decide)]; exact h68
  have hm_13 : M_1 69 = some (aI G 726 (nF rr)) := by rw [eM_4, va_up_ne _ _ (by decide)]; exact h69
  have hm_14 : M_1 70 = some (aI G 726 (nF ee)) := by rw [eM_4, va_up_ne _ _ (by decide)]; exact h70
  have hm_15 : M_1 71 = some (aI G 40 (nF lst)) := by rw [eM_4, va_up_ne _ _ (by decide)]; exact h71
  have hF_16 : ∀ j : Nat, j ≠ 60 → M_1 j = M j := fun j q0 => by rw [eM_4, va_up_ne _ _ q0]
  refine lv_aload_n hx hb dX10_put_5 rfl (lv_at hl 0 rfl) ?_
  refine lv_iload_n hx hb dX10_put_6 rfl (lv_at hl 1 rfl) ?_
  refine k_Ri (va_runS (As := [.int (nI y)]) (rest := [.ref (ad 60)]) ⟨hx, hb, hml, hown, hts⟩ (c_X10_noKind_0 l G z ad M_1 (t := y) (by omega)) (va_cwS 1 hts (gS (lwg_of t_1132 rfl) (lwg_of t_1133 rfl) (lwg_of t_13 rfl) (lwg_of t_1134 rfl)) rfl rfl rfl (by decide +kernel) ⟨Nat.le_of_ble_eq_true rfl, Nat.le_of_ble_eq_true rfl⟩) hI.preS rfl rfl hl.1 rfl (lv_room (Nat.le_of_ble_eq_true rfl)) dX10_put_7 ⟨Nat.le_of_ble_eq_true rfl, Nat.le_of_ble_eq_true rfl⟩) (fun _ h => h) (fun r_17 hp_18 => ?_)
  rw [hp_18]
  refine lv_iconst (v := nI 1) hx hb dX10_put_10 (by decide) ?_
  refine k_Ri (va_runV (As := [.int (nI 0), .int (nI 1)]) (rest := []) ⟨hx, hb, hml, hown, hts⟩ (c_X10_throwsIf_0 l G z ad M_1 (th := 0) (ln := n) (on := on) (ao := ao) (vr := vr) (sn := sn) (tp := tp) (pt := pt) (zs := zs) (bg := bg) (fa := fa) (c0 := 1) hm_5) (cwV 2 hts (gV (lwg_of t_1141 rfl) (lwg_of t_1143 rfl) (lwg_of ts_23 rfl) (lwg_of t_13 rfl) (lwg_of t_1144 rfl)) rfl rfl rfl (by decide +kernel) ⟨Nat.le_of_ble_eq_true rfl, Nat.le_of_ble_eq_true rfl⟩) (hI.preV hm_5 rfl) rfl rfl hl.1 rfl (lv_room (Nat.le_of_ble_eq_true rfl)) dX10_put_11 ⟨Nat.le_of_ble_eq_true rfl, Nat.le_of_ble_eq_true rfl⟩) (fun _ h => h) (fun r_19 hp_20 => ?_)
  rw [hp_20]
  refine lv_if_ne (tgt := 78) hx hb dX10_put_14 (by decide) (fun c_21 => ?_) (fun c_21 => ?_)
  · -- 14: nI 0 ne
    exact absurd (by decide) c_21
  · -- 14: nI 0 eq
    refine lv_aload_n hx hb dX10_put_17 rfl (lv_at hl 0 rfl) ?_
    refine lv_iload_n hx hb dX10_put_18 rfl (lv_at hl 2 rfl) ?_
    refine lv_if_lt (tgt := 44) hx hb dX10_put_19 (by decide) (fun c_22 => ?_) (fun c_22 => ?_)
    · -- 19: nI f lt
      have c_22 : f < 0 := (nI_ltI (a := f) (b := 0) (by omega) (by omega)).mp (c_22)
      omega
    · -- 19: nI f ge
      have c_22 : 0 ≤ f := by have h := mt (nI_ltI (a := f) (b := 0) (by omega) (by omega)).mpr c_22; omega
      refine lv_iload_n hx hb dX10_put_22 rfl (lv_at hl 3 rfl) ?_
      refine lv_iload_n hx hb dX10_put_23 rfl (lv_at hl 2 rfl) ?_
      refine lv_icmp_lt (tgt := 44) hx hb dX10_put_24 (by decide) (fun c_23 => ?_) (fun c_23 => ?_)
      · -- 24: nI g lt
        have c_23 : g < f := (nI_ltI (a := g) (b := f) (by omega) (by omega)).mp (c_23)
        omega
      · -- 24: nI g ge
        have c_23 : f ≤ g := by have h := mt (nI_ltI (a := g) (b := f) (by omega) (by omega)).mpr c_23; omega
        refine lv_iload_n hx hb dX10_put_27 rfl (lv_at hl 3 rfl) ?_
        refine lv_sipush (v := nI 1000) hx hb dX10_put_28 (by decide) ?_
        refine lv_icmp_gt (tgt := 44) hx hb dX10_put_31 (by decide) (fun c_24 => ?_) (fun c_24 => ?_)
        · -- 31: nI g gt
          have c_24 : 1000 < g := (nI_ltI (a := 1000) (b := g) (by omega) (by omega)).mp (c_24)
          omega
        · -- 31: nI g le
          have c_24 : g ≤ 1000 := by have h := mt (nI_ltI (a := 1000) (b := g) (by omega) (by omega)).mpr c_24; omega
          refine lv_aload_n hx hb dX10_put_34 rfl (lv_at hl 0 rfl) ?_
          refine h_get (C := RX10) (T := TX10) (N := 38) hx hb hts i_RX10 hown hI hm_5 rfl 8 (by decide) f_36 rfl rfl dX10_put_35 ?_
          refine lv_bipush (v := nI 120) hx hb dX10_put_38 (by decide) ?_
          refine h_iald (i := 120) hx hb hI hm_12 (by omega) (by decide) dX10_put_40 ?_
          refine n_eq (show _ = nI s0 from congrArg nI hmz0) ?_
          refine lv_if_ne (tgt := 48) hx hb dX10_put_41 (by decide) (fun c_25 => ?_) (fun c_25 => ?_)
          · -- 41: nI s0 ne
            have c_25 : s0 ≠ 0 := by have h := mt (nI_eq (a := s0) (b := 0) (by omega) (by omega)).mpr c_25; omega
            refine lv_iconst (v := nI 0) hx hb dX10_put_48 (by decide) ?_
            refine lv_iconst (v := nI 2) hx hb dX10_put_49 (by decide) ?_
            refine k_Ri (va_runV (As := [.int (nI 0), .int (nI 2)]) (rest := []) ⟨hx, hb, hml, hown, hts⟩ (c_X10_throwsIf_0 l G z ad M_1 (th := 0) (ln := n) (on := on) (ao := ao) (vr := vr) (sn := sn) (tp := tp) (pt := pt) (zs := zs) (bg := bg) (fa := fa) (c0 := 2) hm_5) (cwV 2 hts (gV (lwg_of t_1141 rfl) (lwg_of t_1143 rfl) (lwg_of ts_23 rfl) (lwg_of t_13 rfl) (lwg_of t_1144 rfl)) rfl rfl rfl (by decide +kernel) ⟨Nat.le_of_ble_eq_true rfl, Nat.le_of_ble_eq_true rfl⟩) (hI.preV hm_5 rfl) rfl rfl hl.1 rfl (lv_room (Nat.le_of_ble_eq_true rfl)) dX10_put_50 ⟨Nat.le_of_ble_eq_true rfl, Nat.le_of_ble_eq_true rfl⟩) (fun _ h => h) (fun r_26 hp_27 => ?_)
            rw [hp_27]
            refine lv_if_ne (tgt := 78) hx hb dX10_put_53 (by decide) (fun c_28 => ?_) (fun c_28 => ?_)
            · -- 53: nI 0 ne
              exact absurd (by decide) c_28
            · -- 53: nI 0 eq
              refine lv_aload_n hx hb dX10_put_56 rfl (lv_at hl 0 rfl) ?_
              refine lv_aload_n hx hb dX10_put_57 rfl (lv_at hl 0 rfl) ?_
              refine h_get (C := RX10) (T := TX10) (N := 38) hx hb hts i_RX10 hown hI hm_5 rfl 11 (by decide) f_108 rfl rfl dX10_put_58 ?_
              refine lv_bipush (v := nI 120) hx hb dX10_put_61 (by decide) ?_
              refine lv_icmp_ne (tgt := 70) hx hb dX10_put_63 (by decide) (fun c_29 => ?_) (fun c_29 => ?_)
              · -- 63: nI n ne
                have c_29 : n ≠ 120 := by have h := mt (nI_eq (a := n) (b := 120) (by omega) (by omega)).mpr c_29; omega
                refine lv_iconst (v := nI 0) hx hb dX10_put_70 (by decide) ?_
                refine lv_iconst (v := nI 3) hx hb dX10_put_71 (by decide) ?_
                refine k_Ri (va_runV (As := [.int (nI 0), .int (nI 3)]) (rest := []) ⟨hx, hb, hml, hown, hts⟩ (c_X10_throwsIf_0 l G z ad M_1 (th := 0) (ln := n) (on := on) (ao := ao) (vr := vr) (sn := sn) (tp := tp) (pt := pt) (zs := zs) (bg := bg) (fa := fa) (c0 := 3) hm_5) (cwV 2 hts (gV (lwg_of t_1141 rfl) (lwg_of t_1143 rfl) (lwg_of ts_23 rfl) (lwg_of t_13 rfl) (lwg_of t_1144 rfl)) rfl rfl rfl (by decide +kernel) ⟨Nat.le_of_ble_eq_true rfl, Nat.le_of_ble_eq_true rfl⟩) (hI.preV hm_5 rfl) rfl rfl hl.1 rfl (lv_room (Nat.le_of_ble_eq_true rfl)) dX10_put_72 ⟨Nat.le_of_ble_eq_true rfl, Nat.le_of_ble_eq_true rfl⟩) (fun _ h => h) (fun r_30 hp_31 => ?_)
                rw [hp_31]
                refine lv_if_eq (tgt := 80) hx hb dX10_put_75 (by decide) (fun c_32 => ?_) (fun c_32 => ?_)
                · -- 75: nI 0 eq
                  refine lv_aload_n hx hb dX10_put_80 rfl (lv_at hl 0 rfl) ?_
                  refine lv_iload_n hx hb dX10_put_81 rfl (lv_at hl 1 rfl) ?_
                  refine lv_iload_n hx hb dX10_put_82 rfl (lv_at hl 2 rfl) ?_
                  refine lv_iload_n hx hb dX10_put_83 rfl (lv_at hl 3 rfl) ?_
                  refine k_Ri (va_runV (As := [.int (nI y), .int (nI f), .int (nI g)]) (rest := []) ⟨hx, hb, hml, hown, hts⟩ (c_X10_refused l G z ad M_1 (th := 0) (on := on) (ao := ao) (vr := vr) (sn := sn) (tp := tp) (pt := pt) (zs := zs) (bg := bg) (fa := fa) (n := n) (kd := kd) (fm := fm) (to := to) (sz := sz) (rl := rl) (en := en) (mk := mk) (mf := mf) (mu := mu) (mz := mz) (rr := rr) (ee := ee) (le := le) (mo := mo) (al := al) (lst := lst) (s0 := s0) (r0 := r0) (e0 := e0) (y := y) (f := f) (g := g) hm_5 hm_6 hm_7 hm_8 hm_9 hm_10 hm_11 hm_12 hm_13 hm_14 hm_15 hw hmr (by omega) hr0 he0 hmz0 hdr hlst (by omega) (by omega) hle hmo hal) (cwV 3 hts (gV (lwg_of t_1168 rfl) (lwg_of t_1170 rfl) (lwg_of ts_25 rfl) (lwg_of t_13 rfl) (lwg_of t_1171 rfl)) rfl rfl rfl (by decide +kernel) ⟨Nat.le_of_ble_eq_true rfl, Nat.le_of_ble_eq_true rfl⟩) (hI.preV hm_5 rfl) rfl rfl hl.1 rfl (lv_room (Nat.le_of_ble_eq_true rfl)) dX10_put_84 ⟨Nat.le_of_ble_eq_true rfl, Nat.le_of_ble_eq_true rfl⟩) (fun _ h => h) (fun r_33 hp_34 => ?_)
                  have hr9 : r_33 = nI 0 := by
                    rcases hp_34 with h | h | h | h
                    · exact absurd hok.1 h.2
                    · exact absurd hok.2.1 h.2.2
                    · exact absurd h.2.2.2 hok.2.2
                    · exact h.1
                  refine n_eq hr9 ?_
                  refine lv_istore (lv' := [(4, .int (nI 0)), (0, .ref (ad 60)), (1, .int (nI y)), (2, .int (nI f)), (3, .int (nI g))]) hx hb dX10_put_87 hl (by decide) rfl (fun ls hl => ?_)
                  refine lv_aload_n hx hb dX10_put_89 rfl (lv_at hl 1 rfl) ?_
                  refine h_get (C := RX10) (T := TX10) (N := 38) hx hb hts i_RX10 hown hI hm_5 rfl 8 (by decide) f_36 rfl rfl dX10_put_90 ?_
                  refine lv_bipush (v := nI 120) hx hb dX10_put_93 (by decide) ?_
                  refine h_iald (i := 120) hx hb hI hm_12 (by omega) (by decide) dX10_put_95 ?_
                  refine n_eq (show _ = nI s0 from congrArg nI hmz0) ?_
                  refine lv_istore (lv' := [(5, .int (nI s0)), (4, .int (nI 0)), (0, .ref (ad 60)), (1, .int (nI y)), (2, .int (nI f)), (3, .int (nI g))]) hx hb dX10_put_96 hl (by decide) rfl (fun ls hl => ?_)
                  refine lv_aload_n hx hb dX10_put_98 rfl (lv_at hl 2 rfl) ?_
                  refine h_get (C := RX10) (T := TX10) (N := 38) hx hb hts i_RX10 hown hI hm_5 rfl 8 (by decide) f_36 rfl rfl dX10_put_99 ?_
                  refine lv_bipush (v := nI 120) hx hb dX10_put_102 (by decide) ?_
                  refine lv_iconst (v := nI 0) hx hb dX10_put_104 (by decide) ?_
                  refine h_iast (i := 120) (x := nI 0) hx hb hI hm_12 (by omega) (by decide) dX10_put_105 (fun M_35 H_36 locs_37 eM_38 hI => ?_)
                  rw [upd_nF] at eM_38
                  have hm_39 : M_35 60 = some (cModel ad 0 n on ao vr sn tp pt zs bg fa) := by rw [eM_38, va_up_ne _ _ (by decide)]; exact hm_5
                  have hm_40 : M_35 61 = some (aI G 36 (nF le)) := by rw [eM_38, va_up_ne _ _ (by decide)]; exact hm_6
                  have hm_41 : M_35 62 = some (aI G 36 (nF mo)) := by rw [eM_38, va_up_ne _ _ (by decide)]; exact hm_7
                  have hm_42 : M_35 63 = some (aI G 36 (nF al)) := by rw [eM_38, va_up_ne _ _ (by decide)]; exact hm_8
                  have hm_43 : M_35 65 = some (aI G 120 (nF mk)) := by rw [eM_38, va_up_ne _ _ (by decide)]; exact hm_9
                  have hm_44 : M_35 66 = some (aI G 120 mf) := by rw [eM_38, va_up_ne _ _ (by decide)]; exact hm_10
                  have hm_45 : M_35 67 = some (aI G 120 mu) := by rw [eM_38, va_up_ne _ _ (by decide)]; exact hm_11
                  have hm_46 : M_35 68 = some (aI G 121 (nF (va_up mz 120 0))) := by rw [eM_38]; exact va_up_self _ _ _
                  have hm_47 : M_35 69 = some (aI G 726 (nF rr)) := by rw [eM_38, va_up_ne _ _ (by decide)]; exact hm_13
                  have hm_48 : M_35 70 = some (aI G 726 (nF ee)) := by rw [eM_38, va_up_ne _ _ (by decide)]; exact hm_14
                  have hm_49 : M_35 71 = some (aI G 40 (nF lst)) := by rw [eM_38, va_up_ne _ _ (by decide)]; exact hm_15
                  have hF_50 : ∀ j : Nat, j ≠ 60 → j ≠ 68 → M_35 j = M j := fun j q0 q1 => by rw [eM_38, va_up_ne _ _ q1]; exact hF_16 j q0
                  refine lv_iload hx hb dX10_put_106 (lv_at hl 1 rfl) ?_
                  refine lv_if_le (tgt := 115) hx hb dX10_put_108 (by decide) (fun c_51 => ?_) (fun c_51 => ?_)
                  · -- 108: nI 0 le
                    refine lv_aload_n hx hb dX10_put_115 rfl (lv_at hl 2 rfl) ?_
                    refine h_get (C := RX10) (T := TX10) (N := 38) hx hb hts i_RX10 hown hI hm_39 rfl 5 (by decide) f_27 rfl rfl dX10_put_116 ?_
                    refine lv_aload_n hx hb dX10_put_119 rfl (lv_at hl 2 rfl) ?_
                    refine h_get (C := RX10) (T := TX10) (N := 38) hx hb hts i_RX10 hown hI hm_39 rfl 11 (by decide) f_108 rfl rfl dX10_put_120 ?_
                    refine lv_iload_n hx hb dX10_put_123 rfl (lv_at hl 3 rfl) ?_
                    refine h_iast (i := n) (x := nI y) hx hb hI hm_43 (by omega) (by decide) dX10_put_124 (fun M_52 H_53 locs_54 eM_55 hI => ?_)
                    rw [upd_nF] at eM_55
                    have hm_56 : M_52 60 = some (cModel ad 0 n on ao vr sn tp pt zs bg fa) := by rw [eM_55, va_up_ne _ _ (by decide)]; exact hm_39
                    have hm_57 : M_52 61 = some (aI G 36 (nF le)) := by rw [eM_55, va_up_ne _ _ (by decide)]; exact hm_40
                    have hm_58 : M_52 62 = some (aI G 36 (nF mo)) := by rw [eM_55, va_up_ne _ _ (by decide)]; exact hm_41
                    have hm_59 : M_52 63 = some (aI G 36 (nF al)) := by rw [eM_55, va_up_ne _ _ (by decide)]; exact hm_42
                    have hm_60 : M_52 65 = some (aI G 120 (nF (va_up mk n y))) := by rw [eM_55]; exact va_up_self _ _ _
                    have hm_61 : M_52 66 = some (aI G 120 mf) := by rw [eM_55, va_up_ne _ _ (by decide)]; exact hm_44
                    have hm_62 : M_52 67 = some (aI G 120 mu) := by rw [eM_55, va_up_ne _ _ (by decide)]; exact hm_45
                    have hm_63 : M_52 68 = some (aI G 121 (nF (va_up mz 120 0))) := by rw [eM_55, va_up_ne _ _ (by decide)]; exact hm_46
                    have hm_64 : M_52 69 = some (aI G 726 (nF rr)) := by rw [eM_55, va_up_ne _ _ (by decide)]; exact hm_47
                    have hm_65 : M_52 70 = some (aI G 726 (nF ee)) := by rw [eM_55, va_up_ne _ _ (by decide)]; exact hm_48
                    have hm_66 : M_52 71 = some (aI G 40 (nF lst)) := by rw [eM_55, va_up_ne _ _ (by decide)]; exact hm_49
                    have hF_67 : ∀ j : Nat, j ≠ 60 → j ≠ 68 → j ≠ 65 → M_52 j = M j := fun j q0 q1 q2 => by rw [eM_55, va_up_ne _ _ q2]; exact hF_50 j q0 q1
                    refine lv_aload_n hx hb dX10_put_125 rfl (lv_at hl 2 rfl) ?_
                    refine h_get (C := RX10) (T := TX10) (N := 38) hx hb hts i_RX10 hown hI hm_56 rfl 6 (by decide) f_30 rfl rfl dX10_put_126 ?_
                    refine lv_aload_n hx hb dX10_put_129 rfl (lv_at hl 2 rfl) ?_
                    refine h_get (C := RX10) (T := TX10) (N := 38) hx hb hts i_RX10 hown hI hm_56 rfl 11 (by decide) f_108 rfl rfl dX10_put_130 ?_
                    refine lv_iload_n hx hb dX10_put_133 rfl (lv_at hl 4 rfl) ?_
                    refine h_iast (i := n) (x := nI f) hx hb hI hm_61 (by omega) (by decide) dX10_put_134 (fun M_68 H_69 locs_70 eM_71 hI => ?_)
                    have hm_72 : M_68 60 = some (cModel ad 0 n on ao vr sn tp pt zs bg fa) := by rw [eM_71, va_up_ne _ _ (by decide)]; exact hm_56
                    have hm_73 : M_68 61 = some (aI G 36 (nF le)) := by rw [eM_71, va_up_ne _ _ (by decide)]; exact hm_57
                    have hm_74 : M_68 62 = some (aI G 36 (nF mo)) := by rw [eM_71, va_up_ne _ _ (by decide)]; exact hm_58
                    have hm_75 : M_68 63 = some (aI G 36 (nF al)) := by rw [eM_71, va_up_ne _ _ (by decide)]; exact hm_59
                    have hm_76 : M_68 65 = some (aI G 120 (nF (va_up mk n y))) := by rw [eM_71, va_up_ne _ _ (by decide)]; exact hm_60
                    have hm_77 : M_68 66 = some (aI G 120 (upd mf n (nI f))) := by rw [eM_71]; exact va_up_self _ _ _
                    have hm_78 : M_68 67 = some (aI G 120 mu) := by rw [eM_71, va_up_ne _ _ (by decide)]; exact hm_62
                    have hm_79 : M_68 68 = some (aI G 121 (nF (va_up mz 120 0))) := by rw [eM_71, va_up_ne _ _ (by decide)]; exact hm_63
                    have hm_80 : M_68 69 = some (aI G 726 (nF rr)) := by rw [eM_71, va_up_ne _ _ (by decide)]; exact hm_64
                    have hm_81 : M_68 70 = some (aI G 726 (nF ee)) := by rw [eM_71, va_up_ne _ _ (by decide)]; exact hm_65
                    have hm_82 : M_68 71 = some (aI G 40 (nF lst)) := by rw [eM_71, va_up_ne _ _ (by decide)]; exact hm_66
                    have hF_83 : ∀ j : Nat, j ≠ 60 → j ≠ 68 → j ≠ 65 → j ≠ 66 → M_68 j = M j := fun j q0 q1 q2 q3 => by rw [eM_71, va_up_ne _ _ q3]; exact hF_67 j q0 q1 q2
                    refine lv_aload_n hx hb dX10_put_135 rfl (lv_at hl 2 rfl) ?_
                    refine h_get (C := RX10) (T := TX10) (N := 38) hx hb hts i_RX10 hown hI hm_72 rfl 7 (by decide) f_33 rfl rfl dX10_put_136 ?_
                    refine lv_aload_n hx hb dX10_put_139 rfl (lv_at hl 2 rfl) ?_
                    refine h_get (C := RX10) (T := TX10) (N := 38) hx hb hts i_RX10 hown hI hm_72 rfl 11 (by decide) f_108 rfl rfl dX10_put_140 ?_
                    refine lv_iload_n hx hb dX10_put_143 rfl (lv_at hl 5 rfl) ?_
                    refine h_iast (i := n) (x := nI g) hx hb hI hm_78 (by omega) (by decide) dX10_put_144 (fun M_84 H_85 locs_86 eM_87 hI => ?_)
                    have hm_88 : M_84 60 = some (cModel ad 0 n on ao vr sn tp pt zs bg fa) := by rw [eM_87, va_up_ne _ _ (by decide)]; exact hm_72
                    have hm_89 : M_84 61 = some (aI G 36 (nF le)) := by rw [eM_87, va_up_ne _ _ (by decide)]; exact hm_73
                    have hm_90 : M_84 62 = some (aI G 36 (nF mo)) := by rw [eM_87, va_up_ne _ _ (by decide)]; exact hm_74
                    have hm_91 : M_84 63 = some (aI G 36 (nF al)) := by rw [eM_87, va_up_ne _ _ (by decide)]; exact hm_75
                    have hm_92 : M_84 65 = some (aI G 120 (nF (va_up mk n y))) := by rw [eM_87, va_up_ne _ _ (by decide)]; exact hm_76
                    have hm_93 : M_84 66 = some (aI G 120 (upd mf n (nI f))) := by rw [eM_87, va_up_ne _ _ (by decide)]; exact hm_77
                    have hm_94 : M_84 67 = some (aI G 120 (upd mu n (nI g))) := by rw [eM_87]; exact va_up_self _ _ _
                    have hm_95 : M_84 68 = some (aI G 121 (nF (va_up mz 120 0))) := by rw [eM_87, va_up_ne _ _ (by decide)]; exact hm_79
                    have hm_96 : M_84 69 = some (aI G 726 (nF rr)) := by rw [eM_87, va_up_ne _ _ (by decide)]; exact hm_80
                    have hm_97 : M_84 70 = some (aI G 726 (nF ee)) := by rw [eM_87, va_up_ne _ _ (by decide)]; exact hm_81
                    have hm_98 : M_84 71 = some (aI G 40 (nF lst)) := by rw [eM_87, va_up_ne _ _ (by decide)]; exact hm_82
                    have hF_99 : ∀ j : Nat, j ≠ 60 → j ≠ 68 → j ≠ 65 → j ≠ 66 → j ≠ 67 → M_84 j = M j := fun j q0 q1 q2 q3 q4 => by rw [eM_87, va_up_ne _ _ q4]; exact hF_83 j q0 q1 q2 q3
                    refine lv_aload_n hx hb dX10_put_145 rfl (lv_at hl 2 rfl) ?_
                    refine h_get (C := RX10) (T := TX10) (N := 38) hx hb hts i_RX10 hown hI hm_88 rfl 8 (by decide) f_36 rfl rfl dX10_put_146 ?_
                    refine lv_aload_n hx hb dX10_put_149 rfl (lv_at hl 2 rfl) ?_
                    refine h_get (C := RX10) (T := TX10) (N := 38) hx hb hts i_RX10 hown hI hm_88 rfl 11 (by decide) f_108 rfl rfl dX10_put_150 ?_
                    refine lv_iload hx hb dX10_put_153 (lv_at hl 0 rfl) ?_
                    refine h_iast (i := n) (x := nI s0) hx hb hI hm_95 (by omega) (by decide) dX10_put_155 (fun M_100 H_101 locs_102 eM_103 hI => ?_)
                    rw [upd_nF] at eM_103
                    have hm_104 : M_100 60 = some (cModel ad 0 n on ao vr sn tp pt zs bg fa) := by rw [eM_103, va_up_ne _ _ (by decide)]; exact hm_88
                    have hm_105 : M_100 61 = some (aI G 36 (nF le)) := by rw [eM_103, va_up_ne _ _ (by decide)]; exact hm_89
                    have hm_106 : M_100 62 = some (aI G 36 (nF mo)) := by rw [eM_103, va_up_ne _ _ (by decide)]; exact hm_90
                    have hm_107 : M_100 63 = some (aI G 36 (nF al)) := by rw [eM_103, va_up_ne _ _ (by decide)]; exact hm_91
                    have hm_108 : M_100 65 = some (aI G 120 (nF (va_up mk n y))) := by rw [eM_103, va_up_ne _ _ (by decide)]; exact hm_92
                    have hm_109 : M_100 66 = some (aI G 120 (upd mf n (nI f))) := by rw [eM_103, va_up_ne _ _ (by decide)]; exact hm_93
                    have hm_110 : M_100 67 = some (aI G 120 (upd mu n (nI g))) := by rw [eM_103, va_up_ne _ _ (by decide)]; exact hm_94
                    have hm_111 : M_100 68 = some (aI G 121 (nF (va_up (va_up mz 120 0) n s0))) := by rw [eM_103]; exact va_up_self _ _ _
                    have hm_112 : M_100 69 = some (aI G 726 (nF rr)) := by rw [eM_103, va_up_ne _ _ (by decide)]; exact hm_96
                    have hm_113 : M_100 70 = some (aI G 726 (nF ee)) := by rw [eM_103, va_up_ne _ _ (by decide)]; exact hm_97
                    have hm_114 : M_100 71 = some (aI G 40 (nF lst)) := by rw [eM_103, va_up_ne _ _ (by decide)]; exact hm_98
                    have hF_115 : ∀ j : Nat, j ≠ 60 → j ≠ 68 → j ≠ 65 → j ≠ 66 → j ≠ 67 → M_100 j = M j := fun j q0 q1 q2 q3 q4 => by rw [eM_103, va_up_ne _ _ q1]; exact hF_99 j q0 q1 q2 q3 q4
                    refine lv_iconst (v := nI 0) hx hb dX10_put_156 (by decide) ?_
                    refine lv_istore (lv' := [(6, .int (nI 0)), (5, .int (nI s0)), (4, .int (nI 0)), (0, .ref (ad 60)), (1, .int (nI y)), (2, .int (nI f)), (3, .int (nI g))]) hx hb dX10_put_157 hl (by decide) rfl (fun ls hl => ?_)
                    have lp159_116 : ∀ (fuel : Nat) (k : Nat) (rx2 : Nat → Nat) (ex2 : Nat → Nat) (Mx : Mem) (Hx : Heap) (locsx : List Loc) (ls : Array Slot), (s0 - k) < fuel → (k ≤ s0) → (∀ j, rx2 j = cpF rr n k j) → (∀ j, ex2 j = cpF ee n k j) → Iv G z ad Mx s Hx locsx → Mx 60 = some (cModel ad 0 n on ao vr sn tp pt zs bg fa) → Mx 65 = some (aI G 120 (nF (va_up mk n y))) → Mx 66 = some (aI G 120 (upd mf n (nI f))) → Mx 67 = some (aI G 120 (upd mu n (nI g))) → Mx 68 = some (aI G 121 (nF (va_up (va_up mz 120 0) n s0))) → Mx 69 = some (aI G 726 (nF rx2)) → Mx 70 = some (aI G 726 (nF ex2)) → (∀ j : Nat, j ≠ 60 → j ≠ 65 → j ≠ 66 → j ≠ 67 → j ≠ 68 → j ≠ 69 → j ≠ 70 → Mx j = M j) → lv_has ls 7 [(0, .ref (ad 60)), (1, .int (nI y)), (2, .int (nI f)), (3, .int (nI g)), (5, .int (nI s0)), (6, .int (nI k))] → W p l e (headSpec wsX10_put rm_c_X10_put).room s m ([.ref (ad 60), .int (nI y), .int (nI f), .int (nI g)] : List Value).toArray below meth c Hx locsx 0 0 Q (F0 m 159 ls []) := by
                      intro fuel
                      induction fuel with
                      | zero => intro k rx2 ex2 Mx Hx locsx ls hfu hk hrx hex hI hm_117 hm_118 hm_119 hm_120 hm_121 hm_122 hm_123 hF_125 hl; exact absurd hfu (Nat.not_lt_zero _)
                      | succ fuel ih_126 =>
                        intro k rx2 ex2 Mx Hx locsx ls hfu hk hrx hex hI hm_117 hm_118 hm_119 hm_120 hm_121 hm_122 hm_123 hF_125 hl
                        have hm_127 : Mx 61 = some (aI G 36 (nF le)) := by rw [hF_125 61 (by omega) (by omega) (by omega) (by omega) (by omega) (by omega) (by omega)]; exact h61
                        have hm_128 : Mx 62 = some (aI G 36 (nF mo)) := by rw [hF_125 62 (by omega) (by omega) (by omega) (by omega) (by omega) (by omega) (by omega)]; exact h62
                        have hm_129 : Mx 63 = some (aI G 36 (nF al)) := by rw [hF_125 63 (by omega) (by omega) (by omega) (by omega) (by omega) (by omega) (by omega)]; exact h63
                        have hm_130 : Mx 71 = some (aI G 40 (nF lst)) := by rw [hF_125 71 (by omega) (by omega) (by omega) (by omega) (by omega) (by omega) (by omega)]; exact h71
                        refine lv_iload hx hb dX10_put_159 (lv_at hl 5 rfl) ?_
                        refine lv_iload hx hb dX10_put_161 (lv_at hl 4 rfl) ?_
                        refine lv_icmp_ge (tgt := 224) hx hb dX10_put_163 (by decide) (fun c_131 => ?_) (fun c_131 => ?_)
                        · -- 163: nI k ge
                          have c_131 : s0 ≤ k := (nI_leI (a := s0) (b := k) (by omega) (by omega)).mp (c_131)
                          refine lv_aload_n hx hb dX10_put_224 rfl (lv_at hl 0 rfl) ?_
                          refine lv_dup hx hb dX10_put_225 rfl ?_
                          refine h_get (C := RX10) (T := TX10) (N := 38) hx hb hts i_RX10 hown hI hm_117 rfl 11 (by decide) f_108 rfl rfl dX10_put_226 ?_
                          refine lv_iconst (v := nI 1) hx hb dX10_put_229 (by decide) ?_
                          refine lv_iadd hx hb dX10_put_230 ?_
                          refine n_eq (nI_add n 1) ?_
                          refine h_put (C := RX10) (T := TX10) (N := 38) hx hb hts i_RX10 tyX10 tyX10_ok nmX10 hown hI hm_117 rfl 11 (by decide) f_108 rfl rfl rfl rfl (Nat.le_of_ble_eq_true rfl) dX10_put_231 (fun M_132 H_133 locs_134 eM_135 hI => ?_)
                          have hm_136 : M_132 61 = some (aI G 36 (nF le)) := by rw [eM_135, va_up_ne _ _ (by decide)]; exact hm_127
                          have hm_137 : M_132 62 = some (aI G 36 (nF mo)) := by rw [eM_135, va_up_ne _ _ (by decide)]; exact hm_128
                          have hm_138 : M_132 63 = some (aI G 36 (nF al)) := by rw [eM_135, va_up_ne _ _ (by decide)]; exact hm_129
                          have hm_139 : M_132 71 = some (aI G 40 (nF lst)) := by rw [eM_135, va_up_ne _ _ (by decide)]; exact hm_130
                          have hm_140 : M_132 60 = some (cModel ad 0 (n + 1) on ao vr sn tp pt zs bg fa) := by rw [eM_135]; exact va_up_self _ _ _
                          have hm_141 : M_132 65 = some (aI G 120 (nF (va_up mk n y))) := by rw [eM_135, va_up_ne _ _ (by decide)]; exact hm_118
                          have hm_142 : M_132 66 = some (aI G 120 (upd mf n (nI f))) := by rw [eM_135, va_up_ne _ _ (by decide)]; exact hm_119
                          have hm_143 : M_132 67 = some (aI G 120 (upd mu n (nI g))) := by rw [eM_135, va_up_ne _ _ (by decide)]; exact hm_120
                          have hm_144 : M_132 68 = some (aI G 121 (nF (va_up (va_up mz 120 0) n s0))) := by rw [eM_135, va_up_ne _ _ (by decide)]; exact hm_121
                          have hm_145 : M_132 69 = some (aI G 726 (nF rx2)) := by rw [eM_135, va_up_ne _ _ (by decide)]; exact hm_122
                          have hm_146 : M_132 70 = some (aI G 726 (nF ex2)) := by rw [eM_135, va_up_ne _ _ (by decide)]; exact hm_123
                          have hF_147 : ∀ j : Nat, j ≠ 60 → j ≠ 65 → j ≠ 66 → j ≠ 67 → j ≠ 68 → j ≠ 69 → j ≠ 70 → M_132 j = M j := fun j q0 q1 q2 q3 q4 q5 q6 => by rw [eM_135, va_up_ne _ _ q0]; exact hF_125 j q0 q1 q2 q3 q4 q5 q6
                          refine lv_aload_n hx hb dX10_put_234 rfl (lv_at hl 0 rfl) ?_
                          refine h_get (C := RX10) (T := TX10) (N := 38) hx hb hts i_RX10 hown hI hm_140 rfl 11 (by decide) f_108 rfl rfl dX10_put_235 ?_
                          refine lv_iconst (v := nI 1) hx hb dX10_put_238 (by decide) ?_
                          refine lv_isub hx hb dX10_put_239 ?_
                          refine n_eq (pk_sub (a := (n + 1)) (b := 1) (by omega)) ?_
                          subst hQ
                          exact e_Ni hx hb hr rfl hlocks hI ⟨rx2, ex2, (congrArg nI (Nat.add_sub_cancel (n := n) (m := 1))), hm_140, hm_141, hm_142, hm_143, hm_144, hm_145, hm_146, (fun j q0 q1 q2 q3 q4 q5 q6 => hF_147 j q0 q1 q2 q3 q4 q5 q6), ⟨fun j => by rw [hrx j, show k = s0 by omega], fun j => by rw [hex j, show k = s0 by omega]⟩⟩ dX10_put_240
                        · -- 163: nI k lt
                          have c_131 : k < s0 := by have h := mt (nI_leI (a := s0) (b := k) (by omega) (by omega)).mpr c_131; omega
                          refine lv_aload_n hx hb dX10_put_166 rfl (lv_at hl 0 rfl) ?_
                          refine h_get (C := RX10) (T := TX10) (N := 38) hx hb hts i_RX10 hown hI hm_117 rfl 9 (by decide) f_39 rfl rfl dX10_put_167 ?_
                          refine lv_bipush (v := nI 6) hx hb dX10_put_170 (by decide) ?_
                          refine lv_aload_n hx hb dX10_put_172 rfl (lv_at hl 0 rfl) ?_
                          refine h_get (C := RX10) (T := TX10) (N := 38) hx hb hts i_RX10 hown hI hm_117 rfl 11 (by decide) f_108 rfl rfl dX10_put_173 ?_
                          refine lv_imul hx hb dX10_put_176 ?_
                          refine n_eq (pk_mul 6 n) ?_
                          refine lv_iload hx hb dX10_put_177 (lv_at hl 5 rfl) ?_
                          refine lv_iadd hx hb dX10_put_179 ?_
                          refine n_eq (nI_add (6 * n) k) ?_
                          refine lv_aload_n hx hb dX10_put_180 rfl (lv_at hl 0 rfl) ?_
                          refine h_get (C := RX10) (T := TX10) (N := 38) hx hb hts i_RX10 hown hI hm_117 rfl 9 (by decide) f_39 rfl rfl dX10_put_181 ?_
                          refine lv_sipush (v := nI 720) hx hb dX10_put_184 (by decide) ?_
                          refine lv_iload hx hb dX10_put_187 (lv_at hl 5 rfl) ?_
                          refine lv_iadd hx hb dX10_put_189 ?_
                          refine n_eq (nI_add 720 k) ?_
                          refine h_iald (i := 720 + k) hx hb hI hm_122 (by omega) (by decide) dX10_put_190 ?_
                          refine n_eq (show _ = nI (rr (720 + k)) from congrArg nI (cpF_hi hrx hn1 (by omega))) ?_
                          refine h_iast (i := (6 * n) + k) (x := nI (rr (720 + k))) hx hb hI hm_122 (by omega) (by decide) dX10_put_191 (fun M_148 H_149 locs_150 eM_151 hI => ?_)
                          rw [upd_nF] at eM_151
                          have hm_152 : M_148 61 = some (aI G 36 (nF le)) := by rw [eM_151, va_up_ne _ _ (by decide)]; exact hm_127
                          have hm_153 : M_148 62 = some (aI G 36 (nF mo)) := by rw [eM_151, va_up_ne _ _ (by decide)]; exact hm_128
                          have hm_154 : M_148 63 = some (aI G 36 (nF al)) := by rw [eM_151, va_up_ne _ _ (by decide)]; exact hm_129
                          have hm_155 : M_148 71 = some (aI G 40 (nF lst)) := by rw [eM_151, va_up_ne _ _ (by decide)]; exact hm_130
                          have hm_156 : M_148 60 = some (cModel ad 0 n on ao vr sn tp pt zs bg fa) := by rw [eM_151, va_up_ne _ _ (by decide)]; exact hm_117
                          have hm_157 : M_148 65 = some (aI G 120 (nF (va_up mk n y))) := by rw [eM_151, va_up_ne _ _ (by decide)]; exact hm_118
                          have hm_158 : M_148 66 = some (aI G 120 (upd mf n (nI f))) := by rw [eM_151, va_up_ne _ _ (by decide)]; exact hm_119
                          have hm_159 : M_148 67 = some (aI G 120 (upd mu n (nI g))) := by rw [eM_151, va_up_ne _ _ (by decide)]; exact hm_120
                          have hm_160 : M_148 68 = some (aI G 121 (nF (va_up (va_up mz 120 0) n s0))) := by rw [eM_151, va_up_ne _ _ (by decide)]; exact hm_121
                          have hm_161 : M_148 69 = some (aI G 726 (nF (va_up rx2 ((6 * n) + k) (rr (720 + k))))) := by rw [eM_151]; exact va_up_self _ _ _
                          have hm_162 : M_148 70 = some (aI G 726 (nF ex2)) := by rw [eM_151, va_up_ne _ _ (by decide)]; exact hm_123
                          have hF_163 : ∀ j : Nat, j ≠ 60 → j ≠ 65 → j ≠ 66 → j ≠ 67 → j ≠ 68 → j ≠ 69 → j ≠ 70 → M_148 j = M j := fun j q0 q1 q2 q3 q4 q5 q6 => by rw [eM_151, va_up_ne _ _ q5]; exact hF_125 j q0 q1 q2 q3 q4 q5 q6
                          refine lv_aload_n hx hb dX10_put_192 rfl (lv_at hl 0 rfl) ?_
                          refine h_get (C := RX10) (T := TX10) (N := 38) hx hb hts i_RX10 hown hI hm_156 rfl 10 (by decide) f_42 rfl rfl dX10_put_193 ?_
                          refine lv_bipush (v := nI 6) hx hb dX10_put_196 (by decide) ?_
                          refine lv_aload_n hx hb dX10_put_198 rfl (lv_at hl 0 rfl) ?_
                          refine h_get (C := RX10) (T := TX10) (N := 38) hx hb hts i_RX10 hown hI hm_156 rfl 11 (by decide) f_108 rfl rfl dX10_put_199 ?_
                          refine lv_imul hx hb dX10_put_202 ?_
                          refine n_eq (pk_mul 6 n) ?_
                          refine lv_iload hx hb dX10_put_203 (lv_at hl 5 rfl) ?_
                          refine lv_iadd hx hb dX10_put_205 ?_
                          refine n_eq (nI_add (6 * n) k) ?_
                          refine lv_aload_n hx hb dX10_put_206 rfl (lv_at hl 0 rfl) ?_
                          refine h_get (C := RX10) (T := TX10) (N := 38) hx hb hts i_RX10 hown hI hm_156 rfl 10 (by decide) f_42 rfl rfl dX10_put_207 ?_
                          refine lv_sipush (v := nI 720) hx hb dX10_put_210 (by decide) ?_
                          refine lv_iload hx hb dX10_put_213 (lv_at hl 5 rfl) ?_
                          refine lv_iadd hx hb dX10_put_215 ?_
                          refine n_eq (nI_add 720 k) ?_
                          refine h_iald (i := 720 + k) hx hb hI hm_162 (by omega) (by decide) dX10_put_216 ?_
                          refine n_eq (show _ = nI (ee (720 + k)) from congrArg nI (cpF_hi hex hn1 (by omega))) ?_
                          refine h_iast (i := (6 * n) + k) (x := nI (ee (720 + k))) hx hb hI hm_162 (by omega) (by decide) dX10_put_217 (fun M_164 H_165 locs_166 eM_167 hI => ?_)
                          rw [upd_nF] at eM_167
                          have hm_168 : M_164 61 = some (aI G 36 (nF le)) := by rw [eM_167, va_up_ne _ _ (by decide)]; exact hm_152
                          have hm_169 : M_164 62 = some (aI G 36 (nF mo)) := by rw [eM_167, va_up_ne _ _ (by decide)]; exact hm_153
                          have hm_170 : M_164 63 = some (aI G 36 (nF al)) := by rw [eM_167, va_up_ne _ _ (by decide)]; exact hm_154
                          have hm_171 : M_164 71 = some (aI G 40 (nF lst)) := by rw [eM_167, va_up_ne _ _ (by decide)]; exact hm_155
                          have hm_172 : M_164 60 = some (cModel ad 0 n on ao vr sn tp pt zs bg fa) := by rw [eM_167, va_up_ne _ _ (by decide)]; exact hm_156
                          have hm_173 : M_164 65 = some (aI G 120 (nF (va_up mk n y))) := by rw [eM_167, va_up_ne _ _ (by decide)]; exact hm_157
                          have hm_174 : M_164 66 = some (aI G 120 (upd mf n (nI f))) := by rw [eM_167, va_up_ne _ _ (by decide)]; exact hm_158
                          have hm_175 : M_164 67 = some (aI G 120 (upd mu n (nI g))) := by rw [eM_167, va_up_ne _ _ (by decide)]; exact hm_159
                          have hm_176 : M_164 68 = some (aI G 121 (nF (va_up (va_up mz 120 0) n s0))) := by rw [eM_167, va_up_ne _ _ (by decide)]; exact hm_160
                          have hm_177 : M_164 69 = some (aI G 726 (nF (va_up rx2 ((6 * n) + k) (rr (720 + k))))) := by rw [eM_167, va_up_ne _ _ (by decide)]; exact hm_161
                          have hm_178 : M_164 70 = some (aI G 726 (nF (va_up ex2 ((6 * n) + k) (ee (720 + k))))) := by rw [eM_167]; exact va_up_self _ _ _
                          have hF_179 : ∀ j : Nat, j ≠ 60 → j ≠ 65 → j ≠ 66 → j ≠ 67 → j ≠ 68 → j ≠ 69 → j ≠ 70 → M_164 j = M j := fun j q0 q1 q2 q3 q4 q5 q6 => by rw [eM_167, va_up_ne _ _ q6]; exact hF_163 j q0 q1 q2 q3 q4 q5 q6
                          refine lv_iinc (v := nI (k + 1)) (lv' := [(6, .int (nI (k + 1))), (0, .ref (ad 60)), (1, .int (nI y)), (2, .int (nI f)), (3, .int (nI g)), (5, .int (nI s0))]) hx hb dX10_put_218 hl (k := 5) rfl (nI_add k 1) (by decide) rfl (fun ls hl => ?_)
                          refine lv_goto (tgt := 159) hx hb dX10_put_221 (by decide) ?_
                          exact ih_126 (k + 1) (va_up rx2 ((6 * n) + k) (rr (720 + k))) (va_up ex2 ((6 * n) + k) (ee (720 + k))) M_164 H_165 locs_166 ls (by omega) (by omega) (cpF_s hrx) (cpF_s hex) hI hm_172 hm_173 hm_174 hm_175 hm_176 hm_177 hm_178 (fun j q0 q1 q2 q3 q4 q5 q6 => hF_179 j q0 q1 q2 q3 q4 q5 q6) (lv_sub hl [1, 2, 3, 4, 5, 0] rfl)
                    exact lp159_116 ((s0 - 0) + 1) 0 rr ee M_100 H_101 locs_102 ls (Nat.lt_succ_self _) (by omega) (cpF_0 rr n) (cpF_0 ee n) hI hm_104 hm_108 hm_109 hm_110 hm_111 hm_112 hm_113 (fun j q0 q1 q2 q3 q4 q5 q6 => hF_115 j q0 q4 q1 q2 q3) (lv_sub hl [3, 4, 5, 6, 1, 0] rfl)
                  · -- 108: nI 0 gt
                    exact absurd (by decide) c_51
                · -- 75: nI 0 ne
                  exact absurd (by decide) c_32
              · -- 63: nI n eq
                have c_29 : n = 120 := (nI_eq (a := n) (b := 120) (by omega) (by omega)).mp (c_29)
                omega
          · -- 41: nI s0 eq
            have c_25 : s0 = 0 := (nI_eq (a := s0) (b := 0) (by omega) (by omega)).mp (c_25)
            omega

/-- X10_put -/
abbrev rm_c_X10_put_a : Room := { frames := 2, cells := 0, slots := 0, locals := 42 }
set_option maxHeartbeats 4000000 in
set_option maxRecDepth 100000 in
theorem c_X10_put_a (l : Launch) (G : GG) (z : Nat) (ad : Nat → Nat) (M : Mem) {th : Nat} {ln : Nat} {on : Nat} {ao : Nat} {vr : Nat} {sn : Nat} {tp : Nat} {pt : Nat} {zs : Nat} {bg : Nat} {fa : Int32} {x0 : Int32} {x1 : Int32} {x2 : Int32} (h60 : M 60 = some (cModel ad th ln on ao vr sn tp pt zs bg fa)) (hbad : x0 < 0 ∨ ¬ x0 < nI 6) : Met l yX10_put wsX10_put rm_c_X10_put_a (Pr G z ad M [.ref (ad 60), .int x0, .int x1, .int x2]) (Ni G z ad (fun (r : Int32) (M' : Mem) => r = nI 0 ∧ M' 60 = some (cModel ad 1 ln on ao vr sn tp pt zs bg fa) ∧ (∀ j : Nat, j ≠ 60 → M' j = M j))) 0 0 (fr z) := by
  refine Met.ofW (cc := cX10_put) (maxL := 7) (ret := (some .int)) (by decide) rfl ?_
  intro p e s m args below meth c s₁ B hml hv
  obtain ⟨rfl, hv⟩ := hv
  have hI := Iv.entry hv
  have hx := B.exec
  have hb := B.bytes
  have hr := B.returns
  have hts := atoms_spec (ws := wsX10_put) B.pre
  have hown : s.vm.findClass RX10 = some m.cls := findClass_of_methodNamed B.named
  have hlocks := B.notSynchronized
  have f_3 := hts _ (List.mem_cons_of_mem _ (lwg_of t_1013 rfl))
  have i_RX10 : ∀ w ∈ u_ws RX10 TX10 38, w ∈ wsX10_put := fun w h => List.mem_cons_of_mem _ (iu_X10 w h)
  have hl := lv_entry ([.ref (ad 60), .int x0, .int x1, .int x2]) (n := 7) (Nat.le_of_ble_eq_true rfl)
  rw [lg_entry_eq]
  generalize (lg_sl ([.ref (ad 60), .int x0, .int x1, .int x2]) ++ List.replicate (7 - (lg_sl ([.ref (ad 60), .int x0, .int x1, .int x2])).length) Slot.unset).toArray = ls at hl ⊢
  have hl : lv_has ls 7 [(0, .ref (ad 60)), (1, .int x0), (2, .int x1), (3, .int x2)] := hl
  refine lv_aload_n hx hb dX10_put_0 rfl (lv_at hl 0 rfl) ?_
  refine lv_iconst (v := nI 0) hx hb dX10_put_1 (by decide) ?_
  refine h_put (C := RX10) (T := TX10) (N := 38) hx hb hts i_RX10 tyX10 tyX10_ok nmX10 hown hI h60 rfl 0 (by decide) f_3 rfl rfl rfl rfl (Nat.le_of_ble_eq_true rfl) dX10_put_2 (fun M_1 H_2 locs_3 eM_4 hI => ?_)
  have hm_5 : M_1 60 = some (cModel ad 0 ln on ao vr sn tp pt zs bg fa) := by rw [eM_4]; exact va_up_self _ _ _
  have hF_6 : ∀ j : Nat, j ≠ 60 → M_1 j = M j := fun j q0 => by rw [eM_4, va_up_ne _ _ q0]
  refine lv_aload_n hx hb dX10_put_5 rfl (lv_at hl 0 rfl) ?_
  refine lv_iload_n hx hb dX10_put_6 rfl (lv_at hl 1 rfl) ?_
  refine k_Ri (va_runS (As := [.int x0]) (rest := [.ref (ad 60)]) ⟨hx, hb, hml, hown, hts⟩ (c_X10_noKind_1 l G z ad M_1 (x := x0) hbad) (va_cwS 1 hts (gS (lwg_of t_1132 rfl) (lwg_of t_1133 rfl) (lwg_of t_13 rfl) (lwg_of t_1134 rfl)) rfl rfl rfl (by decide +kernel) ⟨Nat.le_of_ble_eq_true rfl, Nat.le_of_ble_eq_true rfl⟩) hI.preS rfl rfl hl.1 rfl (lv_room (Nat.le_of_ble_eq_true rfl)) dX10_put_7 ⟨Nat.le_of_ble_eq_true rfl, Nat.le_of_ble_eq_true rfl⟩) (fun _ h => h) (fun r_7 hp_8 => ?_)
  rw [hp_8]
  refine lv_iconst (v := nI 1) hx hb dX10_put_10 (by decide) ?_
  refine k_Ni (va_runV (As := [.int (nI 1), .int (nI 1)]) (rest := []) ⟨hx, hb, hml, hown, hts⟩ (c_X10_throwsIf_1 l G z ad M_1 (th := 0) (ln := ln) (on := on) (ao := ao) (vr := vr) (sn := sn) (tp := tp) (pt := pt) (zs := zs) (bg := bg) (fa := fa) (c0 := 1) hm_5) (cwV 2 hts (gV (lwg_of t_1141 rfl) (lwg_of t_1143 rfl) (lwg_of ts_23 rfl) (lwg_of t_13 rfl) (lwg_of t_1144 rfl)) rfl rfl rfl (by decide +kernel) ⟨Nat.le_of_ble_eq_true rfl, Nat.le_of_ble_eq_true rfl⟩) (hI.preV hm_5 rfl) rfl rfl hl.1 rfl (lv_room (Nat.le_of_ble_eq_true rfl)) dX10_put_11 ⟨Nat.le_of_ble_eq_true rfl, Nat.le_of_ble_eq_true rfl⟩) hI (fun r_9 M_11 H_12 locs_13 hp_10 hI => ?_)
  obtain ⟨hr_14, hm_15, hF_16⟩ := hp_10
  have hF_17 : ∀ j : Nat, j ≠ 60 → M_11 j = M j := fun j q0 => (hF_16 j q0).trans (hF_6 j q0)
  rw [hr_14]
  refine lv_if_ne (tgt := 78) hx hb dX10_put_14 (by decide) (fun c_18 => ?_) (fun c_18 => ?_)
  · -- 14: nI 1 ne
    refine lv_iconst (v := nI 0) hx hb dX10_put_78 (by decide) ?_
    exact e_Ni hx hb hr rfl hlocks hI ⟨rfl, hm_15, (fun j q0 => hF_17 j q0)⟩ dX10_put_79
  · -- 14: nI 1 eq
    exact absurd c_18 (by decide)

/-- X10_put -/
abbrev rm_c_X10_put_b : Room := { frames := 2, cells := 0, slots := 0, locals := 42 }
set_option maxHeartbeats 4000000 in
set_option maxRecDepth 100000 in
theorem c_X10_put_b (l : Launch) (G : GG) (z : Nat) (ad : Nat → Nat) (M : Mem) {th : Nat} {ln : Nat} {on : Nat} {ao : Nat} {vr : Nat} {sn : Nat} {tp : Nat} {pt : Nat} {zs : Nat} {bg : Nat} {fa : Int32} {kd : Nat} {x1 : Int32} {x2 : Int32} (h60 : M 60 = some (cModel ad th ln on ao vr sn tp pt zs bg fa)) (hkd : kd < 6) (hbad : x1 < 0 ∨ x2 < x1 ∨ nI 1000 < x2) : Met l yX10_put wsX10_put rm_c_X10_put_b (Pr G z ad M [.ref (ad 60), .int (nI kd), .int x1, .int x2]) (Ni G z ad (fun (r : Int32) (M' : Mem) => r = nI 0 ∧ M' 60 = some (cModel ad 2 ln on ao vr sn tp pt zs bg fa) ∧ (∀ j : Nat, j ≠ 60 → M' j = M j))) 0 0 (fr z) := by
  refine Met.ofW (cc := cX10_put) (maxL := 7) (ret := (some .int)) (by decide) rfl ?_
  intro p e s m args below meth c s₁ B hml hv
  obtain ⟨rfl, hv⟩ := hv
  have hI := Iv.entry hv
  have hx := B.exec
  have hb := B.bytes
  have hr := B.returns
  have hts := atoms_spec (ws := wsX10_put) B.pre
  have hown : s.vm.findClass RX10 = some m.cls := findClass_of_methodNamed B.named
  have hlocks := B.notSynchronized
  have f_3 := hts _ (List.mem_cons_of_mem _ (lwg_of t_1013 rfl))
  have i_RX10 : ∀ w ∈ u_ws RX10 TX10 38, w ∈ wsX10_put := fun w h => List.mem_cons_of_mem _ (iu_X10 w h)
  have hl := lv_entry ([.ref (ad 60), .int (nI kd), .int x1, .int x2]) (n := 7) (Nat.le_of_ble_eq_true rfl)
  rw [lg_entry_eq]
  generalize (lg_sl ([.ref (ad 60), .int (nI kd), .int x1, .int x2]) ++ List.replicate (7 - (lg_sl ([.ref (ad 60), .int (nI kd), .int x1, .int x2])).length) Slot.unset).toArray = ls at hl ⊢
  have hl : lv_has ls 7 [(0, .ref (ad 60)), (1, .int (nI kd)), (2, .int x1), (3, .int x2)] := hl
  refine lv_aload_n hx hb dX10_put_0 rfl (lv_at hl 0 rfl) ?_
  refine lv_iconst (v := nI 0) hx hb dX10_put_1 (by decide) ?_
  refine h_put (C := RX10) (T := TX10) (N := 38) hx hb hts i_RX10 tyX10 tyX10_ok nmX10 hown hI h60 rfl 0 (by decide) f_3 rfl rfl rfl rfl (Nat.le_of_ble_eq_true rfl) dX10_put_2 (fun M_1 H_2 locs_3 eM_4 hI => ?_)
  have hm_5 : M_1 60 = some (cModel ad 0 ln on ao vr sn tp pt zs bg fa) := by rw [eM_4]; exact va_up_self _ _ _
  have hF_6 : ∀ j : Nat, j ≠ 60 → M_1 j = M j := fun j q0 => by rw [eM_4, va_up_ne _ _ q0]
  refine lv_aload_n hx hb dX10_put_5 rfl (lv_at hl 0 rfl) ?_
  refine lv_iload_n hx hb dX10_put_6 rfl (lv_at hl 1 rfl) ?_
  refine k_Ri (va_runS (As := [.int (nI kd)]) (rest := [.ref (ad 60)]) ⟨hx, hb, hml, hown, hts⟩ (c_X10_noKind_0 l G z ad M_1 (t := kd) (by omega)) (va_cwS 1 hts (gS (lwg_of t_1132 rfl) (lwg_of t_1133 rfl) (lwg_of t_13 rfl) (lwg_of t_1134 rfl)) rfl rfl rfl (by decide +kernel) ⟨Nat.le_of_ble_eq_true rfl, Nat.le_of_ble_eq_true rfl⟩) hI.preS rfl rfl hl.1 rfl (lv_room (Nat.le_of_ble_eq_true rfl)) dX10_put_7 ⟨Nat.le_of_ble_eq_true rfl, Nat.le_of_ble_eq_true rfl⟩) (fun _ h => h) (fun r_7 hp_8 => ?_)
  rw [hp_8]
  refine lv_iconst (v := nI 1) hx hb dX10_put_10 (by decide) ?_
  refine k_Ri (va_runV (As := [.int (nI 0), .int (nI 1)]) (rest := []) ⟨hx, hb, hml, hown, hts⟩ (c_X10_throwsIf_0 l G z ad M_1 (th := 0) (ln := ln) (on := on) (ao := ao) (vr := vr) (sn := sn) (tp := tp) (pt := pt) (zs := zs) (bg := bg) (fa := fa) (c0 := 1) hm_5) (cwV 2 hts (gV (lwg_of t_1141 rfl) (lwg_of t_1143 rfl) (lwg_of ts_23 rfl) (lwg_of t_13 rfl) (lwg_of t_1144 rfl)) rfl rfl rfl (by decide +kernel) ⟨Nat.le_of_ble_eq_true rfl, Nat.le_of_ble_eq_true rfl⟩) (hI.preV hm_5 rfl) rfl rfl hl.1 rfl (lv_room (Nat.le_of_ble_eq_true rfl)) dX10_put_11 ⟨Nat.le_of_ble_eq_true rfl, Nat.le_of_ble_eq_true rfl⟩) (fun _ h => h) (fun r_9 hp_10 => ?_)
  rw [hp_10]
  refine lv_if_ne (tgt := 78) hx hb dX10_put_14 (by decide) (fun c_11 => ?_) (fun c_11 => ?_)
  · -- 14: nI 0 ne
    exact absurd (by decide) c_11
  · -- 14: nI 0 eq
    refine lv_aload_n hx hb dX10_put_17 rfl (lv_at hl 0 rfl) ?_
    refine lv_iload_n hx hb dX10_put_18 rfl (lv_at hl 2 rfl) ?_
    refine lv_if_lt (tgt := 44) hx hb dX10_put_19 (by decide) (fun c_12 => ?_) (fun c_12 => ?_)
    · -- 19: x1 lt
      refine lv_iconst (v := nI 1) hx hb dX10_put_44 (by decide) ?_
      refine lv_goto (tgt := 49) hx hb dX10_put_45 (by decide) ?_
      refine lv_iconst (v := nI 2) hx hb dX10_put_49 (by decide) ?_
      refine k_Ni (va_runV (As := [.int (nI 1), .int (nI 2)]) (rest := []) ⟨hx, hb, hml, hown, hts⟩ (c_X10_throwsIf_1 l G z ad M_1 (th := 0) (ln := ln) (on := on) (ao := ao) (vr := vr) (sn := sn) (tp := tp) (pt := pt) (zs := zs) (bg := bg) (fa := fa) (c0 := 2) hm_5) (cwV 2 hts (gV (lwg_of t_1141 rfl) (lwg_of t_1143 rfl) (lwg_of ts_23 rfl) (lwg_of t_13 rfl) (lwg_of t_1144 rfl)) rfl rfl rfl (by decide +kernel) ⟨Nat.le_of_ble_eq_true rfl, Nat.le_of_ble_eq_true rfl⟩) (hI.preV hm_5 rfl) rfl rfl hl.1 rfl (lv_room (Nat.le_of_ble_eq_true rfl)) dX10_put_50 ⟨Nat.le_of_ble_eq_true rfl, Nat.le_of_ble_eq_true rfl⟩) hI (fun r_13 M_15 H_16 locs_17 hp_14 hI => ?_)
      obtain ⟨hr_18, hm_19, hF_20⟩ := hp_14
      have hF_21 : ∀ j : Nat, j ≠ 60 → M_15 j = M j := fun j q0 => (hF_20 j q0).trans (hF_6 j q0)
      rw [hr_18]
      refine lv_if_ne (tgt := 78) hx hb dX10_put_53 (by decide) (fun c_22 => ?_) (fun c_22 => ?_)
      · -- 53: nI 1 ne
        refine lv_iconst (v := nI 0) hx hb dX10_put_78 (by decide) ?_
        exact e_Ni hx hb hr rfl hlocks hI ⟨rfl, hm_19, (fun j q0 => hF_21 j q0)⟩ dX10_put_79
      · -- 53: nI 1 eq
        exact absurd c_22 (by decide)
    · -- 19: x1 ge
      refine lv_iload_n hx hb dX10_put_22 rfl (lv_at hl 3 rfl) ?_
      refine lv_iload_n hx hb dX10_put_23 rfl (lv_at hl 2 rfl) ?_
      refine lv_icmp_lt (tgt := 44) hx hb dX10_put_24 (by decide) (fun c_23 => ?_) (fun c_23 => ?_)
      · -- 24: x2 lt
        refine lv_iconst (v := nI 1) hx hb dX10_put_44 (by decide) ?_
        refine lv_goto (tgt := 49) hx hb dX10_put_45 (by decide) ?_
        refine lv_iconst (v := nI 2) hx hb dX10_put_49 (by decide) ?_
        refine k_Ni (va_runV (As := [.int (nI 1), .int (nI 2)]) (rest := []) ⟨hx, hb, hml, hown, hts⟩ (c_X10_throwsIf_1 l G z ad M_1 (th := 0) (ln := ln) (on := on) (ao := ao) (vr := vr) (sn := sn) (tp := tp) (pt := pt) (zs := zs) (bg := bg) (fa := fa) (c0 := 2) hm_5) (cwV 2 hts (gV (lwg_of t_1141 rfl) (lwg_of t_1143 rfl) (lwg_of ts_23 rfl) (lwg_of t_13 rfl) (lwg_of t_1144 rfl)) rfl rfl rfl (by decide +kernel) ⟨Nat.le_of_ble_eq_true rfl, Nat.le_of_ble_eq_true rfl⟩) (hI.preV hm_5 rfl) rfl rfl hl.1 rfl (lv_room (Nat.le_of_ble_eq_true rfl)) dX10_put_50 ⟨Nat.le_of_ble_eq_true rfl, Nat.le_of_ble_eq_true rfl⟩) hI (fun r_24 M_26 H_27 locs_28 hp_25 hI => ?_)
        obtain ⟨hr_29, hm_30, hF_31⟩ := hp_25
        have hF_32 : ∀ j : Nat, j ≠ 60 → M_26 j = M j := fun j q0 => (hF_31 j q0).trans (hF_6 j q0)
        rw [hr_29]
        refine lv_if_ne (tgt := 78) hx hb dX10_put_53 (by decide) (fun c_33 => ?_) (fun c_33 => ?_)
        · -- 53: nI 1 ne
          refine lv_iconst (v := nI 0) hx hb dX10_put_78 (by decide) ?_
          exact e_Ni hx hb hr rfl hlocks hI ⟨rfl, hm_30, (fun j q0 => hF_32 j q0)⟩ dX10_put_79
        · -- 53: nI 1 eq
          exact absurd c_33 (by decide)
      · -- 24: x2 ge
        refine lv_iload_n hx hb dX10_put_27 rfl (lv_at hl 3 rfl) ?_
        refine lv_sipush (v := nI 1000) hx hb dX10_put_28 (by decide) ?_
        refine lv_icmp_gt (tgt := 44) hx hb dX10_put_31 (by decide) (fun c_34 => ?_) (fun c_34 => ?_)
        · -- 31: x2 gt
          refine lv_iconst (v := nI 1) hx hb dX10_put_44 (by decide) ?_
          refine lv_goto (tgt := 49) hx hb dX10_put_45 (by decide) ?_
          refine lv_iconst (v := nI 2) hx hb dX10_put_49 (by decide) ?_
          refine k_Ni (va_runV (As := [.int (nI 1), .int (nI 2)]) (rest := []) ⟨hx, hb, hml, hown, hts⟩ (c_X10_throwsIf_1 l G z ad M_1 (th := 0) (ln := ln) (on := on) (ao := ao) (vr := vr) (sn := sn) (tp := tp) (pt := pt) (zs := zs) (bg := bg) (fa := fa) (c0 := 2) hm_5) (cwV 2 hts (gV (lwg_of t_1141 rfl) (lwg_of t_1143 rfl) (lwg_of ts_23 rfl) (lwg_of t_13 rfl) (lwg_of t_1144 rfl)) rfl rfl rfl (by decide +kernel) ⟨Nat.le_of_ble_eq_true rfl, Nat.le_of_ble_eq_true rfl⟩) (hI.preV hm_5 rfl) rfl rfl hl.1 rfl (lv_room (Nat.le_of_ble_eq_true rfl)) dX10_put_50 ⟨Nat.le_of_ble_eq_true rfl, Nat.le_of_ble_eq_true rfl⟩) hI (fun r_35 M_37 H_38 locs_39 hp_36 hI => ?_)
          obtain ⟨hr_40, hm_41, hF_42⟩ := hp_36
          have hF_43 : ∀ j : Nat, j ≠ 60 → M_37 j = M j := fun j q0 => (hF_42 j q0).trans (hF_6 j q0)
          rw [hr_40]
          refine lv_if_ne (tgt := 78) hx hb dX10_put_53 (by decide) (fun c_44 => ?_) (fun c_44 => ?_)
          · -- 53: nI 1 ne
            refine lv_iconst (v := nI 0) hx hb dX10_put_78 (by decide) ?_
            exact e_Ni hx hb hr rfl hlocks hI ⟨rfl, hm_41, (fun j q0 => hF_43 j q0)⟩ dX10_put_79
          · -- 53: nI 1 eq
            exact absurd c_44 (by decide)
        · -- 31: x2 le
          rcases hbad with h9 | h9 | h9 <;> contradiction

/-- X10_put -/
abbrev rm_c_X10_put_c : Room := { frames := 2, cells := 0, slots := 0, locals := 42 }
set_option maxHeartbeats 4000000 in
set_option maxRecDepth 100000 in
theorem c_X10_put_c (l : Launch) (G : GG) (z : Nat) (ad : Nat → Nat) (M : Mem) {th : Nat} {ln : Nat} {on : Nat} {ao : Nat} {vr : Nat} {sn : Nat} {tp : Nat} {pt : Nat} {zs : Nat} {bg : Nat} {fa : Int32} {mz : Nat → Nat} {kd : Nat} {f : Nat} {g : Nat} (h60 : M 60 = some (cModel ad th ln on ao vr sn tp pt zs bg fa)) (h68 : M 68 = some (aI G 121 (nF mz))) (hkd : kd < 6) (hfg : f ≤ g ∧ g ≤ 1000) (hm0 : mz 120 = 0) : Met l yX10_put wsX10_put rm_c_X10_put_c (Pr G z ad M [.ref (ad 60), .int (nI kd), .int (nI f), .int (nI g)]) (Ni G z ad (fun (r : Int32) (M' : Mem) => r = nI 0 ∧ M' 60 = some (cModel ad 2 ln on ao vr sn tp pt zs bg fa) ∧ (∀ j : Nat, j ≠ 60 → M' j = M j))) 0 0 (fr z) := by
  refine Met.ofW (cc := cX10_put) (maxL := 7) (ret := (some .int)) (by decide) rfl ?_
  intro p e s m args below meth c s₁ B hml hv
  obtain ⟨rfl, hv⟩ := hv
  have hI := Iv.entry hv
  have hx := B.exec
  have hb := B.bytes
  have hr := B.returns
  have hts := atoms_spec (ws := wsX10_put) B.pre
  have hown : s.vm.findClass RX10 = some m.cls := findClass_of_methodNamed B.named
  have hlocks := B.notSynchronized
  have f_3 := hts _ (List.mem_cons_of_mem _ (lwg_of t_1013 rfl))
  have i_RX10 : ∀ w ∈ u_ws RX10 TX10 38, w ∈ wsX10_put := fun w h => List.mem_cons_of_mem _ (iu_X10 w h)
  have f_36 := hts _ (List.mem_cons_of_mem _ (lwg_of t_1021 rfl))
  have hl := lv_entry ([.ref (ad 60), .int (nI kd), .int (nI f), .int (nI g)]) (n := 7) (Nat.le_of_ble_eq_true rfl)
  rw [lg_entry_eq]
  generalize (lg_sl ([.ref (ad 60), .int (nI kd), .int (nI f), .int (nI g)]) ++ List.replicate (7 - (lg_sl ([.ref (ad 60), .int (nI kd), .int (nI f), .int (nI g)])).length) Slot.unset).toArray = ls at hl ⊢
  have hl : lv_has ls 7 [(0, .ref (ad 60)), (1, .int (nI kd)), (2, .int (nI f)), (3, .int (nI g))] := hl
  refine lv_aload_n hx hb dX10_put_0 rfl (lv_at hl 0 rfl) ?_
  refine lv_iconst (v := nI 0) hx hb dX10_put_1 (by decide) ?_
  refine h_put (C := RX10) (T := TX10) (N := 38) hx hb hts i_RX10 tyX10 tyX10_ok nmX10 hown hI h60 rfl 0 (by decide) f_3 rfl rfl rfl rfl (Nat.le_of_ble_eq_true rfl) dX10_put_2 (fun M_1 H_2 locs_3 eM_4 hI => ?_)
  have hm_5 : M_1 60 = some (cModel ad 0 ln on ao vr sn tp pt zs bg fa) := by rw [eM_4]; exact va_up_self _ _ _
  have hm_6 : M_1 68 = some (aI G 121 (nF mz)) := by rw [eM_4, va_up_ne _ _ (by decide)]; exact h68
  have hF_7 : ∀ j : Nat, j ≠ 60 → M_1 j = M j := fun j q0 => by rw [eM_4, va_up_ne _ _ q0]
  refine lv_aload_n hx hb dX10_put_5 rfl (lv_at hl 0 rfl) ?_
  refine lv_iload_n hx hb dX10_put_6 rfl (lv_at hl 1 rfl) ?_
  refine k_Ri (va_runS (As := [.int (nI kd)]) (rest := [.ref (ad 60)]) ⟨hx, hb, hml, hown, hts⟩ (c_X10_noKind_0 l G z ad M_1 (t := kd) (by omega)) (va_cwS 1 hts (gS (lwg_of t_1132 rfl) (lwg_of t_1133 rfl) (lwg_of t_13 rfl) (lwg_of t_1134 rfl)) rfl rfl rfl (by decide +kernel) ⟨Nat.le_of_ble_eq_true rfl, Nat.le_of_ble_eq_true rfl⟩) hI.preS rfl rfl hl.1 rfl (lv_room (Nat.le_of_ble_eq_true rfl)) dX10_put_7 ⟨Nat.le_of_ble_eq_true rfl, Nat.le_of_ble_eq_true rfl⟩) (fun _ h => h) (fun r_8 hp_9 => ?_)
  rw [hp_9]
  refine lv_iconst (v := nI 1) hx hb dX10_put_10 (by decide) ?_
  refine k_Ri (va_runV (As := [.int (nI 0), .int (nI 1)]) (rest := []) ⟨hx, hb, hml, hown, hts⟩ (c_X10_throwsIf_0 l G z ad M_1 (th := 0) (ln := ln) (on := on) (ao := ao) (vr := vr) (sn := sn) (tp := tp) (pt := pt) (zs := zs) (bg := bg) (fa := fa) (c0 := 1) hm_5) (cwV 2 hts (gV (lwg_of t_1141 rfl) (lwg_of t_1143 rfl) (lwg_of ts_23 rfl) (lwg_of t_13 rfl) (lwg_of t_1144 rfl)) rfl rfl rfl (by decide +kernel) ⟨Nat.le_of_ble_eq_true rfl, Nat.le_of_ble_eq_true rfl⟩) (hI.preV hm_5 rfl) rfl rfl hl.1 rfl (lv_room (Nat.le_of_ble_eq_true rfl)) dX10_put_11 ⟨Nat.le_of_ble_eq_true rfl, Nat.le_of_ble_eq_true rfl⟩) (fun _ h => h) (fun r_10 hp_11 => ?_)
  rw [hp_11]
  refine lv_if_ne (tgt := 78) hx hb dX10_put_14 (by decide) (fun c_12 => ?_) (fun c_12 => ?_)
  · -- 14: nI 0 ne
    exact absurd (by decide) c_12
  · -- 14: nI 0 eq
    refine lv_aload_n hx hb dX10_put_17 rfl (lv_at hl 0 rfl) ?_
    refine lv_iload_n hx hb dX10_put_18 rfl (lv_at hl 2 rfl) ?_
    refine lv_if_lt (tgt := 44) hx hb dX10_put_19 (by decide) (fun c_13 => ?_) (fun c_13 => ?_)
    · -- 19: nI f lt
      have c_13 : f < 0 := (nI_ltI (a := f) (b := 0) (by omega) (by omega)).mp (c_13)
      omega
    · -- 19: nI f ge
      have c_13 : 0 ≤ f := by have h := mt (nI_ltI (a := f) (b := 0) (by omega) (by omega)).mpr c_13; omega
      refine lv_iload_n hx hb dX10_put_22 rfl (lv_at hl 3 rfl) ?_
      refine lv_iload_n hx hb dX10_put_23 rfl (lv_at hl 2 rfl) ?_
      refine lv_icmp_lt (tgt := 44) hx hb dX10_put_24 (by decide) (fun c_14 => ?_) (fun c_14 => ?_)
      · -- 24: nI g lt
        have c_14 : g < f := (nI_ltI (a := g) (b := f) (by omega) (by omega)).mp (c_14)
        omega
      · -- 24: nI g ge
        have c_14 : f ≤ g := by have h := mt (nI_ltI (a := g) (b := f) (by omega) (by omega)).mpr c_14; omega
        refine lv_iload_n hx hb dX10_put_27 rfl (lv_at hl 3 rfl) ?_
        refine lv_sipush (v := nI 1000) hx hb dX10_put_28 (by decide) ?_
        refine lv_icmp_gt (tgt := 44) hx hb dX10_put_31 (by decide) (fun c_15 => ?_) (fun c_15 => ?_)
        · -- 31: nI g gt
          have c_15 : 1000 < g := (nI_ltI (a := 1000) (b := g) (by omega) (by omega)).mp (c_15)
          omega
        · -- 31: nI g le
          have c_15 : g ≤ 1000 := by have h := mt (nI_ltI (a := 1000) (b := g) (by omega) (by omega)).mpr c_15; omega
          refine lv_aload_n hx hb dX10_put_34 rfl (lv_at hl 0 rfl) ?_
          refine h_get (C := RX10) (T := TX10) (N := 38) hx hb hts i_RX10 hown hI hm_5 rfl 8 (by decide) f_36 rfl rfl dX10_put_35 ?_
          refine lv_bipush (v := nI 120) hx hb dX10_put_38 (by decide) ?_
          refine h_iald (i := 120) hx hb hI hm_6 (by omega) (by decide) dX10_put_40 ?_
          refine lv_if_ne (tgt := 48) hx hb dX10_put_41 (by decide) (fun c_16 => ?_) (fun c_16 => ?_)
          · -- 41: nI (mz 120) ne
            have c_16 : mz 120 ≠ 0 := by have h := mt (nI_eq (a := mz 120) (b := 0) (by omega) (by omega)).mpr c_16; omega
            omega
          · -- 41: nI (mz 120) eq
            have c_16 : mz 120 = 0 := (nI_eq (a := mz 120) (b := 0) (by omega) (by omega)).mp (c_16)
            refine lv_iconst (v := nI 1) hx hb dX10_put_44 (by decide) ?_
            refine lv_goto (tgt := 49) hx hb dX10_put_45 (by decide) ?_
            refine lv_iconst (v := nI 2) hx hb dX10_put_49 (by decide) ?_
            refine k_Ni (va_runV (As := [.int (nI 1), .int (nI 2)]) (rest := []) ⟨hx, hb, hml, hown, hts⟩ (c_X10_throwsIf_1 l G z ad M_1 (th := 0) (ln := ln) (on := on) (ao := ao) (vr := vr) (sn := sn) (tp := tp) (pt := pt) (zs := zs) (bg := bg) (fa := fa) (c0 := 2) hm_5) (cwV 2 hts (gV (lwg_of t_1141 rfl) (lwg_of t_1143 rfl) (lwg_of ts_23 rfl) (lwg_of t_13 rfl) (lwg_of t_1144 rfl)) rfl rfl rfl (by decide +kernel) ⟨Nat.le_of_ble_eq_true rfl, Nat.le_of_ble_eq_true rfl⟩) (hI.preV hm_5 rfl) rfl rfl hl.1 rfl (lv_room (Nat.le_of_ble_eq_true rfl)) dX10_put_50 ⟨Nat.le_of_ble_eq_true rfl, Nat.le_of_ble_eq_true rfl⟩) hI (fun r_17 M_19 H_20 locs_21 hp_18 hI => ?_)
            obtain ⟨hr_22, hm_23, hF_24⟩ := hp_18
            have hm_25 : M_19 68 = some (aI G 121 (nF mz)) := by rw [hF_24 68 (by omega)]; exact hm_6
            have hF_26 : ∀ j : Nat, j ≠ 60 → M_19 j = M j := fun j q0 => (hF_24 j q0).trans (hF_7 j q0)
            rw [hr_22]
            refine lv_if_ne (tgt := 78) hx hb dX10_put_53 (by decide) (fun c_27 => ?_) (fun c_27 => ?_)
            · -- 53: nI 1 ne
              refine lv_iconst (v := nI 0) hx hb dX10_put_78 (by decide) ?_
              exact e_Ni hx hb hr rfl hlocks hI ⟨rfl, hm_23, (fun j q0 => hF_26 j q0)⟩ dX10_put_79
            · -- 53: nI 1 eq
              exact absurd c_27 (by decide)

/-- X10_put -/
abbrev rm_c_X10_put_d : Room := { frames := 2, cells := 0, slots := 0, locals := 42 }
set_option maxHeartbeats 4000000 in
set_option maxRecDepth 100000 in
theorem c_X10_put_d (l : Launch) (G : GG) (z : Nat) (ad : Nat → Nat) (M : Mem) {th : Nat} {ln : Nat} {on : Nat} {ao : Nat} {vr : Nat} {sn : Nat} {tp : Nat} {pt : Nat} {zs : Nat} {bg : Nat} {fa : Int32} {mz : Nat → Nat} {kd : Nat} {f : Nat} {g : Nat} (h60 : M 60 = some (cModel ad th ln on ao vr sn tp pt zs bg fa)) (h68 : M 68 = some (aI G 121 (nF mz))) (hkd : kd < 6) (hfg : f ≤ g ∧ g ≤ 1000) (hm0 : 0 < mz 120 ∧ mz 120 ≤ 6) (hln : ln = 120) : Met l yX10_put wsX10_put rm_c_X10_put_d (Pr G z ad M [.ref (ad 60), .int (nI kd), .int (nI f), .int (nI g)]) (Ni G z ad (fun (r : Int32) (M' : Mem) => r = nI 0 ∧ M' 60 = some (cModel ad 3 ln on ao vr sn tp pt zs bg fa) ∧ (∀ j : Nat, j ≠ 60 → M' j = M j))) 0 0 (fr z) := by
  refine Met.ofW (cc := cX10_put) (maxL := 7) (ret := (some .int)) (by decide) rfl ?_
  intro p e s m args below meth c s₁ B hml hv
  obtain ⟨rfl, hv⟩ := hv
  have hI := Iv.entry hv
  have hx := B.exec
  have hb := B.bytes
  have hr := B.returns
  have hts := atoms_spec (ws := wsX10_put) B.pre
  have hown : s.vm.findClass RX10 = some m.cls := findClass_of_methodNamed B.named
  have hlocks := B.notSynchronized
  have f_3 := hts _ (List.mem_cons_of_mem _ (lwg_of t_1013 rfl))
  have i_RX10 : ∀ w ∈ u_ws RX10 TX10 38, w ∈ wsX10_put := fun w h => List.mem_cons_of_mem _ (iu_X10 w h)
  have f_36 := hts _ (List.mem_cons_of_mem _ (lwg_of t_1021 rfl))
  have f_108 := hts _ (List.mem_cons_of_mem _ (lwg_of t_1024 rfl))
  have hl := lv_entry ([.ref (ad 60), .int (nI kd), .int (nI f), .int (nI g)]) (n := 7) (Nat.le_of_ble_eq_true rfl)
  rw [lg_entry_eq]
  generalize (lg_sl ([.ref (ad 60), .int (nI kd), .int (nI f), .int (nI g)]) ++ List.replicate (7 - (lg_sl ([.ref (ad 60), .int (nI kd), .int (nI f), .int (nI g)])).length) Slot.unset).toArray = ls at hl ⊢
  have hl : lv_has ls 7 [(0, .ref (ad 60)), (1, .int (nI kd)), (2, .int (nI f)), (3, .int (nI g))] := hl
  refine lv_aload_n hx hb dX10_put_0 rfl (lv_at hl 0 rfl) ?_
  refine lv_iconst (v := nI 0) hx hb dX10_put_1 (by decide) ?_
  refine h_put (C := RX10) (T := TX10) (N := 38) hx hb hts i_RX10 tyX10 tyX10_ok nmX10 hown hI h60 rfl 0 (by decide) f_3 rfl rfl rfl rfl (Nat.le_of_ble_eq_true rfl) dX10_put_2 (fun M_1 H_2 locs_3 eM_4 hI => ?_)
  have hm_5 : M_1 60 = some (cModel ad 0 ln on ao vr sn tp pt zs bg fa) := by rw [eM_4]; exact va_up_self _ _ _
  have hm_6 : M_1 68 = some (aI G 121 (nF mz)) := by rw [eM_4, va_up_ne _ _ (by decide)]; exact h68
  have hF_7 : ∀ j : Nat, j ≠ 60 → M_1 j = M j := fun j q0 => by rw [eM_4, va_up_ne _ _ q0]
  refine lv_aload_n hx hb dX10_put_5 rfl (lv_at hl 0 rfl) ?_
  refine lv_iload_n hx hb dX10_put_6 rfl (lv_at hl 1 rfl) ?_
  refine k_Ri (va_runS (As := [.int (nI kd)]) (rest := [.ref (ad 60)]) ⟨hx, hb, hml, hown, hts⟩ (c_X10_noKind_0 l G z ad M_1 (t := kd) (by omega)) (va_cwS 1 hts (gS (lwg_of t_1132 rfl) (lwg_of t_1133 rfl) (lwg_of t_13 rfl) (lwg_of t_1134 rfl)) rfl rfl rfl (by decide +kernel) ⟨Nat.le_of_ble_eq_true rfl, Nat.le_of_ble_eq_true rfl⟩) hI.preS rfl rfl hl.1 rfl (lv_room (Nat.le_of_ble_eq_true rfl)) dX10_put_7 ⟨Nat.le_of_ble_eq_true rfl, Nat.le_of_ble_eq_true rfl⟩) (fun _ h => h) (fun r_8 hp_9 => ?_)
  rw [hp_9]
  refine lv_iconst (v := nI 1) hx hb dX10_put_10 (by decide) ?_
  refine k_Ri (va_runV (As := [.int (nI 0), .int (nI 1)]) (rest := []) ⟨hx, hb, hml, hown, hts⟩ (c_X10_throwsIf_0 l G z ad M_1 (th := 0) (ln := ln) (on := on) (ao := ao) (vr := vr) (sn := sn) (tp := tp) (pt := pt) (zs := zs) (bg := bg) (fa := fa) (c0 := 1) hm_5) (cwV 2 hts (gV (lwg_of t_1141 rfl) (lwg_of t_1143 rfl) (lwg_of ts_23 rfl) (lwg_of t_13 rfl) (lwg_of t_1144 rfl)) rfl rfl rfl (by decide +kernel) ⟨Nat.le_of_ble_eq_true rfl, Nat.le_of_ble_eq_true rfl⟩) (hI.preV hm_5 rfl) rfl rfl hl.1 rfl (lv_room (Nat.le_of_ble_eq_true rfl)) dX10_put_11 ⟨Nat.le_of_ble_eq_true rfl, Nat.le_of_ble_eq_true rfl⟩) (fun _ h => h) (fun r_10 hp_11 => ?_)
  rw [hp_11]
  refine lv_if_ne (tgt := 78) hx hb dX10_put_14 (by decide) (fun c_12 => ?_) (fun c_12 => ?_)
  · -- 14: nI 0 ne
    exact absurd (by decide) c_12
  · -- 14: nI 0 eq
    refine lv_aload_n hx hb dX10_put_17 rfl (lv_at hl 0 rfl) ?_
    refine lv_iload_n hx hb dX10_put_18 rfl (lv_at hl 2 rfl) ?_
    refine lv_if_lt (tgt := 44) hx hb dX10_put_19 (by decide) (fun c_13 => ?_) (fun c_13 => ?_)
    · -- 19: nI f lt
      have c_13 : f < 0 := (nI_ltI (a := f) (b := 0) (by omega) (by omega)).mp (c_13)
      omega
    · -- 19: nI f ge
      have c_13 : 0 ≤ f := by have h := mt (nI_ltI (a := f) (b := 0) (by omega) (by omega)).mpr c_13; omega
      refine lv_iload_n hx hb dX10_put_22 rfl (lv_at hl 3 rfl) ?_
      refine lv_iload_n hx hb dX10_put_23 rfl (lv_at hl 2 rfl) ?_
      refine lv_icmp_lt (tgt := 44) hx hb dX10_put_24 (by decide) (fun c_14 => ?_) (fun c_14 => ?_)
      · -- 24: nI g lt
        have c_14 : g < f := (nI_ltI (a := g) (b := f) (by omega) (by omega)).mp (c_14)
        omega
      · -- 24: nI g ge
        have c_14 : f ≤ g := by have h := mt (nI_ltI (a := g) (b := f) (by omega) (by omega)).mpr c_14; omega
        refine lv_iload_n hx hb dX10_put_27 rfl (lv_at hl 3 rfl) ?_
        refine lv_sipush (v := nI 1000) hx hb dX10_put_28 (by decide) ?_
        refine lv_icmp_gt (tgt := 44) hx hb dX10_put_31 (by decide) (fun c_15 => ?_) (fun c_15 => ?_)
        · -- 31: nI g gt
          have c_15 : 1000 < g := (nI_ltI (a := 1000) (b := g) (by omega) (by omega)).mp (c_15)
          omega
        · -- 31: nI g le
          have c_15 : g ≤ 1000 := by have h := mt (nI_ltI (a := 1000) (b := g) (by omega) (by omega)).mpr c_15; omega
          refine lv_aload_n hx hb dX10_put_34 rfl (lv_at hl 0 rfl) ?_
          refine h_get (C := RX10) (T := TX10) (N := 38) hx hb hts i_RX10 hown hI hm_5 rfl 8 (by decide) f_36 rfl rfl dX10_put_35 ?_
          refine lv_bipush (v := nI 120) hx hb dX10_put_38 (by decide) ?_
          refine h_iald (i := 120) hx hb hI hm_6 (by omega) (by decide) dX10_put_40 ?_
          refine lv_if_ne (tgt := 48) hx hb dX10_put_41 (by decide) (fun c_16 => ?_) (fun c_16 => ?_)
          · -- 41: nI (mz 120) ne
            have c_16 : mz 120 ≠ 0 := by have h := mt (nI_eq (a := mz 120) (b := 0) (by omega) (by omega)).mpr c_16; omega
            refine lv_iconst (v := nI 0) hx hb dX10_put_48 (by decide) ?_
            refine lv_iconst (v := nI 2) hx hb dX10_put_49 (by decide) ?_
            refine k_Ri (va_runV (As := [.int (nI 0), .int (nI 2)]) (rest := []) ⟨hx, hb, hml, hown, hts⟩ (c_X10_throwsIf_0 l G z ad M_1 (th := 0) (ln := ln) (on := on) (ao := ao) (vr := vr) (sn := sn) (tp := tp) (pt := pt) (zs := zs) (bg := bg) (fa := fa) (c0 := 2) hm_5) (cwV 2 hts (gV (lwg_of t_1141 rfl) (lwg_of t_1143 rfl) (lwg_of ts_23 rfl) (lwg_of t_13 rfl) (lwg_of t_1144 rfl)) rfl rfl rfl (by decide +kernel) ⟨Nat.le_of_ble_eq_true rfl, Nat.le_of_ble_eq_true rfl⟩) (hI.preV hm_5 rfl) rfl rfl hl.1 rfl (lv_room (Nat.le_of_ble_eq_true rfl)) dX10_put_50 ⟨Nat.le_of_ble_eq_true rfl, Nat.le_of_ble_eq_true rfl⟩) (fun _ h => h) (fun r_17 hp_18 => ?_)
            rw [hp_18]
            refine lv_if_ne (tgt := 78) hx hb dX10_put_53 (by decide) (fun c_19 => ?_) (fun c_19 => ?_)
            · -- 53: nI 0 ne
              exact absurd (by decide) c_19
            · -- 53: nI 0 eq
              refine lv_aload_n hx hb dX10_put_56 rfl (lv_at hl 0 rfl) ?_
              refine lv_aload_n hx hb dX10_put_57 rfl (lv_at hl 0 rfl) ?_
              refine h_get (C := RX10) (T := TX10) (N := 38) hx hb hts i_RX10 hown hI hm_5 rfl 11 (by decide) f_108 rfl rfl dX10_put_58 ?_
              refine lv_bipush (v := nI 120) hx hb dX10_put_61 (by decide) ?_
              refine lv_icmp_ne (tgt := 70) hx hb dX10_put_63 (by decide) (fun c_20 => ?_) (fun c_20 => ?_)
              · -- 63: nI ln ne
                have c_20 : ln ≠ 120 := by have h := mt (nI_eq (a := ln) (b := 120) (by omega) (by omega)).mpr c_20; omega
                omega
              · -- 63: nI ln eq
                have c_20 : ln = 120 := (nI_eq (a := ln) (b := 120) (by omega) (by omega)).mp (c_20)
                refine lv_iconst (v := nI 1) hx hb dX10_put_66 (by decide) ?_
                refine lv_goto (tgt := 71) hx hb dX10_put_67 (by decide) ?_
                refine lv_iconst (v := nI 3) hx hb dX10_put_71 (by decide) ?_
                refine k_Ni (va_runV (As := [.int (nI 1), .int (nI 3)]) (rest := []) ⟨hx, hb, hml, hown, hts⟩ (c_X10_throwsIf_1 l G z ad M_1 (th := 0) (ln := ln) (on := on) (ao := ao) (vr := vr) (sn := sn) (tp := tp) (pt := pt) (zs := zs) (bg := bg) (fa := fa) (c0 := 3) hm_5) (cwV 2 hts (gV (lwg_of t_1141 rfl) (lwg_of t_1143 rfl) (lwg_of ts_23 rfl) (lwg_of t_13 rfl) (lwg_of t_1144 rfl)) rfl rfl rfl (by decide +kernel) ⟨Nat.le_of_ble_eq_true rfl, Nat.le_of_ble_eq_true rfl⟩) (hI.preV hm_5 rfl) rfl rfl hl.1 rfl (lv_room (Nat.le_of_ble_eq_true rfl)) dX10_put_72 ⟨Nat.le_of_ble_eq_true rfl, Nat.le_of_ble_eq_true rfl⟩) hI (fun r_21 M_23 H_24 locs_25 hp_22 hI => ?_)
                obtain ⟨hr_26, hm_27, hF_28⟩ := hp_22
                have hm_29 : M_23 68 = some (aI G 121 (nF mz)) := by rw [hF_28 68 (by omega)]; exact hm_6
                have hF_30 : ∀ j : Nat, j ≠ 60 → M_23 j = M j := fun j q0 => (hF_28 j q0).trans (hF_7 j q0)
                rw [hr_26]
                refine lv_if_eq (tgt := 80) hx hb dX10_put_75 (by decide) (fun c_31 => ?_) (fun c_31 => ?_)
                · -- 75: nI 1 eq
                  exact absurd c_31 (by decide)
                · -- 75: nI 1 ne
                  refine lv_iconst (v := nI 0) hx hb dX10_put_78 (by decide) ?_
                  exact e_Ni hx hb hr rfl hlocks hI ⟨rfl, hm_27, (fun j q0 => hF_30 j q0)⟩ dX10_put_79
          · -- 41: nI (mz 120) eq
            have c_16 : mz 120 = 0 := (nI_eq (a := mz 120) (b := 0) (by omega) (by omega)).mp (c_16)
            omega
