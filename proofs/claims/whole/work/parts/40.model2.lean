/-- the model's arrays say of the lines what the class's say -/
def MRel (n : Nat) (kd : Nat → Nat) (fm to : Nat → Int32) (sz : Nat → Nat) (rl en : Nat → Nat → Nat) (mk : Nat → Nat) (mf mu : Nat → Int32) (mz rr ee : Nat → Nat) : Prop := ∀ i, i < n → mk i = kd i ∧ mf i = fm i ∧ mu i = to i ∧ mz i = sz i ∧ ∀ j, j < sz i → rr (6 * i + j) = rl i j ∧ ee (6 * i + j) = en i j
section HS
variable {rl e lst : Nat → Nat} {x j t : Nat}
theorem hsT_s (th : Nat → Option Nat) : hsT rl th lst x (j + 1) t = (hsT rl th lst x j t || (decide (rl j = x) && (match th j with | some u => decide (lst u = t) | none => false))) := by simp [hsT, List.range_succ]; rfl
theorem hsT_old {th : Nat → Option Nat} (h : hsT rl th lst x j t = true) : true = hsT rl th lst x (j + 1) t := by rw [hsT_s, h]; rfl
theorem hsT_no1 {th : Nat → Option Nat} (h : hsT rl th lst x j t = false) (hr : rl j ≠ x) : false = hsT rl th lst x (j + 1) t := by rw [hsT_s, h, decide_eq_false hr]; rfl
theorem hsT_no2 (h : hsT rl (thE e) lst x j t = false) (he : 40 ≤ e j) (h1 : e j < 1000) : false = hsT rl (thE e) lst x (j + 1) t := by
  rw [hsT_s, h, thE, if_neg (by omega), if_pos h1]; simp
theorem hsT_no3 (h : hsT rl (thE e) lst x j t = false) (he : e j < 40) (hl : lst (e j) ≠ t) : false = hsT rl (thE e) lst x (j + 1) t := by
  rw [hsT_s, h, thE, if_pos he]; simp [hl]
theorem hsT_yes (hr : rl j = x) (he : e j < 40) (hl : lst (e j) = t) : true = hsT rl (thE e) lst x (j + 1) t := by
  rw [hsT_s, thE, if_pos he]; simp [hl, hr]
theorem hL_old {ol : Nat → Option Nat} (h : hasL ol x j = true) : true = hasL ol x (j + 1) := by rw [hasL_s, h]; rfl
theorem hL_no (h : hasL (olE e) x j = false) (h1 : e j < 1000) (he : e j ≠ 40 + x) : false = hasL (olE e) x (j + 1) := by
  rw [hasL_s, h, decide_eq_false (fun h2 => he (olE_some h1 h2))]; rfl
theorem hL_yes (he : e j = 40 + x) (hx : x < 900) : true = hasL (olE e) x (j + 1) := by rw [hasL_s, olE_of he hx, decide_eq_true rfl, Bool.or_true]
end HS

/-- X10_has -/
abbrev rm_c_X10_has : Room := { frames := 0, cells := 0, slots := 0, locals := 0 }
set_option maxHeartbeats 4000000 in
set_option maxRecDepth 100000 in
theorem c_X10_has (l : Launch) (G : GG) (z : Nat) (ad : Nat → Nat) (M : Mem) {th : Nat} {ln : Nat} {on : Nat} {ao : Nat} {vr : Nat} {sn : Nat} {tp : Nat} {pt : Nat} {zs : Nat} {bg : Nat} {fa : Int32} {n : Nat} {kd : Nat → Nat} {fm : Nat → Int32} {to : Nat → Int32} {sz : Nat → Nat} {rl : Nat → Nat → Nat} {en : Nat → Nat → Nat} {mk : Nat → Nat} {mf : Nat → Int32} {mu : Nat → Int32} {mz : Nat → Nat} {rr : Nat → Nat} {ee : Nat → Nat} {lst : Nat → Nat} {q : Nat} {x : Nat} {t : Nat} (h60 : M 60 = some (cModel ad th ln on ao vr sn tp pt zs bg fa)) (h68 : M 68 = some (aI G 121 (nF mz))) (h69 : M 69 = some (aI G 726 (nF rr))) (h70 : M 70 = some (aI G 726 (nF ee))) (h71 : M 71 = some (aI G 40 (nF lst))) (hw : LSw n kd sz rl en) (hmr : MRel n kd fm to sz rl en mk mf mu mz rr ee) (hq : q < n) (hx6 : x < 6) (ht : t < 40) (hlst : ∀ u, u < 40 → lst u < 40) : Met l yX10_has wsX10_has rm_c_X10_has (Pr G z ad M [.ref (ad 60), .int (nI q), .int (nI x), .int (nI t)]) (vp_Si (fun r : Int32 => r = bI (hsT (rl q) (thE (en q)) lst x (sz q) (lst t)))) 0 0 (fun _ => False) := by
  refine Met.ofW (cc := cX10_has) (maxL := 6) (ret := (some .boolean)) (by decide) rfl ?_
  intro p e s m args below meth c s₁ B hml hv
  obtain ⟨rfl, hv⟩ := hv
  have hI := Iv.entry hv
  have hx := B.exec
  have hb := B.bytes
  have hr := B.returns
  have hts := atoms_spec (ws := wsX10_has) B.pre
  have hown : s.vm.findClass RX10 = some m.cls := findClass_of_methodNamed B.named
  have hlocks := B.notSynchronized
  have i_RX10 : ∀ w ∈ u_ws RX10 TX10 38, w ∈ wsX10_has := fun w h => List.mem_cons_of_mem _ (iu_X10 w h)
  have f_36 := hts _ (List.mem_cons_of_mem _ (lwg_of t_1021 rfl))
  have f_39 := hts _ (List.mem_cons_of_mem _ (lwg_of t_1022 rfl))
  have f_42 := hts _ (List.mem_cons_of_mem _ (lwg_of t_1023 rfl))
  have f_45 := hts _ (List.mem_cons_of_mem _ (lwg_of t_1025 rfl))
  have hl := lv_entry ([.ref (ad 60), .int (nI q), .int (nI x), .int (nI t)]) (n := 6) (Nat.le_of_ble_eq_true rfl)
  rw [lg_entry_eq]
  generalize (lg_sl ([.ref (ad 60), .int (nI q), .int (nI x), .int (nI t)]) ++ List.replicate (6 - (lg_sl ([.ref (ad 60), .int (nI q), .int (nI x), .int (nI t)])).length) Slot.unset).toArray = ls at hl ⊢
  have hl : lv_has ls 6 [(0, .ref (ad 60)), (1, .int (nI q)), (2, .int (nI x)), (3, .int (nI t))] := hl
  refine w_q (fun Q hQ => ?_)
  have hw1 := hw.1
  obtain ⟨hk6, hs6, hje⟩ := hw.2 q hq
  obtain ⟨hmk, hmf, hmt, hmz, hmj⟩ := hmr q hq
  have hlt := hlst t ht
  refine lv_iconst (v := nI 0) hx hb dX10_has_0 (by decide) ?_
  refine n_eq (show _ = bI false from rfl) ?_
  refine lv_istore (lv' := [(4, .int (bI false)), (0, .ref (ad 60)), (1, .int (nI q)), (2, .int (nI x)), (3, .int (nI t))]) hx hb dX10_has_1 hl (by decide) rfl (fun ls hl => ?_)
  refine lv_bipush (v := nI 6) hx hb dX10_has_3 (by decide) ?_
  refine lv_iload_n hx hb dX10_has_5 rfl (lv_at hl 2 rfl) ?_
  refine lv_imul hx hb dX10_has_6 ?_
  refine n_eq (pk_mul 6 q) ?_
  refine lv_istore (lv' := [(5, .int (nI (6 * q))), (4, .int (bI false)), (0, .ref (ad 60)), (1, .int (nI q)), (2, .int (nI x)), (3, .int (nI t))]) hx hb dX10_has_7 hl (by decide) rfl (fun ls hl => ?_)
  have lp9_1 : ∀ (fuel : Nat) (j : Nat) (b : Bool) (ls : Array Slot), (sz q - j) < fuel → (j ≤ sz q) → (b = hsT (rl q) (thE (en q)) lst x j (lst t)) → lv_has ls 6 [(0, .ref (ad 60)), (1, .int (nI q)), (2, .int (nI x)), (3, .int (nI t)), (4, .int (bI b)), (5, .int (nI (6 * q + j)))] → W p l e (headSpec wsX10_has rm_c_X10_has).room s m ([.ref (ad 60), .int (nI q), .int (nI x), .int (nI t)] : List Value).toArray below meth c s.heap [] 0 0 Q (F0 m 9 ls []) := by
    intro fuel
    induction fuel with
    | zero => intro j b ls hfu hj hb9 hl; exact absurd hfu (Nat.not_lt_zero _)
    | succ fuel ih_2 =>
      intro j b ls hfu hj hb9 hl
      refine lv_iload hx hb dX10_has_9 (lv_at hl 5 rfl) ?_
      refine lv_bipush (v := nI 6) hx hb dX10_has_11 (by decide) ?_
      refine lv_iload_n hx hb dX10_has_13 rfl (lv_at hl 1 rfl) ?_
      refine lv_imul hx hb dX10_has_14 ?_
      refine n_eq (pk_mul 6 q) ?_
      refine lv_aload_n hx hb dX10_has_15 rfl (lv_at hl 0 rfl) ?_
      refine h_get (C := RX10) (T := TX10) (N := 38) hx hb hts i_RX10 hown hI h60 rfl 8 (by decide) f_36 rfl rfl dX10_has_16 ?_
      refine lv_iload_n hx hb dX10_has_19 rfl (lv_at hl 1 rfl) ?_
      refine h_iald (i := q) hx hb hI h68 (by omega) (by decide) dX10_has_20 ?_
      refine n_eq (show _ = nI (sz q) from congrArg nI hmz) ?_
      refine lv_iadd hx hb dX10_has_21 ?_
      refine n_eq (nI_add (6 * q) (sz q)) ?_
      refine lv_icmp_ge (tgt := 87) hx hb dX10_has_22 (by decide) (fun c_3 => ?_) (fun c_3 => ?_)
      · -- 22: nI (6 * q + j) ge
        have c_3 : (6 * q) + (sz q) ≤ 6 * q + j := (nI_leI (a := (6 * q) + (sz q)) (b := 6 * q + j) (by omega) (by omega)).mp (c_3)
        refine lv_iload hx hb dX10_has_87 (lv_at hl 4 rfl) ?_
        subst hQ
        exact e_Ri hx hb hr (bI_nar _) hlocks (by rw [hb9, show j = sz q by omega]) dX10_has_89
      · -- 22: nI (6 * q + j) lt
        have c_3 : 6 * q + j < (6 * q) + (sz q) := by have h := mt (nI_leI (a := (6 * q) + (sz q)) (b := 6 * q + j) (by omega) (by omega)).mpr c_3; omega
        obtain ⟨hrj, hej⟩ := hmj j (by omega)
        obtain ⟨hr6, he4⟩ := hje j (by omega)
        refine lv_iload hx hb dX10_has_25 (lv_at hl 4 rfl) ?_
        refine lv_if_ne (tgt := 74) hx hb dX10_has_27 (by decide) (fun c_4 => ?_) (fun c_4 => ?_)
        · -- 27: bI b ne
          have c_4 : b = true := bI_t (c_4)
          refine lv_iconst (v := nI 1) hx hb dX10_has_74 (by decide) ?_
          refine n_eq (show _ = bI true from rfl) ?_
          refine lv_goto (tgt := 79) hx hb dX10_has_75 (by decide) ?_
          refine lv_istore (lv' := [(4, .int (bI true)), (0, .ref (ad 60)), (1, .int (nI q)), (2, .int (nI x)), (3, .int (nI t)), (5, .int (nI (6 * q + j)))]) hx hb dX10_has_79 hl (by decide) rfl (fun ls hl => ?_)
          refine lv_iinc (v := nI (6 * q + j + 1)) (lv' := [(5, .int (nI (6 * q + j + 1))), (4, .int (bI true)), (0, .ref (ad 60)), (1, .int (nI q)), (2, .int (nI x)), (3, .int (nI t))]) hx hb dX10_has_81 hl (k := 5) rfl (nI_add (6 * q + j) 1) (by decide) rfl (fun ls hl => ?_)
          refine lv_goto (tgt := 9) hx hb dX10_has_84 (by decide) ?_
          exact ih_2 (j + 1) true ls (by omega) (by omega) (hsT_old (by rw [← hb9]; assumption)) (lv_sub hl [2, 3, 4, 5, 1, 0] rfl)
        · -- 27: bI b eq
          have c_4 : b = false := bI_f (c_4)
          refine lv_aload_n hx hb dX10_has_30 rfl (lv_at hl 0 rfl) ?_
          refine h_get (C := RX10) (T := TX10) (N := 38) hx hb hts i_RX10 hown hI h60 rfl 9 (by decide) f_39 rfl rfl dX10_has_31 ?_
          refine lv_iload hx hb dX10_has_34 (lv_at hl 5 rfl) ?_
          refine h_iald (i := 6 * q + j) hx hb hI h69 (by omega) (by decide) dX10_has_36 ?_
          refine n_eq (show _ = nI (rl q j) from congrArg nI hrj) ?_
          refine lv_iload_n hx hb dX10_has_37 rfl (lv_at hl 2 rfl) ?_
          refine lv_icmp_ne (tgt := 78) hx hb dX10_has_38 (by decide) (fun c_5 => ?_) (fun c_5 => ?_)
          · -- 38: nI (rl q j) ne
            have c_5 : rl q j ≠ x := by have h := mt (nI_eq (a := rl q j) (b := x) (by omega) (by omega)).mpr c_5; omega
            refine lv_iconst (v := nI 0) hx hb dX10_has_78 (by decide) ?_
            refine n_eq (show _ = bI false from rfl) ?_
            refine lv_istore (lv' := [(4, .int (bI false)), (0, .ref (ad 60)), (1, .int (nI q)), (2, .int (nI x)), (3, .int (nI t)), (5, .int (nI (6 * q + j)))]) hx hb dX10_has_79 hl (by decide) rfl (fun ls hl => ?_)
            refine lv_iinc (v := nI (6 * q + j + 1)) (lv' := [(5, .int (nI (6 * q + j + 1))), (4, .int (bI false)), (0, .ref (ad 60)), (1, .int (nI q)), (2, .int (nI x)), (3, .int (nI t))]) hx hb dX10_has_81 hl (k := 5) rfl (nI_add (6 * q + j) 1) (by decide) rfl (fun ls hl => ?_)
            refine lv_goto (tgt := 9) hx hb dX10_has_84 (by decide) ?_
            exact ih_2 (j + 1) false ls (by omega) (by omega) (hsT_no1 (by rw [← hb9]; assumption) (by assumption)) (lv_sub hl [2, 3, 4, 5, 1, 0] rfl)
          · -- 38: nI (rl q j) eq
            have c_5 : rl q j = x := (nI_eq (a := rl q j) (b := x) (by omega) (by omega)).mp (c_5)
            refine lv_aload_n hx hb dX10_has_41 rfl (lv_at hl 0 rfl) ?_
            refine h_get (C := RX10) (T := TX10) (N := 38) hx hb hts i_RX10 hown hI h60 rfl 10 (by decide) f_42 rfl rfl dX10_has_42 ?_
            refine lv_iload hx hb dX10_has_45 (lv_at hl 5 rfl) ?_
            refine h_iald (i := 6 * q + j) hx hb hI h70 (by omega) (by decide) dX10_has_47 ?_
            refine n_eq (show _ = nI (en q j) from congrArg nI hej) ?_
            refine lv_bipush (v := nI 40) hx hb dX10_has_48 (by decide) ?_
            refine lv_icmp_ge (tgt := 78) hx hb dX10_has_50 (by decide) (fun c_6 => ?_) (fun c_6 => ?_)
            · -- 50: nI (en q j) ge
              have c_6 : 40 ≤ en q j := (nI_leI (a := 40) (b := en q j) (by omega) (by omega)).mp (c_6)
              refine lv_iconst (v := nI 0) hx hb dX10_has_78 (by decide) ?_
              refine n_eq (show _ = bI false from rfl) ?_
              refine lv_istore (lv' := [(4, .int (bI false)), (0, .ref (ad 60)), (1, .int (nI q)), (2, .int (nI x)), (3, .int (nI t)), (5, .int (nI (6 * q + j)))]) hx hb dX10_has_79 hl (by decide) rfl (fun ls hl => ?_)
              refine lv_iinc (v := nI (6 * q + j + 1)) (lv' := [(5, .int (nI (6 * q + j + 1))), (4, .int (bI false)), (0, .ref (ad 60)), (1, .int (nI q)), (2, .int (nI x)), (3, .int (nI t))]) hx hb dX10_has_81 hl (k := 5) rfl (nI_add (6 * q + j) 1) (by decide) rfl (fun ls hl => ?_)
              refine lv_goto (tgt := 9) hx hb dX10_has_84 (by decide) ?_
              exact ih_2 (j + 1) false ls (by omega) (by omega) (hsT_no2 (by rw [← hb9]; assumption) (by assumption) (by omega)) (lv_sub hl [2, 3, 4, 5, 1, 0] rfl)
            · -- 50: nI (en q j) lt
              have c_6 : en q j < 40 := by have h := mt (nI_leI (a := 40) (b := en q j) (by omega) (by omega)).mpr c_6; omega
              have hle := hlst (en q j) (by omega)
              refine lv_aload_n hx hb dX10_has_53 rfl (lv_at hl 0 rfl) ?_
              refine h_get (C := RX10) (T := TX10) (N := 38) hx hb hts i_RX10 hown hI h60 rfl 12 (by decide) f_45 rfl rfl dX10_has_54 ?_
              refine lv_aload_n hx hb dX10_has_57 rfl (lv_at hl 0 rfl) ?_
              refine h_get (C := RX10) (T := TX10) (N := 38) hx hb hts i_RX10 hown hI h60 rfl 10 (by decide) f_42 rfl rfl dX10_has_58 ?_
              refine lv_iload hx hb dX10_has_61 (lv_at hl 5 rfl) ?_
              refine h_iald (i := 6 * q + j) hx hb hI h70 (by omega) (by decide) dX10_has_63 ?_
              refine n_eq (show _ = nI (en q j) from congrArg nI hej) ?_
              refine h_iald (i := en q j) hx hb hI h71 (by omega) (by decide) dX10_has_64 ?_
              refine lv_aload_n hx hb dX10_has_65 rfl (lv_at hl 0 rfl) ?_
              refine h_get (C := RX10) (T := TX10) (N := 38) hx hb hts i_RX10 hown hI h60 rfl 12 (by decide) f_45 rfl rfl dX10_has_66 ?_
              refine lv_iload_n hx hb dX10_has_69 rfl (lv_at hl 3 rfl) ?_
              refine h_iald (i := t) hx hb hI h71 (by omega) (by decide) dX10_has_70 ?_
              refine lv_icmp_ne (tgt := 78) hx hb dX10_has_71 (by decide) (fun c_7 => ?_) (fun c_7 => ?_)
              · -- 71: nI (lst (en q j)) ne
                have c_7 : lst (en q j) ≠ lst t := by have h := mt (nI_eq (a := lst (en q j)) (b := lst t) (by omega) (by omega)).mpr c_7; omega
                refine lv_iconst (v := nI 0) hx hb dX10_has_78 (by decide) ?_
                refine n_eq (show _ = bI false from rfl) ?_
                refine lv_istore (lv' := [(4, .int (bI false)), (0, .ref (ad 60)), (1, .int (nI q)), (2, .int (nI x)), (3, .int (nI t)), (5, .int (nI (6 * q + j)))]) hx hb dX10_has_79 hl (by decide) rfl (fun ls hl => ?_)
                refine lv_iinc (v := nI (6 * q + j + 1)) (lv' := [(5, .int (nI (6 * q + j + 1))), (4, .int (bI false)), (0, .ref (ad 60)), (1, .int (nI q)), (2, .int (nI x)), (3, .int (nI t))]) hx hb dX10_has_81 hl (k := 5) rfl (nI_add (6 * q + j) 1) (by decide) rfl (fun ls hl => ?_)
                refine lv_goto (tgt := 9) hx hb dX10_has_84 (by decide) ?_
                exact ih_2 (j + 1) false ls (by omega) (by omega) (hsT_no3 (by rw [← hb9]; assumption) (by assumption) (by assumption)) (lv_sub hl [2, 3, 4, 5, 1, 0] rfl)
              · -- 71: nI (lst (en q j)) eq
                have c_7 : lst (en q j) = lst t := (nI_eq (a := lst (en q j)) (b := lst t) (by omega) (by omega)).mp (c_7)
                refine lv_iconst (v := nI 1) hx hb dX10_has_74 (by decide) ?_
                refine n_eq (show _ = bI true from rfl) ?_
                refine lv_goto (tgt := 79) hx hb dX10_has_75 (by decide) ?_
                refine lv_istore (lv' := [(4, .int (bI true)), (0, .ref (ad 60)), (1, .int (nI q)), (2, .int (nI x)), (3, .int (nI t)), (5, .int (nI (6 * q + j)))]) hx hb dX10_has_79 hl (by decide) rfl (fun ls hl => ?_)
                refine lv_iinc (v := nI (6 * q + j + 1)) (lv' := [(5, .int (nI (6 * q + j + 1))), (4, .int (bI true)), (0, .ref (ad 60)), (1, .int (nI q)), (2, .int (nI x)), (3, .int (nI t))]) hx hb dX10_has_81 hl (k := 5) rfl (nI_add (6 * q + j) 1) (by decide) rfl (fun ls hl => ?_)
                refine lv_goto (tgt := 9) hx hb dX10_has_84 (by decide) ?_
                exact ih_2 (j + 1) true ls (by omega) (by omega) (hsT_yes (by assumption) (by assumption) (by assumption)) (lv_sub hl [2, 3, 4, 5, 1, 0] rfl)
  exact lp9_1 ((sz q - 0) + 1) 0 false ls (Nat.lt_succ_self _) (by omega) (rfl) (lv_sub hl [2, 3, 4, 5, 1, 0] rfl)

/-- X10_isOn -/
abbrev rm_c_X10_isOn : Room := { frames := 1, cells := 0, slots := 0, locals := 22 }
set_option maxHeartbeats 4000000 in
set_option maxRecDepth 100000 in
theorem c_X10_isOn (l : Launch) (G : GG) (z : Nat) (ad : Nat → Nat) (M : Mem) {th : Nat} {ln : Nat} {on : Nat} {ao : Nat} {vr : Nat} {sn : Nat} {tp : Nat} {pt : Nat} {zs : Nat} {bg : Nat} {fa : Int32} {n : Nat} {kd : Nat → Nat} {fm : Nat → Int32} {to : Nat → Int32} {sz : Nat → Nat} {rl : Nat → Nat → Nat} {en : Nat → Nat → Nat} {mk : Nat → Nat} {mf : Nat → Int32} {mu : Nat → Int32} {mz : Nat → Nat} {rr : Nat → Nat} {ee : Nat → Nat} {q : Nat} {d : Int32} (h60 : M 60 = some (cModel ad th ln on ao vr sn tp pt zs bg fa)) (h66 : M 66 = some (aI G 120 mf)) (h67 : M 67 = some (aI G 120 mu)) (hw : LSw n kd sz rl en) (hmr : MRel n kd fm to sz rl en mk mf mu mz rr ee) (hq : q < n) : Met l yX10_isOn wsX10_isOn rm_c_X10_isOn (Pr G z ad M [.ref (ad 60), .int (nI q), .int d]) (vp_Si (fun r : Int32 => r = bI (decide (fm q ≤ d ∧ d ≤ to q)))) 0 0 (fun _ => False) := by
  refine Met.ofW (cc := cX10_isOn) (maxL := 3) (ret := (some .boolean)) (by decide) rfl ?_
  intro p e s m args below meth c s₁ B hml hv
  obtain ⟨rfl, hv⟩ := hv
  have hI := Iv.entry hv
  have hx := B.exec
  have hb := B.bytes
  have hr := B.returns
  have hts := atoms_spec (ws := wsX10_isOn) B.pre
  have hown : s.vm.findClass RX10 = some m.cls := findClass_of_methodNamed B.named
  have hlocks := B.notSynchronized
  have i_RX10 : ∀ w ∈ u_ws RX10 TX10 38, w ∈ wsX10_isOn := fun w h => List.mem_cons_of_mem _ (iu_X10 w h)
  have f_30 := hts _ (List.mem_cons_of_mem _ (lwg_of t_1019 rfl))
  have f_33 := hts _ (List.mem_cons_of_mem _ (lwg_of t_1020 rfl))
  have hl := lv_entry ([.ref (ad 60), .int (nI q), .int d]) (n := 3) (Nat.le_of_ble_eq_true rfl)
  rw [lg_entry_eq]
  generalize (lg_sl ([.ref (ad 60), .int (nI q), .int d]) ++ List.replicate (3 - (lg_sl ([.ref (ad 60), .int (nI q), .int d])).length) Slot.unset).toArray = ls at hl ⊢
  have hl : lv_has ls 3 [(0, .ref (ad 60)), (1, .int (nI q)), (2, .int d)] := hl
  have hw1 := hw.1
  obtain ⟨hk6, hs6, hje⟩ := hw.2 q hq
  obtain ⟨hmk, hmf, hmt, hmz, hmj⟩ := hmr q hq
  refine lv_iload_n hx hb dX10_isOn_0 rfl (lv_at hl 2 rfl) ?_
  refine lv_aload_n hx hb dX10_isOn_1 rfl (lv_at hl 0 rfl) ?_
  refine h_get (C := RX10) (T := TX10) (N := 38) hx hb hts i_RX10 hown hI h60 rfl 6 (by decide) f_30 rfl rfl dX10_isOn_2 ?_
  refine lv_iload_n hx hb dX10_isOn_5 rfl (lv_at hl 1 rfl) ?_
  refine h_iald (i := q) hx hb hI h66 (by omega) (by decide) dX10_isOn_6 ?_
  refine n_eq (show _ = fm q from hmf) ?_
  refine lv_aload_n hx hb dX10_isOn_7 rfl (lv_at hl 0 rfl) ?_
  refine h_get (C := RX10) (T := TX10) (N := 38) hx hb hts i_RX10 hown hI h60 rfl 7 (by decide) f_33 rfl rfl dX10_isOn_8 ?_
  refine lv_iload_n hx hb dX10_isOn_11 rfl (lv_at hl 1 rfl) ?_
  refine h_iald (i := q) hx hb hI h67 (by omega) (by decide) dX10_isOn_12 ?_
  refine n_eq (show _ = to q from hmt) ?_
  refine k_Ri (va_runS (As := [.int d, .int (fm q), .int (to q)]) (rest := []) ⟨hx, hb, hml, hown, hts⟩ (c_X10_in l G z ad M (x := d) (a := fm q) (b := to q) ) (va_cwS 3 hts (gS (lwg_of t_1135 rfl) (lwg_of t_1136 rfl) (lwg_of t_13 rfl) (lwg_of t_1137 rfl)) rfl rfl rfl (by decide +kernel) ⟨Nat.le_of_ble_eq_true rfl, Nat.le_of_ble_eq_true rfl⟩) hI.preS rfl rfl hl.1 rfl (lv_room (Nat.le_of_ble_eq_true rfl)) dX10_isOn_13 ⟨Nat.le_of_ble_eq_true rfl, Nat.le_of_ble_eq_true rfl⟩) (fun _ h => h) (fun r_1 hp_2 => ?_)
  rw [hp_2]
  exact e_Ri hx hb hr (bI_nar _) hlocks (rfl) dX10_isOn_16

section WZ
variable {kd : Nat → Nat} {fm to : Nat → Int32} {sz : Nat → Nat} {rl en : Nat → Nat → Nat} {lst : Nat → Nat} {t q x : Nat} {d : Int32} {l : Nat}
theorem wth_x (h : hsT (rl l) (thE (en l)) lst x (sz l) t = false) : wth kd fm to sz rl en lst t q x d l = false := by simp only [wth, h, Bool.and_false]
theorem wth_z (h1 : kd l = q) (h2 : decide (fm l ≤ d ∧ d ≤ to l) = true) (h : hsT (rl l) (thE (en l)) lst x (sz l) t = true) : wth kd fm to sz rl en lst t q x d l = true := by simp only [wth, h, h1, h2, decide_true, Bool.and_true]
end WZ

/-- X10_degreeOf -/
abbrev rm_c_X10_degreeOf : Room := { frames := 2, cells := 0, slots := 0, locals := 44 }
set_option maxHeartbeats 4000000 in
set_option maxRecDepth 100000 in
theorem c_X10_degreeOf (l : Launch) (G : GG) (z : Nat) (ad : Nat → Nat) (M : Mem) {th : Nat} {ln : Nat} {on : Nat} {ao : Nat} {vr : Nat} {sn : Nat} {tp : Nat} {pt : Nat} {zs : Nat} {bg : Nat} {fa : Int32} {n : Nat} {kd : Nat → Nat} {fm : Nat → Int32} {to : Nat → Int32} {sz : Nat → Nat} {rl : Nat → Nat → Nat} {en : Nat → Nat → Nat} {mk : Nat → Nat} {mf : Nat → Int32} {mu : Nat → Int32} {mz : Nat → Nat} {rr : Nat → Nat} {ee : Nat → Nat} {lst : Nat → Nat} {t : Nat} {y : Nat} {x : Nat} {d : Int32} (h60 : M 60 = some (cModel ad th ln on ao vr sn tp pt zs bg fa)) (h65 : M 65 = some (aI G 120 (nF mk))) (h66 : M 66 = some (aI G 120 mf)) (h67 : M 67 = some (aI G 120 mu)) (h68 : M 68 = some (aI G 121 (nF mz))) (h69 : M 69 = some (aI G 726 (nF rr))) (h70 : M 70 = some (aI G 726 (nF ee))) (h71 : M 71 = some (aI G 40 (nF lst))) (hw : LSw n kd sz rl en) (hmr : MRel n kd fm to sz rl en mk mf mu mz rr ee) (hln : ln = n) (ht : t < 40) (hy : y < 6) (hx6 : x < 6) (hlst : ∀ u, u < 40 → lst u < 40) : Met l yX10_degreeOf wsX10_degreeOf rm_c_X10_degreeOf (Pr G z ad M [.ref (ad 60), .int (nI t), .int (nI y), .int (nI x), .int d]) (vp_Si (fun r : Int32 => r = nI (cntB (wth kd fm to sz rl en lst (lst t) y x d) n))) 0 0 (fun _ => False) := by
  refine Met.ofW (cc := cX10_degreeOf) (maxL := 7) (ret := (some .int)) (by decide) rfl ?_
  intro p e s m args below meth c s₁ B hml hv
  obtain ⟨rfl, hv⟩ := hv
  have hI := Iv.entry hv
  have hx := B.exec
  have hb := B.bytes
  have hr := B.returns
  have hts := atoms_spec (ws := wsX10_degreeOf) B.pre
  have hown : s.vm.findClass RX10 = some m.cls := findClass_of_methodNamed B.named
  have hlocks := B.notSynchronized
  have i_RX10 : ∀ w ∈ u_ws RX10 TX10 38, w ∈ wsX10_degreeOf := fun w h => List.mem_cons_of_mem _ (iu_X10 w h)
  have f_108 := hts _ (List.mem_cons_of_mem _ (lwg_of t_1024 rfl))
  have f_27 := hts _ (List.mem_cons_of_mem _ (lwg_of t_1018 rfl))
  have hl := lv_entry ([.ref (ad 60), .int (nI t), .int (nI y), .int (nI x), .int d]) (n := 7) (Nat.le_of_ble_eq_true rfl)
  rw [lg_entry_eq]
  generalize (lg_sl ([.ref (ad 60), .int (nI t), .int (nI y), .int (nI x), .int d]) ++ List.replicate (7 - (lg_sl ([.ref (ad 60), .int (nI t), .int (nI y), .int (nI x), .int d])).length) Slot.unset).toArray = ls at hl ⊢
  have hl : lv_has ls 7 [(0, .ref (ad 60)), (1, .int (nI t)), (2, .int (nI y)), (3, .int (nI x)), (4, .int d)] := hl
  refine w_q (fun Q hQ => ?_)
  have hw1 := hw.1
  refine lv_iconst (v := nI 0) hx hb dX10_degreeOf_0 (by decide) ?_
  refine lv_istore (lv' := [(5, .int (nI 0)), (0, .ref (ad 60)), (1, .int (nI t)), (2, .int (nI y)), (3, .int (nI x)), (4, .int d)]) hx hb dX10_degreeOf_1 hl (by decide) rfl (fun ls hl => ?_)
  refine lv_iconst (v := nI 0) hx hb dX10_degreeOf_3 (by decide) ?_
  refine lv_istore (lv' := [(6, .int (nI 0)), (5, .int (nI 0)), (0, .ref (ad 60)), (1, .int (nI t)), (2, .int (nI y)), (3, .int (nI x)), (4, .int d)]) hx hb dX10_degreeOf_4 hl (by decide) rfl (fun ls hl => ?_)
  have lp6_1 : ∀ (fuel : Nat) (i : Nat) (cn : Nat) (ls : Array Slot), (n - i) < fuel → (i ≤ n) → (cn = cntB (wth kd fm to sz rl en lst (lst t) y x d) i) → lv_has ls 7 [(0, .ref (ad 60)), (1, .int (nI t)), (2, .int (nI y)), (3, .int (nI x)), (4, .int d), (5, .int (nI cn)), (6, .int (nI i))] → W p l e (headSpec wsX10_degreeOf rm_c_X10_degreeOf).room s m ([.ref (ad 60), .int (nI t), .int (nI y), .int (nI x), .int d] : List Value).toArray below meth c s.heap [] 0 0 Q (F0 m 6 ls []) := by
    intro fuel
    induction fuel with
    | zero => intro i cn ls hfu hi hcn hl; exact absurd hfu (Nat.not_lt_zero _)
    | succ fuel ih_2 =>
      intro i cn ls hfu hi hcn hl
      have hw1 := hw.1
      refine lv_iload hx hb dX10_degreeOf_6 (lv_at hl 6 rfl) ?_
      refine lv_aload_n hx hb dX10_degreeOf_8 rfl (lv_at hl 0 rfl) ?_
      refine h_get (C := RX10) (T := TX10) (N := 38) hx hb hts i_RX10 hown hI h60 rfl 11 (by decide) f_108 rfl rfl dX10_degreeOf_9 ?_
      refine lv_icmp_ge (tgt := 64) hx hb dX10_degreeOf_12 (by decide) (fun c_3 => ?_) (fun c_3 => ?_)
      · -- 12: nI i ge
        have c_3 : ln ≤ i := (nI_leI (a := ln) (b := i) (by omega) (by omega)).mp (c_3)
        refine lv_iload hx hb dX10_degreeOf_64 (lv_at hl 5 rfl) ?_
        subst hQ
        exact e_Ri hx hb hr rfl hlocks (by rw [hcn, show n = i by omega]) dX10_degreeOf_66
      · -- 12: nI i lt
        have c_3 : i < ln := by have h := mt (nI_leI (a := ln) (b := i) (by omega) (by omega)).mpr c_3; omega
        obtain ⟨hmk, hmf, hmt, hmz, hmj⟩ := hmr i (by omega)
        obtain ⟨hk6, hs6, hje⟩ := hw.2 i (by omega)
        refine lv_iload hx hb dX10_degreeOf_15 (lv_at hl 5 rfl) ?_
        refine lv_aload_n hx hb dX10_degreeOf_17 rfl (lv_at hl 0 rfl) ?_
        refine h_get (C := RX10) (T := TX10) (N := 38) hx hb hts i_RX10 hown hI h60 rfl 5 (by decide) f_27 rfl rfl dX10_degreeOf_18 ?_
        refine lv_iload hx hb dX10_degreeOf_21 (lv_at hl 6 rfl) ?_
        refine h_iald (i := i) hx hb hI h65 (by omega) (by decide) dX10_degreeOf_23 ?_
        refine n_eq (show _ = nI (kd i) from congrArg nI hmk) ?_
        refine lv_iload_n hx hb dX10_degreeOf_24 rfl (lv_at hl 2 rfl) ?_
        refine lv_icmp_ne (tgt := 54) hx hb dX10_degreeOf_25 (by decide) (fun c_4 => ?_) (fun c_4 => ?_)
        · -- 25: nI (kd i) ne
          have c_4 : kd i ≠ y := by have h := mt (nI_eq (a := kd i) (b := y) (by omega) (by omega)).mpr c_4; omega
          refine lv_iconst (v := nI 0) hx hb dX10_degreeOf_54 (by decide) ?_
          refine lv_iadd hx hb dX10_degreeOf_55 ?_
          refine n_eq (nI_add cn 0) ?_
          refine lv_istore (lv' := [(5, .int (nI (cn + 0))), (0, .ref (ad 60)), (1, .int (nI t)), (2, .int (nI y)), (3, .int (nI x)), (4, .int d), (6, .int (nI i))]) hx hb dX10_degreeOf_56 hl (by decide) rfl (fun ls hl => ?_)
          refine lv_iinc (v := nI (i + 1)) (lv' := [(6, .int (nI (i + 1))), (5, .int (nI (cn + 0))), (0, .ref (ad 60)), (1, .int (nI t)), (2, .int (nI y)), (3, .int (nI x)), (4, .int d)]) hx hb dX10_degreeOf_58 hl (k := 6) rfl (nI_add i 1) (by decide) rfl (fun ls hl => ?_)
          refine lv_goto (tgt := 6) hx hb dX10_degreeOf_61 (by decide) ?_
          exact ih_2 (i + 1) (cn + 0) ls (by omega) (by omega) (by rw [cntB_f (wth_n1 (by assumption)), hcn]; rfl) (lv_sub hl [2, 3, 4, 5, 6, 1, 0] rfl)
        · -- 25: nI (kd i) eq
          have c_4 : kd i = y := (nI_eq (a := kd i) (b := y) (by omega) (by omega)).mp (c_4)
          refine lv_aload_n hx hb dX10_degreeOf_28 rfl (lv_at hl 0 rfl) ?_
          refine lv_iload hx hb dX10_degreeOf_29 (lv_at hl 6 rfl) ?_
          refine lv_iload hx hb dX10_degreeOf_31 (lv_at hl 4 rfl) ?_
          refine k_Ri (va_runV (As := [.int (nI i), .int d]) (rest := [.int (nI cn)]) ⟨hx, hb, hml, hown, hts⟩ (c_X10_isOn l G z ad M (th := th) (ln := ln) (on := on) (ao := ao) (vr := vr) (sn := sn) (tp := tp) (pt := pt) (zs := zs) (bg := bg) (fa := fa) (n := n) (kd := kd) (fm := fm) (to := to) (sz := sz) (rl := rl) (en := en) (mk := mk) (mf := mf) (mu := mu) (mz := mz) (rr := rr) (ee := ee) (q := i) (d := d) h60 h66 h67 hw hmr (by omega)) (cwV 2 hts (gV (lwg_of t_1176 rfl) (lwg_of t_1178 rfl) (lwg_of ts_27 rfl) (lwg_of t_13 rfl) (lwg_of t_1179 rfl)) rfl rfl rfl (by decide +kernel) ⟨Nat.le_of_ble_eq_true rfl, Nat.le_of_ble_eq_true rfl⟩) (hI.preV h60 rfl) rfl rfl hl.1 rfl (lv_room (Nat.le_of_ble_eq_true rfl)) dX10_degreeOf_33 ⟨Nat.le_of_ble_eq_true rfl, Nat.le_of_ble_eq_true rfl⟩) (fun _ h => h) (fun r_5 hp_6 => ?_)
          rw [hp_6]
          refine lv_if_eq (tgt := 54) hx hb dX10_degreeOf_36 (by decide) (fun c_7 => ?_) (fun c_7 => ?_)
          · -- 36: bI (decide (fm i ≤ d ∧ d ≤ to i)) eq
            have c_7 : decide (fm i ≤ d ∧ d ≤ to i) = false := bI_f (c_7)
            refine lv_iconst (v := nI 0) hx hb dX10_degreeOf_54 (by decide) ?_
            refine lv_iadd hx hb dX10_degreeOf_55 ?_
            refine n_eq (nI_add cn 0) ?_
            refine lv_istore (lv' := [(5, .int (nI (cn + 0))), (0, .ref (ad 60)), (1, .int (nI t)), (2, .int (nI y)), (3, .int (nI x)), (4, .int d), (6, .int (nI i))]) hx hb dX10_degreeOf_56 hl (by decide) rfl (fun ls hl => ?_)
            refine lv_iinc (v := nI (i + 1)) (lv' := [(6, .int (nI (i + 1))), (5, .int (nI (cn + 0))), (0, .ref (ad 60)), (1, .int (nI t)), (2, .int (nI y)), (3, .int (nI x)), (4, .int d)]) hx hb dX10_degreeOf_58 hl (k := 6) rfl (nI_add i 1) (by decide) rfl (fun ls hl => ?_)
            refine lv_goto (tgt := 6) hx hb dX10_degreeOf_61 (by decide) ?_
            exact ih_2 (i + 1) (cn + 0) ls (by omega) (by omega) (by rw [cntB_f (wth_n2 (by assumption)), hcn]; rfl) (lv_sub hl [2, 3, 4, 5, 6, 1, 0] rfl)
          · -- 36: bI (decide (fm i ≤ d ∧ d ≤ to i)) ne
            have c_7 : decide (fm i ≤ d ∧ d ≤ to i) = true := bI_t (c_7)
            refine lv_aload_n hx hb dX10_degreeOf_39 rfl (lv_at hl 0 rfl) ?_
            refine lv_iload hx hb dX10_degreeOf_40 (lv_at hl 6 rfl) ?_
            refine lv_iload_n hx hb dX10_degreeOf_42 rfl (lv_at hl 3 rfl) ?_
            refine lv_iload_n hx hb dX10_degreeOf_43 rfl (lv_at hl 1 rfl) ?_
            refine k_Ri (va_runV (As := [.int (nI i), .int (nI x), .int (nI t)]) (rest := [.int (nI cn)]) ⟨hx, hb, hml, hown, hts⟩ (c_X10_has l G z ad M (th := th) (ln := ln) (on := on) (ao := ao) (vr := vr) (sn := sn) (tp := tp) (pt := pt) (zs := zs) (bg := bg) (fa := fa) (n := n) (kd := kd) (fm := fm) (to := to) (sz := sz) (rl := rl) (en := en) (mk := mk) (mf := mf) (mu := mu) (mz := mz) (rr := rr) (ee := ee) (lst := lst) (q := i) (x := x) (t := t) h60 h68 h69 h70 h71 hw hmr (by omega) (by omega) (by omega) hlst) (cwV 3 hts (gV (lwg_of t_1180 rfl) (lwg_of t_1182 rfl) (lwg_of ts_28 rfl) (lwg_of t_13 rfl) (lwg_of t_1183 rfl)) rfl rfl rfl (by decide +kernel) ⟨Nat.le_of_ble_eq_true rfl, Nat.le_of_ble_eq_true rfl⟩) (hI.preV h60 rfl) rfl rfl hl.1 rfl (lv_room (Nat.le_of_ble_eq_true rfl)) dX10_degreeOf_44 ⟨Nat.le_of_ble_eq_true rfl, Nat.le_of_ble_eq_true rfl⟩) (fun _ h => h) (fun r_8 hp_9 => ?_)
            rw [hp_9]
            refine lv_if_eq (tgt := 54) hx hb dX10_degreeOf_47 (by decide) (fun c_10 => ?_) (fun c_10 => ?_)
            · -- 47: bI (hsT (rl i) (thE (en i)) lst x (sz i) (lst t)) eq
              have c_10 : hsT (rl i) (thE (en i)) lst x (sz i) (lst t) = false := bI_f (c_10)
              refine lv_iconst (v := nI 0) hx hb dX10_degreeOf_54 (by decide) ?_
              refine lv_iadd hx hb dX10_degreeOf_55 ?_
              refine n_eq (nI_add cn 0) ?_
              refine lv_istore (lv' := [(5, .int (nI (cn + 0))), (0, .ref (ad 60)), (1, .int (nI t)), (2, .int (nI y)), (3, .int (nI x)), (4, .int d), (6, .int (nI i))]) hx hb dX10_degreeOf_56 hl (by decide) rfl (fun ls hl => ?_)
              refine lv_iinc (v := nI (i + 1)) (lv' := [(6, .int (nI (i + 1))), (5, .int (nI (cn + 0))), (0, .ref (ad 60)), (1, .int (nI t)), (2, .int (nI y)), (3, .int (nI x)), (4, .int d)]) hx hb dX10_degreeOf_58 hl (k := 6) rfl (nI_add i 1) (by decide) rfl (fun ls hl => ?_)
              refine lv_goto (tgt := 6) hx hb dX10_degreeOf_61 (by decide) ?_
              exact ih_2 (i + 1) (cn + 0) ls (by omega) (by omega) (by rw [cntB_f (wth_x (by assumption)), hcn]; rfl) (lv_sub hl [2, 3, 4, 5, 6, 1, 0] rfl)
            · -- 47: bI (hsT (rl i) (thE (en i)) lst x (sz i) (lst t)) ne
              have c_10 : hsT (rl i) (thE (en i)) lst x (sz i) (lst t) = true := bI_t (c_10)
              refine lv_iconst (v := nI 1) hx hb dX10_degreeOf_50 (by decide) ?_
              refine lv_goto (tgt := 55) hx hb dX10_degreeOf_51 (by decide) ?_
              refine lv_iadd hx hb dX10_degreeOf_55 ?_
              refine n_eq (nI_add cn 1) ?_
              refine lv_istore (lv' := [(5, .int (nI (cn + 1))), (0, .ref (ad 60)), (1, .int (nI t)), (2, .int (nI y)), (3, .int (nI x)), (4, .int d), (6, .int (nI i))]) hx hb dX10_degreeOf_56 hl (by decide) rfl (fun ls hl => ?_)
              refine lv_iinc (v := nI (i + 1)) (lv' := [(6, .int (nI (i + 1))), (5, .int (nI (cn + 1))), (0, .ref (ad 60)), (1, .int (nI t)), (2, .int (nI y)), (3, .int (nI x)), (4, .int d)]) hx hb dX10_degreeOf_58 hl (k := 6) rfl (nI_add i 1) (by decide) rfl (fun ls hl => ?_)
              refine lv_goto (tgt := 6) hx hb dX10_degreeOf_61 (by decide) ?_
              exact ih_2 (i + 1) (cn + 1) ls (by omega) (by omega) (by rw [cntB_t (wth_z (by assumption) (by assumption) (by assumption)), hcn]) (lv_sub hl [2, 3, 4, 5, 6, 1, 0] rfl)
  exact lp6_1 ((n - 0) + 1) 0 0 ls (Nat.lt_succ_self _) (by omega) (rfl) (lv_sub hl [2, 3, 4, 5, 6, 1, 0] rfl)

/-- X10_hangs -/
abbrev rm_c_X10_hangs : Room := { frames := 0, cells := 0, slots := 0, locals := 0 }
set_option maxHeartbeats 4000000 in
set_option maxRecDepth 100000 in
theorem c_X10_hangs (l : Launch) (G : GG) (z : Nat) (ad : Nat → Nat) (M : Mem) {th : Nat} {ln : Nat} {on : Nat} {ao : Nat} {vr : Nat} {sn : Nat} {tp : Nat} {pt : Nat} {zs : Nat} {bg : Nat} {fa : Int32} {n : Nat} {kd : Nat → Nat} {fm : Nat → Int32} {to : Nat → Int32} {sz : Nat → Nat} {rl : Nat → Nat → Nat} {en : Nat → Nat → Nat} {mk : Nat → Nat} {mf : Nat → Int32} {mu : Nat → Int32} {mz : Nat → Nat} {rr : Nat → Nat} {ee : Nat → Nat} {q : Nat} {x : Nat} (h60 : M 60 = some (cModel ad th ln on ao vr sn tp pt zs bg fa)) (h68 : M 68 = some (aI G 121 (nF mz))) (h70 : M 70 = some (aI G 726 (nF ee))) (hw : LSw n kd sz rl en) (hmr : MRel n kd fm to sz rl en mk mf mu mz rr ee) (hq : q < n) (hx : x < n) : Met l yX10_hangs wsX10_hangs rm_c_X10_hangs (Pr G z ad M [.ref (ad 60), .int (nI q), .int (nI x)]) (vp_Si (fun r : Int32 => r = bI (hgs sz en q x))) 0 0 (fun _ => False) := by
  refine Met.ofW (cc := cX10_hangs) (maxL := 5) (ret := (some .boolean)) (by decide) rfl ?_
  intro p e s m args below meth c s₁ B hml hv
  obtain ⟨rfl, hv⟩ := hv
  have hI := Iv.entry hv
  have hx := B.exec
  have hb := B.bytes
  have hr := B.returns
  have hts := atoms_spec (ws := wsX10_hangs) B.pre
  have hown : s.vm.findClass RX10 = some m.cls := findClass_of_methodNamed B.named
  have hlocks := B.notSynchronized
  have i_RX10 : ∀ w ∈ u_ws RX10 TX10 38, w ∈ wsX10_hangs := fun w h => List.mem_cons_of_mem _ (iu_X10 w h)
  have f_36 := hts _ (List.mem_cons_of_mem _ (lwg_of t_1021 rfl))
  have f_42 := hts _ (List.mem_cons_of_mem _ (lwg_of t_1023 rfl))
  have hl := lv_entry ([.ref (ad 60), .int (nI q), .int (nI x)]) (n := 5) (Nat.le_of_ble_eq_true rfl)
  rw [lg_entry_eq]
  generalize (lg_sl ([.ref (ad 60), .int (nI q), .int (nI x)]) ++ List.replicate (5 - (lg_sl ([.ref (ad 60), .int (nI q), .int (nI x)])).length) Slot.unset).toArray = ls at hl ⊢
  have hl : lv_has ls 5 [(0, .ref (ad 60)), (1, .int (nI q)), (2, .int (nI x))] := hl
  refine w_q (fun Q hQ => ?_)
  have hw1 := hw.1
  obtain ⟨hk6, hs6, hje⟩ := hw.2 q hq
  obtain ⟨hmk, hmf, hmt, hmz, hmj⟩ := hmr q hq
  refine lv_iconst (v := nI 0) hx hb dX10_hangs_0 (by decide) ?_
  refine n_eq (show _ = bI false from rfl) ?_
  refine lv_istore_n (lv' := [(3, .int (bI false)), (0, .ref (ad 60)), (1, .int (nI q)), (2, .int (nI x))]) hx hb dX10_hangs_1 rfl hl (by decide) rfl (fun ls hl => ?_)
  refine lv_bipush (v := nI 6) hx hb dX10_hangs_2 (by decide) ?_
  refine lv_iload_n hx hb dX10_hangs_4 rfl (lv_at hl 2 rfl) ?_
  refine lv_imul hx hb dX10_hangs_5 ?_
  refine n_eq (pk_mul 6 q) ?_
  refine lv_istore (lv' := [(4, .int (nI (6 * q))), (3, .int (bI false)), (0, .ref (ad 60)), (1, .int (nI q)), (2, .int (nI x))]) hx hb dX10_hangs_6 hl (by decide) rfl (fun ls hl => ?_)
  have lp8_1 : ∀ (fuel : Nat) (j : Nat) (b : Bool) (ls : Array Slot), (sz q - j) < fuel → (j ≤ sz q) → (b = hasL (olE (en q)) x j) → lv_has ls 5 [(0, .ref (ad 60)), (1, .int (nI q)), (2, .int (nI x)), (3, .int (bI b)), (4, .int (nI (6 * q + j)))] → W p l e (headSpec wsX10_hangs rm_c_X10_hangs).room s m ([.ref (ad 60), .int (nI q), .int (nI x)] : List Value).toArray below meth c s.heap [] 0 0 Q (F0 m 8 ls []) := by
    intro fuel
    induction fuel with
    | zero => intro j b ls hfu hj hb9 hl; exact absurd hfu (Nat.not_lt_zero _)
    | succ fuel ih_2 =>
      intro j b ls hfu hj hb9 hl
      refine lv_iload hx hb dX10_hangs_8 (lv_at hl 4 rfl) ?_
      refine lv_bipush (v := nI 6) hx hb dX10_hangs_10 (by decide) ?_
      refine lv_iload_n hx hb dX10_hangs_12 rfl (lv_at hl 1 rfl) ?_
      refine lv_imul hx hb dX10_hangs_13 ?_
      refine n_eq (pk_mul 6 q) ?_
      refine lv_aload_n hx hb dX10_hangs_14 rfl (lv_at hl 0 rfl) ?_
      refine h_get (C := RX10) (T := TX10) (N := 38) hx hb hts i_RX10 hown hI h60 rfl 8 (by decide) f_36 rfl rfl dX10_hangs_15 ?_
      refine lv_iload_n hx hb dX10_hangs_18 rfl (lv_at hl 1 rfl) ?_
      refine h_iald (i := q) hx hb hI h68 (by omega) (by decide) dX10_hangs_19 ?_
      refine n_eq (show _ = nI (sz q) from congrArg nI hmz) ?_
      refine lv_iadd hx hb dX10_hangs_20 ?_
      refine n_eq (nI_add (6 * q) (sz q)) ?_
      refine lv_icmp_ge (tgt := 54) hx hb dX10_hangs_21 (by decide) (fun c_3 => ?_) (fun c_3 => ?_)
      · -- 21: nI (6 * q + j) ge
        have c_3 : (6 * q) + (sz q) ≤ 6 * q + j := (nI_leI (a := (6 * q) + (sz q)) (b := 6 * q + j) (by omega) (by omega)).mp (c_3)
        refine lv_iload_n hx hb dX10_hangs_54 rfl (lv_at hl 3 rfl) ?_
        subst hQ
        exact e_Ri hx hb hr (bI_nar _) hlocks (by rw [hb9, show j = sz q by omega]; rfl) dX10_hangs_55
      · -- 21: nI (6 * q + j) lt
        have c_3 : 6 * q + j < (6 * q) + (sz q) := by have h := mt (nI_leI (a := (6 * q) + (sz q)) (b := 6 * q + j) (by omega) (by omega)).mpr c_3; omega
        obtain ⟨hrj, hej⟩ := hmj j (by omega)
        obtain ⟨hr6, he4⟩ := hje j (by omega)
        refine lv_iload_n hx hb dX10_hangs_24 rfl (lv_at hl 3 rfl) ?_
        refine lv_if_ne (tgt := 42) hx hb dX10_hangs_25 (by decide) (fun c_4 => ?_) (fun c_4 => ?_)
        · -- 25: bI b ne
          have c_4 : b = true := bI_t (c_4)
          refine lv_iconst (v := nI 1) hx hb dX10_hangs_42 (by decide) ?_
          refine n_eq (show _ = bI true from rfl) ?_
          refine lv_goto (tgt := 47) hx hb dX10_hangs_43 (by decide) ?_
          refine lv_istore_n (lv' := [(3, .int (bI true)), (0, .ref (ad 60)), (1, .int (nI q)), (2, .int (nI x)), (4, .int (nI (6 * q + j)))]) hx hb dX10_hangs_47 rfl hl (by decide) rfl (fun ls hl => ?_)
          refine lv_iinc (v := nI (6 * q + j + 1)) (lv' := [(4, .int (nI (6 * q + j + 1))), (3, .int (bI true)), (0, .ref (ad 60)), (1, .int (nI q)), (2, .int (nI x))]) hx hb dX10_hangs_48 hl (k := 4) rfl (nI_add (6 * q + j) 1) (by decide) rfl (fun ls hl => ?_)
          refine lv_goto (tgt := 8) hx hb dX10_hangs_51 (by decide) ?_
          exact ih_2 (j + 1) true ls (by omega) (by omega) (hL_old (by rw [← hb9]; assumption)) (lv_sub hl [2, 3, 4, 1, 0] rfl)
        · -- 25: bI b eq
          have c_4 : b = false := bI_f (c_4)
          refine lv_aload_n hx hb dX10_hangs_28 rfl (lv_at hl 0 rfl) ?_
          refine h_get (C := RX10) (T := TX10) (N := 38) hx hb hts i_RX10 hown hI h60 rfl 10 (by decide) f_42 rfl rfl dX10_hangs_29 ?_
          refine lv_iload hx hb dX10_hangs_32 (lv_at hl 4 rfl) ?_
          refine h_iald (i := 6 * q + j) hx hb hI h70 (by omega) (by decide) dX10_hangs_34 ?_
          refine n_eq (show _ = nI (en q j) from congrArg nI hej) ?_
          refine lv_bipush (v := nI 40) hx hb dX10_hangs_35 (by decide) ?_
          refine lv_iload_n hx hb dX10_hangs_37 rfl (lv_at hl 2 rfl) ?_
          refine lv_iadd hx hb dX10_hangs_38 ?_
          refine n_eq (nI_add 40 x) ?_
          refine lv_icmp_ne (tgt := 46) hx hb dX10_hangs_39 (by decide) (fun c_5 => ?_) (fun c_5 => ?_)
          · -- 39: nI (en q j) ne
            have c_5 : en q j ≠ 40 + x := by have h := mt (nI_eq (a := en q j) (b := 40 + x) (by omega) (by omega)).mpr c_5; omega
            refine lv_iconst (v := nI 0) hx hb dX10_hangs_46 (by decide) ?_
            refine n_eq (show _ = bI false from rfl) ?_
            refine lv_istore_n (lv' := [(3, .int (bI false)), (0, .ref (ad 60)), (1, .int (nI q)), (2, .int (nI x)), (4, .int (nI (6 * q + j)))]) hx hb dX10_hangs_47 rfl hl (by decide) rfl (fun ls hl => ?_)
            refine lv_iinc (v := nI (6 * q + j + 1)) (lv' := [(4, .int (nI (6 * q + j + 1))), (3, .int (bI false)), (0, .ref (ad 60)), (1, .int (nI q)), (2, .int (nI x))]) hx hb dX10_hangs_48 hl (k := 4) rfl (nI_add (6 * q + j) 1) (by decide) rfl (fun ls hl => ?_)
            refine lv_goto (tgt := 8) hx hb dX10_hangs_51 (by decide) ?_
            exact ih_2 (j + 1) false ls (by omega) (by omega) (hL_no (by rw [← hb9]; assumption) (by omega) (by assumption)) (lv_sub hl [2, 3, 4, 1, 0] rfl)
          · -- 39: nI (en q j) eq
            have c_5 : en q j = 40 + x := (nI_eq (a := en q j) (b := 40 + x) (by omega) (by omega)).mp (c_5)
            refine lv_iconst (v := nI 1) hx hb dX10_hangs_42 (by decide) ?_
            refine n_eq (show _ = bI true from rfl) ?_
            refine lv_goto (tgt := 47) hx hb dX10_hangs_43 (by decide) ?_
            refine lv_istore_n (lv' := [(3, .int (bI true)), (0, .ref (ad 60)), (1, .int (nI q)), (2, .int (nI x)), (4, .int (nI (6 * q + j)))]) hx hb dX10_hangs_47 rfl hl (by decide) rfl (fun ls hl => ?_)
            refine lv_iinc (v := nI (6 * q + j + 1)) (lv' := [(4, .int (nI (6 * q + j + 1))), (3, .int (bI true)), (0, .ref (ad 60)), (1, .int (nI q)), (2, .int (nI x))]) hx hb dX10_hangs_48 hl (k := 4) rfl (nI_add (6 * q + j) 1) (by decide) rfl (fun ls hl => ?_)
            refine lv_goto (tgt := 8) hx hb dX10_hangs_51 (by decide) ?_
            exact ih_2 (j + 1) true ls (by omega) (by omega) (hL_yes (by assumption) (by omega)) (lv_sub hl [2, 3, 4, 1, 0] rfl)
  exact lp8_1 ((sz q - 0) + 1) 0 false ls (Nat.lt_succ_self _) (by omega) (rfl) (lv_sub hl [2, 3, 4, 1, 0] rfl)
